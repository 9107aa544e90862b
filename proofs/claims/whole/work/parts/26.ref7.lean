/-- the twenty bytes of five numbers -/
def byF (x1 x2 x3 x4 x5 i : Int) : Int := byB (if i < 4 then x1 else if i < 8 then x2 else if i < 12 then x3 else if i < 16 then x4 else x5) (i % 4)
theorem fd_old {n : Int} {tp g1 g2 g3 g4 g5 : Int → Int} (p0 : ∀ j, j < n → g1 j = tp j) (p1 : ∀ j, j < n + 4 → g2 j = g1 j) (p2 : ∀ j, j < n + 4 + 4 → g3 j = g2 j) (p3 : ∀ j, j < n + 4 + 4 + 4 → g4 j = g3 j) (p4 : ∀ j, j < n + 4 + 4 + 4 + 4 → g5 j = g4 j) : ∀ j, j < n → g5 j = tp j := by
  intro j hj
  rw [p4 j (by omega), p3 j (by omega), p2 j (by omega), p1 j (by omega), p0 j hj]
theorem fd_all {n x1 x2 x3 x4 x5 : Int} {g1 g2 g3 g4 g5 : Int → Int} (q0 : ∀ i, 0 ≤ i → i < 4 → g1 (n + i) = byB x1 i) (p1 : ∀ j, j < n + 4 → g2 j = g1 j) (q1 : ∀ i, 0 ≤ i → i < 4 → g2 (n + 4 + i) = byB x2 i) (p2 : ∀ j, j < n + 4 + 4 → g3 j = g2 j) (q2 : ∀ i, 0 ≤ i → i < 4 → g3 (n + 4 + 4 + i) = byB x3 i) (p3 : ∀ j, j < n + 4 + 4 + 4 → g4 j = g3 j) (q3 : ∀ i, 0 ≤ i → i < 4 → g4 (n + 4 + 4 + 4 + i) = byB x4 i) (p4 : ∀ j, j < n + 4 + 4 + 4 + 4 → g5 j = g4 j) (q4 : ∀ i, 0 ≤ i → i < 4 → g5 (n + 4 + 4 + 4 + 4 + i) = byB x5 i) : ∀ i, 0 ≤ i → i < 20 → g5 (n + i) = byF x1 x2 x3 x4 x5 i := by
  intro i i0 i1
  unfold byF
  by_cases c1 : i < 4
  · rw [if_pos c1, p4 _ (by omega), p3 _ (by omega), p2 _ (by omega), p1 _ (by omega), q0 i i0 c1, show i % 4 = i by omega]
  · rw [if_neg c1]
    by_cases c2 : i < 8
    · have h := q1 (i - 4) (by omega) (by omega)
      rw [show n + 4 + (i - 4) = n + i by omega] at h
      rw [if_pos c2, p4 _ (by omega), p3 _ (by omega), p2 _ (by omega), h, show i % 4 = i - 4 by omega]
    · rw [if_neg c2]
      by_cases c3 : i < 12
      · have h := q2 (i - 8) (by omega) (by omega)
        rw [show n + 4 + 4 + (i - 8) = n + i by omega] at h
        rw [if_pos c3, p4 _ (by omega), p3 _ (by omega), h, show i % 4 = i - 8 by omega]
      · rw [if_neg c3]
        by_cases c4 : i < 16
        · have h := q3 (i - 12) (by omega) (by omega)
          rw [show n + 4 + 4 + 4 + (i - 12) = n + i by omega] at h
          rw [if_pos c4, p4 _ (by omega), h, show i % 4 = i - 12 by omega]
        · have h := q4 (i - 16) (by omega) (by omega)
          rw [show n + 4 + 4 + 4 + 4 + (i - 16) = n + i by omega] at h
          rw [if_neg c4, h, show i % 4 = i - 16 by omega]
theorem fd_int {a b : Int} {Q : Int → Prop} (e : a = b) (h : Q b) : Q a := e ▸ h

set_option maxRecDepth 100000 in
theorem c_X8_feed {E : Ev} {M : Mem} {Post : Option Value → Mem → Prop} {m t : Nat} {f0 f3 f4 f5 f6 f7 f8 f9 f10 f11 f12 f13 f14 f15 f16 f17 : Value} {n : Int} {tp : Int → Int} (hm : M[m]? = some (ob 8 [f0, rr E t, iv n, f3, f4, f5, f6, f7, f8, f9, f10, f11, f12, f13, f14, f15, f16, f17])) (ht : M[t]? = some (ia E 0 640 tp)) {x1 x2 x3 x4 x5 : Int} (n0 : 0 ≤ n) (n1 : n ≤ 640) (hp : n ≤ 620 → ∀ g, (∀ j, j < n → g j = tp j) → (∀ i, 0 ≤ i → i < 20 → g (n + i) = byF x1 x2 x3 x4 x5 i) → Post (some (iv (n + 20))) ((M.set t (ia E 0 640 g)).set m (ob 8 [f0, rr E t, iv (n + 20), f3, f4, f5, f6, f7, f8, f9, f10, f11, f12, f13, f14, f15, f16, f17]))) (hq : 620 < n → Post (some (iv (-1))) M) : Cn E rX8_feed mX8_feed [rr E m, iv x1, iv x2, iv x3, iv x4, iv x5] M Post := by
  have hmt : m ≠ t := (ob_ia hm ht).symm
  refine Cn.of (L := [some (rr E m), some (iv x1), some (iv x2), some (iv x3), some (iv x4), some (iv x5)]) (by decide) (Nat.le_of_ble_eq_true rfl) rfl ?_
  refine v_aload_0 dX8_feed_0 ?_
  refine g_X8_11 rfl dX8_feed_1 hm ?_
  refine v_bipush dX8_feed_4 (by decide) ?_
  refine v_iadd dX8_feed_6 ?_
  refine v_sipush dX8_feed_7 (by decide) ?_
  refine v_icmp_le (tgt := 15) dX8_feed_10 rfl ⟨by omega, by omega⟩ ⟨by omega, by omega⟩ (fun c10 => ?_) (fun c10 => ?_)
  · refine v_aload_0 dX8_feed_15 ?_
    refine v_iload_1 dX8_feed_16 ?_
    refine l_X8_14 rfl dX8_feed_17 hm ⟨Nat.le_of_ble_eq_true rfl, Nat.le_of_ble_eq_true rfl⟩ (Nat.le_of_ble_eq_true rfl) ⟨Nat.le_refl _, Nat.le_refl _⟩ (c_X8_lays hm ht (by omega) (by omega) (fun g1 p0 q0 => ?_))
    refine v_aload_0 dX8_feed_20 ?_
    refine v_iload_2 dX8_feed_21 ?_
    refine l_X8_14 rfl dX8_feed_22 (gs_eq (gs_ne (ob_ia hm ht) hm)) ⟨Nat.le_of_ble_eq_true rfl, Nat.le_of_ble_eq_true rfl⟩ (Nat.le_of_ble_eq_true rfl) ⟨Nat.le_refl _, Nat.le_refl _⟩ (c_X8_lays (gs_eq (gs_ne (ob_ia hm ht) hm)) (gs_ne (ob_ia hm ht).symm (gs_eq ht)) (by omega) (by omega) (fun g2 p1 q1 => ?_))
    rw [List.set_comm _ _ hmt, gs_gs, gs_gs]
    refine v_aload_0 dX8_feed_25 ?_
    refine v_iload_3 dX8_feed_26 ?_
    refine l_X8_14 rfl dX8_feed_27 (gs_eq (gs_ne (ob_ia hm ht) hm)) ⟨Nat.le_of_ble_eq_true rfl, Nat.le_of_ble_eq_true rfl⟩ (Nat.le_of_ble_eq_true rfl) ⟨Nat.le_refl _, Nat.le_refl _⟩ (c_X8_lays (gs_eq (gs_ne (ob_ia hm ht) hm)) (gs_ne (ob_ia hm ht).symm (gs_eq ht)) (by omega) (by omega) (fun g3 p2 q2 => ?_))
    rw [List.set_comm _ _ hmt, gs_gs, gs_gs]
    refine v_aload_0 dX8_feed_30 ?_
    refine v_iload_4 dX8_feed_31 ?_
    refine l_X8_14 rfl dX8_feed_33 (gs_eq (gs_ne (ob_ia hm ht) hm)) ⟨Nat.le_of_ble_eq_true rfl, Nat.le_of_ble_eq_true rfl⟩ (Nat.le_of_ble_eq_true rfl) ⟨Nat.le_refl _, Nat.le_refl _⟩ (c_X8_lays (gs_eq (gs_ne (ob_ia hm ht) hm)) (gs_ne (ob_ia hm ht).symm (gs_eq ht)) (by omega) (by omega) (fun g4 p3 q3 => ?_))
    rw [List.set_comm _ _ hmt, gs_gs, gs_gs]
    refine v_aload_0 dX8_feed_36 ?_
    refine v_iload_5 dX8_feed_37 ?_
    refine l_X8_14 rfl dX8_feed_39 (gs_eq (gs_ne (ob_ia hm ht) hm)) ⟨Nat.le_of_ble_eq_true rfl, Nat.le_of_ble_eq_true rfl⟩ (Nat.le_of_ble_eq_true rfl) ⟨Nat.le_refl _, Nat.le_refl _⟩ (c_X8_lays (gs_eq (gs_ne (ob_ia hm ht) hm)) (gs_ne (ob_ia hm ht).symm (gs_eq ht)) (by omega) (by omega) (fun g5 p4 q4 => ?_))
    rw [List.set_comm _ _ hmt, gs_gs, gs_gs]
    refine v_aload_0 dX8_feed_42 ?_
    refine g_X8_11 rfl dX8_feed_43 (gs_eq (gs_ne (ob_ia hm ht) hm)) ?_
    exact v_iret dX8_feed_46 rfl (Nat.le_refl _) (Nat.le_refl _) (fd_int (Q := fun z => Post (some (iv z)) ((M.set t (ia E 0 640 g5)).set m (ob 8 [f0, rr E t, iv z, f3, f4, f5, f6, f7, f8, f9, f10, f11, f12, f13, f14, f15, f16, f17]))) (show n + 4 + 4 + 4 + 4 + 4 = n + 20 by omega) (hp (by omega) g5 (fd_old p0 p1 p2 p3 p4) (fd_all q0 p1 q1 p2 q2 p3 q3 p4 q4)))
  · refine v_iconst dX8_feed_13 ?_
    exact v_iret dX8_feed_14 rfl (Nat.le_refl _) (Nat.le_refl _) (hq (by omega))

set_option maxRecDepth 100000 in
theorem c_X8_end {E : Ev} {M : Mem} {Post : Option Value → Mem → Prop} {m : Nat} {f0 f1 f3 f4 f5 f6 f7 f8 f9 f10 f11 f12 f13 f14 f15 f16 f17 : Value} {n : Int} (hm : M[m]? = some (ob 8 [f0, f1, iv n, f3, f4, f5, f6, f7, f8, f9, f10, f11, f12, f13, f14, f15, f16, f17])) {x : Int} (n0 : 0 ≤ n) (n1 : n ≤ 640) (hx : I32 x) (hp : 0 ≤ x → x ≤ n → Post (some (iv 1)) (M.set m (ob 8 [f0, f1, iv x, f3, f4, f5, f6, f7, f8, f9, f10, f11, f12, f13, f14, f15, f16, f17]))) (hq : ¬ (0 ≤ x ∧ x ≤ n) → Post (some (iv 0)) M) : Cn E rX8_end mX8_end [rr E m, iv x] M Post := by
  refine Cn.of (L := [some (rr E m), some (iv x)]) (by decide) (Nat.le_of_ble_eq_true rfl) rfl ?_
  refine v_iload_1 dX8_end_0 ?_
  refine v_if_lt (tgt := 12) dX8_end_1 rfl hx (fun c1 => ?_) (fun c1 => ?_)
  · refine v_iconst dX8_end_12 ?_
    exact v_zret dX8_end_13 rfl (Nat.le_refl _) (Nat.le_refl _) (by first | exact Or.inl rfl | exact Or.inr rfl | exact pI_01 _) (hq (by omega))
  · refine v_iload_1 dX8_end_4 ?_
    refine v_aload_0 dX8_end_5 ?_
    refine g_X8_11 rfl dX8_end_6 hm ?_
    refine v_icmp_le (tgt := 14) dX8_end_9 rfl hx ⟨by omega, by omega⟩ (fun c9 => ?_) (fun c9 => ?_)
    · refine v_aload_0 dX8_end_14 ?_
      refine v_iload_1 dX8_end_15 ?_
      refine p_X8_11 rfl dX8_end_16 hm ?_
      refine v_iconst dX8_end_19 ?_
      exact v_zret dX8_end_20 rfl (Nat.le_refl _) (Nat.le_refl _) (by first | exact Or.inl rfl | exact Or.inr rfl | exact pI_01 _) (hp (by omega) (by omega))
    · refine v_iconst dX8_end_12 ?_
      exact v_zret dX8_end_13 rfl (Nat.le_refl _) (Nat.le_refl _) (by first | exact Or.inl rfl | exact Or.inr rfl | exact pI_01 _) (hq (by omega))

set_option maxRecDepth 100000 in
theorem c_X8_fault {E : Ev} {M : Mem} {Post : Option Value → Mem → Prop} {m : Nat} {f0 f1 f2 f3 f4 f5 f6 f7 f9 f10 f11 f12 f13 f14 f15 f16 f17 : Value} {z : Int} (hm : M[m]? = some (ob 8 [f0, f1, f2, f3, f4, f5, f6, f7, iv z, f9, f10, f11, f12, f13, f14, f15, f16, f17])) (hp : Post (some (iv z)) M) : Cn E rX8_fault mX8_fault [rr E m] M Post := by
  refine Cn.of (L := [some (rr E m)]) (by decide) (Nat.le_of_ble_eq_true rfl) rfl ?_
  refine v_aload_0 dX8_fault_0 ?_
  refine g_X8_62 rfl dX8_fault_1 hm ?_
  exact v_iret dX8_fault_4 rfl (Nat.le_refl _) (Nat.le_refl _) hp

def qNo (w : Int → Int) (n tl t : Int) : Int := if t = 0 then w 0 else if t = 1 then w 1 else if t = 2 then w 2 else if t = 3 then crW w else if t = 4 then w 3 else if t = 5 then n else if t = 6 then tl else -1
theorem qNo_n {w : Int → Int} {n tl t : Int} (h : t < 0 ∨ 6 < t) : qNo w n tl t = -1 := by
  unfold qNo
  rw [if_neg (by omega), if_neg (by omega), if_neg (by omega), if_neg (by omega), if_neg (by omega), if_neg (by omega), if_neg (by omega)]

set_option maxRecDepth 100000 in
theorem c_X8_now {E : Ev} {M : Mem} {Post : Option Value → Mem → Prop} {m a : Nat} {f0 f1 f3 f4 f5 f6 f7 f8 f9 f10 f12 f13 f15 f16 f17 : Value} {w : Int → Int} {n tl : Int} (hm : M[m]? = some (ob 8 [f0, f1, iv tl, f3, f4, f5, f6, f7, f8, f9, f10, rr E a, f12, f13, iv n, f15, f16, f17])) (ha : M[a]? = some (ia E 0 770 w)) (hw : WF w) {t : Int} (ht : I32 t) (hp : Post (some (iv (qNo w n tl t))) M) : Cn E rX8_now mX8_now [rr E m, iv t] M Post := by
  refine Cn.of (L := [some (rr E m), some (iv t)]) (by decide) (Nat.le_of_ble_eq_true rfl) rfl ?_
  refine v_iload_1 dX8_now_0 ?_
  rcases (show t = 0 ∨ t = 1 ∨ t = 2 ∨ t = 3 ∨ t = 4 ∨ t = 5 ∨ t = 6 ∨ (t < 0 ∨ 6 < t) by omega) with rfl | rfl | rfl | rfl | rfl | rfl | rfl | tn
  · refine v_swin (tgt := 44) dX8_now_1 ⟨by omega, by omega⟩ (by omega) (by omega) rfl rfl ?_
    refine v_aload_0 dX8_now_44 ?_
    refine g_X8_74 rfl dX8_now_45 hm ?_
    refine v_iconst dX8_now_48 ?_
    refine v_iaload dX8_now_49 ha (by omega) (by omega) (by decide) ?_
    exact v_iret dX8_now_50 rfl (Nat.le_refl _) (Nat.le_refl _) hp
  · refine v_swin (tgt := 51) dX8_now_1 ⟨by omega, by omega⟩ (by omega) (by omega) rfl rfl ?_
    refine v_aload_0 dX8_now_51 ?_
    refine g_X8_74 rfl dX8_now_52 hm ?_
    refine v_iconst dX8_now_55 ?_
    refine v_iaload dX8_now_56 ha (by omega) (by omega) (by decide) ?_
    exact v_iret dX8_now_57 rfl (Nat.le_refl _) (Nat.le_refl _) hp
  · refine v_swin (tgt := 58) dX8_now_1 ⟨by omega, by omega⟩ (by omega) (by omega) rfl rfl ?_
    refine v_aload_0 dX8_now_58 ?_
    refine g_X8_74 rfl dX8_now_59 hm ?_
    refine v_iconst dX8_now_62 ?_
    refine v_iaload dX8_now_63 ha (by omega) (by omega) (by decide) ?_
    exact v_iret dX8_now_64 rfl (Nat.le_refl _) (Nat.le_refl _) hp
  · refine v_swin (tgt := 65) dX8_now_1 ⟨by omega, by omega⟩ (by omega) (by omega) rfl rfl ?_
    refine v_aload_0 dX8_now_65 ?_
    refine l_X8_184 rfl dX8_now_66 hm ⟨Nat.le_of_ble_eq_true rfl, Nat.le_of_ble_eq_true rfl⟩ (Nat.le_of_ble_eq_true rfl) ⟨Nat.le_refl _, Nat.le_refl _⟩ (c_X8_readMany hm ha hw ?_)
    exact v_iret dX8_now_69 rfl (Nat.le_refl _) (Nat.le_refl _) hp
  · refine v_swin (tgt := 70) dX8_now_1 ⟨by omega, by omega⟩ (by omega) (by omega) rfl rfl ?_
    refine v_aload_0 dX8_now_70 ?_
    refine g_X8_74 rfl dX8_now_71 hm ?_
    refine v_iconst dX8_now_74 ?_
    refine v_iaload dX8_now_75 ha (by omega) (by omega) (by decide) ?_
    exact v_iret dX8_now_76 rfl (Nat.le_refl _) (Nat.le_refl _) hp
  · refine v_swin (tgt := 77) dX8_now_1 ⟨by omega, by omega⟩ (by omega) (by omega) rfl rfl ?_
    refine v_aload_0 dX8_now_77 ?_
    refine g_X8_154 rfl dX8_now_78 hm ?_
    exact v_iret dX8_now_81 rfl (Nat.le_refl _) (Nat.le_refl _) hp
  · refine v_swin (tgt := 82) dX8_now_1 ⟨by omega, by omega⟩ (by omega) (by omega) rfl rfl ?_
    refine v_aload_0 dX8_now_82 ?_
    refine g_X8_11 rfl dX8_now_83 hm ?_
    exact v_iret dX8_now_86 rfl (Nat.le_refl _) (Nat.le_refl _) hp
  · refine v_swout (tgt := 87) dX8_now_1 ht tn rfl ?_
    refine v_iconst dX8_now_87 ?_
    exact v_iret dX8_now_88 rfl (Nat.le_refl _) (Nat.le_refl _) (by rw [qNo_n tn] at hp; exact hp)

set_option maxRecDepth 100000 in
theorem c_X8_pass {E : Ev} {M : Mem} {Post : Option Value → Mem → Prop} {m a c : Nat} {f0 f1 f2 f3 f4 f5 f6 f7 f8 f9 f10 f12 f15 f16 f17 : Value} {w sn : Int → Int} {n : Nat} {rows : Nat → Int → Int} (hm : M[m]? = some (ob 8 [f0, f1, f2, f3, f4, f5, f6, f7, f8, f9, f10, rr E a, f12, rr E c, iv (n : Nat), f15, f16, f17])) (ha : M[a]? = some (ia E 0 770 w)) (hc : M[c]? = some (ia E 0 7700 sn)) (hca : c ≠ a) (hn : n ≤ 10) (hr : rows n = w) (hs : SnAt n rows sn) (hw : WF w) {x : Int} (hx : I32 x) (hp : Cp w x → ∀ sn2, SnAt (bn n + 1) (br n rows) sn2 → Post (some (iv (w 0 + x))) (((M.set m (ob 8 [f0, f1, f2, f3, f4, f5, f6, f7, f8, f9, f10, rr E a, f12, rr E c, iv ((bn n + 1 : Nat) : Int), f15, f16, f17])).set c (ia E 0 7700 sn2)).set a (ia E 0 770 (paW w x)))) (hq : ¬ Cp w x → Post (some (iv (-1))) M) : Cn E rX8_pass mX8_pass [rr E m, iv x] M Post := by
  have hmc : m ≠ c := (ob_ia hm hc).symm
  have hma : m ≠ a := (ob_ia hm ha).symm
  refine Cn.of (L := [some (rr E m), some (iv x)]) (by decide) (Nat.le_of_ble_eq_true rfl) rfl ?_
  refine v_iload_1 dX8_pass_0 ?_
  refine v_iconst dX8_pass_1 ?_
  refine v_bipush dX8_pass_2 (by decide) ?_
  refine l_X8_89 rfl dX8_pass_4 ⟨Nat.le_of_ble_eq_true rfl, Nat.le_of_ble_eq_true rfl⟩ (Nat.le_of_ble_eq_true rfl) ⟨Nat.le_refl _, Nat.le_refl _⟩ (c_X8_isIn hx ⟨by omega, by omega⟩ ⟨by omega, by omega⟩ ?_)
  refine v_ifeq_b (tgt := 23) dX8_pass_7 rfl (fun c7 => ?_) (fun c7 => ?_)
  · refine v_iconst dX8_pass_23 ?_
    exact v_iret dX8_pass_24 rfl (Nat.le_refl _) (Nat.le_refl _) (hq (by omega))
  · refine v_aload_0 dX8_pass_10 ?_
    refine g_X8_74 rfl dX8_pass_11 hm ?_
    refine v_iconst dX8_pass_14 ?_
    have n0 := hw.1
    refine v_iaload dX8_pass_15 ha (by omega) (by omega) (by decide) ?_
    refine v_iload_1 dX8_pass_16 ?_
    refine v_iadd dX8_pass_17 ?_
    refine v_bipush dX8_pass_18 (by decide) ?_
    refine v_icmp_le (tgt := 25) dX8_pass_20 rfl ⟨by omega, by omega⟩ ⟨by omega, by omega⟩ (fun c20 => ?_) (fun c20 => ?_)
    · refine v_aload_0 dX8_pass_25 ?_
      refine l_X8_206 rfl dX8_pass_26 hm ⟨Nat.le_of_ble_eq_true rfl, Nat.le_of_ble_eq_true rfl⟩ (Nat.le_of_ble_eq_true rfl) ⟨Nat.le_refl _, Nat.le_refl _⟩ (c_X8_snap hm ha hc hca hn hr hs (fun sn2 hsn => ?_))
      refine v_aload_0 dX8_pass_29 ?_
      refine g_X8_74 rfl dX8_pass_30 (gs_ne hmc.symm (gs_eq hm)) ?_
      refine v_iconst dX8_pass_33 ?_
      refine v_dup2ir dX8_pass_34 ?_
      refine v_iaload dX8_pass_35 (gs_ne hca (gs_ne hma ha)) (by omega) (by omega) (by decide) ?_
      refine v_iload_1 dX8_pass_36 ?_
      refine v_iadd dX8_pass_37 ?_
      refine v_iastore dX8_pass_38 (gs_ne hca (gs_ne hma ha)) (by omega) (by omega) (by decide) ?_
      refine v_aload_0 dX8_pass_39 ?_
      refine g_X8_74 rfl dX8_pass_40 (gs_ne hma.symm (gs_ne hmc.symm (gs_eq hm))) ?_
      refine v_iconst dX8_pass_43 ?_
      refine v_iaload dX8_pass_44 (gs_eq (gs_ne hca (gs_ne hma ha))) (by omega) (by omega) (by decide) ?_
      rw [upI_s]
      exact v_iret dX8_pass_45 rfl (Nat.le_refl _) (Nat.le_refl _) (hp ⟨by omega, by omega, by omega⟩ sn2 hsn)
    · refine v_iconst dX8_pass_23 ?_
      exact v_iret dX8_pass_24 rfl (Nat.le_refl _) (Nat.le_refl _) (hq (by omega))

set_option maxRecDepth 100000 in
theorem c_X8_smooth {E : Ev} {M : Mem} {Post : Option Value → Mem → Prop} {m a c : Nat} {f0 f1 f2 f3 f4 f5 f6 f7 f8 f9 f10 f12 f15 f16 f17 : Value} {w sn : Int → Int} {n : Nat} {rows : Nat → Int → Int} (hm : M[m]? = some (ob 8 [f0, f1, f2, f3, f4, f5, f6, f7, f8, f9, f10, rr E a, f12, rr E c, iv (n : Nat), f15, f16, f17])) (ha : M[a]? = some (ia E 0 770 w)) (hc : M[c]? = some (ia E 0 7700 sn)) (hca : c ≠ a) (hn : n ≤ 10) (hr : rows n = w) (hs : SnAt n rows sn) (hw : WF w) {x : Int} (hx : I32 x) (hp : Cs x → ∀ sn2, SnAt (bn n + 1) (br n rows) sn2 → Post (some (iv (w 3))) (((M.set m (ob 8 [f0, f1, f2, f3, f4, f5, f6, f7, f8, f9, f10, rr E a, f12, rr E c, iv ((bn n + 1 : Nat) : Int), f15, f16, f17])).set c (ia E 0 7700 sn2)).set a (ia E 0 770 (smW w x)))) (hq : ¬ Cs x → Post (some (iv (-1))) M) : Cn E rX8_smooth mX8_smooth [rr E m, iv x] M Post := by
  have hmc : m ≠ c := (ob_ia hm hc).symm
  have hma : m ≠ a := (ob_ia hm ha).symm
  refine Cn.of (L := [some (rr E m), some (iv x), none]) (by decide) (Nat.le_of_ble_eq_true rfl) rfl ?_
  refine v_iload_1 dX8_smooth_0 ?_
  refine v_iconst dX8_smooth_1 ?_
  refine v_bipush dX8_smooth_2 (by decide) ?_
  refine l_X8_89 rfl dX8_smooth_4 ⟨Nat.le_of_ble_eq_true rfl, Nat.le_of_ble_eq_true rfl⟩ (Nat.le_of_ble_eq_true rfl) ⟨Nat.le_refl _, Nat.le_refl _⟩ (c_X8_isIn hx ⟨by omega, by omega⟩ ⟨by omega, by omega⟩ ?_)
  refine v_ifne_b (tgt := 12) dX8_smooth_7 rfl (fun c7 => ?_) (fun c7 => ?_)
  · refine v_aload_0 dX8_smooth_12 ?_
    refine l_X8_206 rfl dX8_smooth_13 hm ⟨Nat.le_of_ble_eq_true rfl, Nat.le_of_ble_eq_true rfl⟩ (Nat.le_of_ble_eq_true rfl) ⟨Nat.le_refl _, Nat.le_refl _⟩ (c_X8_snap hm ha hc hca hn hr hs (fun sn2 hsn => ?_))
    refine v_aload_0 dX8_smooth_16 ?_
    refine g_X8_74 rfl dX8_smooth_17 (gs_ne hmc.symm (gs_eq hm)) ?_
    refine v_iconst dX8_smooth_20 ?_
    refine v_iaload dX8_smooth_21 (gs_ne hca (gs_ne hma ha)) (by omega) (by omega) (by decide) ?_
    refine v_istore_2 dX8_smooth_22 (Nat.le_of_ble_eq_true rfl) rfl ?_
    refine v_aload_0 dX8_smooth_23 ?_
    refine g_X8_74 rfl dX8_smooth_24 (gs_ne hmc.symm (gs_eq hm)) ?_
    refine v_iconst dX8_smooth_27 ?_
    refine v_iload_1 dX8_smooth_28 ?_
    refine v_iastore dX8_smooth_29 (gs_ne hca (gs_ne hma ha)) (by omega) (by omega) (by decide) ?_
    refine v_iload_2 dX8_smooth_30 ?_
    exact v_iret dX8_smooth_31 rfl (Nat.le_refl _) (Nat.le_refl _) (hp (by omega) sn2 hsn)
  · refine v_iconst dX8_smooth_10 ?_
    exact v_iret dX8_smooth_11 rfl (Nat.le_refl _) (Nat.le_refl _) (hq (by omega))

set_option maxRecDepth 100000 in
theorem c_X8_window {E : Ev} {M : Mem} {Post : Option Value → Mem → Prop} {m a c : Nat} {f0 f1 f2 f3 f4 f5 f6 f7 f8 f9 f10 f12 f15 f16 f17 : Value} {w sn : Int → Int} {n : Nat} {rows : Nat → Int → Int} (hm : M[m]? = some (ob 8 [f0, f1, f2, f3, f4, f5, f6, f7, f8, f9, f10, rr E a, f12, rr E c, iv (n : Nat), f15, f16, f17])) (ha : M[a]? = some (ia E 0 770 w)) (hc : M[c]? = some (ia E 0 7700 sn)) (hca : c ≠ a) (hn : n ≤ 10) (hr : rows n = w) (hs : SnAt n rows sn) (hw : WF w) {k x y : Int} (hk : I32 k) (hx : I32 x) (hy : I32 y) (hp : Cw w k x y → ∀ sn2, SnAt (bn n + 1) (br n rows) sn2 → Post (some (iv 1)) (((M.set m (ob 8 [f0, f1, f2, f3, f4, f5, f6, f7, f8, f9, f10, rr E a, f12, rr E c, iv ((bn n + 1 : Nat) : Int), f15, f16, f17])).set c (ia E 0 7700 sn2)).set a (ia E 0 770 (wiW w k x y)))) (hq : ¬ Cw w k x y → Post (some (iv 0)) M) : Cn E rX8_window mX8_window [rr E m, iv k, iv x, iv y] M Post := by
  have hmc : m ≠ c := (ob_ia hm hc).symm
  have hma : m ≠ a := (ob_ia hm ha).symm
  refine Cn.of (L := [some (rr E m), some (iv k), some (iv x), some (iv y)]) (by decide) (Nat.le_of_ble_eq_true rfl) rfl ?_
  refine v_aload_0 dX8_window_0 ?_
  refine v_iload_1 dX8_window_1 ?_
  refine l_X8_160 rfl dX8_window_2 hm ⟨Nat.le_of_ble_eq_true rfl, Nat.le_of_ble_eq_true rfl⟩ (Nat.le_of_ble_eq_true rfl) ⟨Nat.le_refl _, Nat.le_refl _⟩ (c_X8_isSubstance_ hm ha hw hk ?_)
  refine v_ifeq_b (tgt := 27) dX8_window_5 rfl (fun c5 => ?_) (fun c5 => ?_)
  · refine v_iconst dX8_window_27 ?_
    exact v_zret dX8_window_28 rfl (Nat.le_refl _) (Nat.le_refl _) (by first | exact Or.inl rfl | exact Or.inr rfl | exact pI_01 _) (hq (by omega))
  · refine v_iload_2 dX8_window_8 ?_
    refine v_iconst dX8_window_9 ?_
    refine v_bipush dX8_window_10 (by decide) ?_
    refine l_X8_89 rfl dX8_window_12 ⟨Nat.le_of_ble_eq_true rfl, Nat.le_of_ble_eq_true rfl⟩ (Nat.le_of_ble_eq_true rfl) ⟨Nat.le_refl _, Nat.le_refl _⟩ (c_X8_isIn hx ⟨by omega, by omega⟩ ⟨by omega, by omega⟩ ?_)
    refine v_ifeq_b (tgt := 27) dX8_window_15 rfl (fun c15 => ?_) (fun c15 => ?_)
    · refine v_iconst dX8_window_27 ?_
      exact v_zret dX8_window_28 rfl (Nat.le_refl _) (Nat.le_refl _) (by first | exact Or.inl rfl | exact Or.inr rfl | exact pI_01 _) (hq (by omega))
    · refine v_iload_3 dX8_window_18 ?_
      refine v_iconst dX8_window_19 ?_
      refine v_iload_2 dX8_window_20 ?_
      refine l_X8_89 rfl dX8_window_21 ⟨Nat.le_of_ble_eq_true rfl, Nat.le_of_ble_eq_true rfl⟩ (Nat.le_of_ble_eq_true rfl) ⟨Nat.le_refl _, Nat.le_refl _⟩ (c_X8_isIn hy ⟨by omega, by omega⟩ hx ?_)
      refine v_ifne_b (tgt := 29) dX8_window_24 rfl (fun c24 => ?_) (fun c24 => ?_)
      · refine v_aload_0 dX8_window_29 ?_
        refine l_X8_206 rfl dX8_window_30 hm ⟨Nat.le_of_ble_eq_true rfl, Nat.le_of_ble_eq_true rfl⟩ (Nat.le_of_ble_eq_true rfl) ⟨Nat.le_refl _, Nat.le_refl _⟩ (c_X8_snap hm ha hc hca hn hr hs (fun sn2 hsn => ?_))
        refine v_aload_0 dX8_window_33 ?_
        refine g_X8_74 rfl dX8_window_34 (gs_ne hmc.symm (gs_eq hm)) ?_
        refine v_bipush dX8_window_37 (by decide) ?_
        refine v_bipush dX8_window_39 (by decide) ?_
        refine v_iload_1 dX8_window_41 ?_
        refine v_imul dX8_window_42 ?_
        refine v_iadd dX8_window_43 ?_
        refine v_iconst dX8_window_44 ?_
        refine v_iadd dX8_window_45 ?_
        refine v_iload_2 dX8_window_46 ?_
        refine v_iastore dX8_window_47 (gs_ne hca (gs_ne hma ha)) (by omega) (by have := hw.2.1; omega) (by decide) ?_
        refine v_aload_0 dX8_window_48 ?_
        refine g_X8_74 rfl dX8_window_49 (gs_ne hma.symm (gs_ne hmc.symm (gs_eq hm))) ?_
        refine v_bipush dX8_window_52 (by decide) ?_
        refine v_bipush dX8_window_54 (by decide) ?_
        refine v_iload_1 dX8_window_56 ?_
        refine v_imul dX8_window_57 ?_
        refine v_iadd dX8_window_58 ?_
        refine v_iconst dX8_window_59 ?_
        refine v_iadd dX8_window_60 ?_
        refine v_iload_3 dX8_window_61 ?_
        refine v_iastore dX8_window_62 (gs_eq (gs_ne hca (gs_ne hma ha))) (by omega) (by have := hw.2.1; omega) (by decide) ?_
        rw [gs_gs, show 7 + 13 * k + 0 = 7 + 13 * k by omega, show 7 + 13 * k + 1 = 8 + 13 * k by omega]
        refine v_iconst dX8_window_63 ?_
        exact v_zret dX8_window_64 rfl (Nat.le_refl _) (Nat.le_refl _) (by first | exact Or.inl rfl | exact Or.inr rfl | exact pI_01 _) (hp ⟨⟨by omega, by omega⟩, by omega, by omega, by omega, by omega⟩ sn2 hsn)
      · refine v_iconst dX8_window_27 ?_
        exact v_zret dX8_window_28 rfl (Nat.le_refl _) (Nat.le_refl _) (by first | exact Or.inl rfl | exact Or.inr rfl | exact pI_01 _) (hq (by omega))

set_option maxRecDepth 100000 in
theorem lp_X8_undo {E : Ev} {M : Mem} {Post : Option Value → Mem → Prop} {m a c : Nat} {f0 f1 f2 f3 f4 f5 f6 f7 f8 f9 f10 f12 f15 f16 f17 : Value} {w sn : Int → Int} {n : Nat} {rows : Nat → Int → Int} (hm : M[m]? = some (ob 8 [f0, f1, f2, f3, f4, f5, f6, f7, f8, f9, f10, rr E a, f12, rr E c, iv (n : Nat), f15, f16, f17])) (ha : M[a]? = some (ia E 0 770 w)) (hc : M[c]? = some (ia E 0 7700 sn)) (hca : c ≠ a) (hn : n ≤ 10) (hr : rows n = w) (hs : SnAt n rows sn) (hw : WF w) (n1 : 1 ≤ n) (hp : 1 ≤ n → Post (some (iv ((n : Int) - 1))) ((M.set m (ob 8 [f0, f1, f2, f3, f4, f5, f6, f7, f8, f9, f10, rr E a, f12, rr E c, iv ((n : Int) - 1), f15, f16, f17])).set a (ia E 0 770 (rows (n - 1))))) : V E rX8_undo mX8_undo (finM E rX8_undo Post) 0 0 (M.set m (ob 8 [f0, f1, f2, f3, f4, f5, f6, f7, f8, f9, f10, rr E a, f12, rr E c, iv ((n : Int) - 1), f15, f16, f17])) 21 [some (rr E m), some (iv 0)] [] := by
  have hmc : m ≠ c := (ob_ia hm hc).symm
  have hma : m ≠ a := (ob_ia hm ha).symm
  have lp : ∀ (r : Nat) (x : Int) (g : Int → Int), (0 ≤ x) → (x ≤ 770) → (∀ j, 0 ≤ j → j < x → g j = (fun j => sn (770 * ((n : Int) - 1) + j)) j) → 770 - x < (r : Int) → V E rX8_undo mX8_undo (finM E rX8_undo Post) 0 0 ((M.set m (ob 8 [f0, f1, f2, f3, f4, f5, f6, f7, f8, f9, f10, rr E a, f12, rr E c, iv ((n : Int) - 1), f15, f16, f17])).set a (ia E 0 770 g)) 21 [some (rr E m), some (iv x)] [] := by
    intro r
    induction r with
    | zero => intro x g h_0 h_1 h_2 hz; exact absurd hz (by omega)
    | succ r ih =>
      intro x g h_0 h_1 h_2 hz
      refine v_iload_1 dX8_undo_21 ?_
      refine v_sipush dX8_undo_22 (by decide) ?_
      refine v_icmp_ge (tgt := 55) dX8_undo_25 rfl ⟨by omega, by omega⟩ ⟨by omega, by omega⟩ (fun c25 => ?_) (fun c25 => ?_)
      · refine v_arr (g := rows (n - 1)) (gs_eq (gs_ne hma ha)) (fun j j0 j1 => ?_) ?_
        · rw [h_2 j (by omega) (by omega)]
          show sn (770 * ((n : Int) - 1) + j) = _
          rw [show ((n : Int) - 1) = ((n - 1 : Nat) : Int) by omega]
          exact hs (n - 1) (by omega) j (by omega) (by omega)
        rw [gs_gs]
        refine v_aload_0 dX8_undo_55 ?_
        refine g_X8_154 rfl dX8_undo_56 (gs_ne hma.symm (gs_eq hm)) ?_
        exact v_iret dX8_undo_59 rfl (Nat.le_refl _) (Nat.le_refl _) (hp n1)
      · refine v_aload_0 dX8_undo_28 ?_
        refine g_X8_74 rfl dX8_undo_29 (gs_ne hma.symm (gs_eq hm)) ?_
        refine v_iload_1 dX8_undo_32 ?_
        refine v_aload_0 dX8_undo_33 ?_
        refine g_X8_80 rfl dX8_undo_34 (gs_ne hma.symm (gs_eq hm)) ?_
        refine v_sipush dX8_undo_37 (by decide) ?_
        refine v_aload_0 dX8_undo_40 ?_
        refine g_X8_154 rfl dX8_undo_41 (gs_ne hma.symm (gs_eq hm)) ?_
        refine v_imul dX8_undo_44 ?_
        refine v_iload_1 dX8_undo_45 ?_
        refine v_iadd dX8_undo_46 ?_
        refine v_iaload dX8_undo_47 (gs_ne hca.symm (gs_ne hmc hc)) (by omega) (by omega) (by decide) ?_
        refine v_iastore dX8_undo_48 (gs_eq (gs_ne hma ha)) (by omega) (by omega) (by decide) ?_
        rw [gs_gs]
        refine v_iinc_1 dX8_undo_49 (Nat.le_of_ble_eq_true rfl) rfl ?_
        refine v_goto (tgt := 21) dX8_undo_52 rfl ?_
        exact ih (x + 1) _ (by omega) (by omega) (up_upto (f := fun j => sn (770 * ((n : Int) - 1) + j)) h_2) (by omega)
  have t := lp 771 0 w (by omega) (by omega) (fun j j0 j1 => by omega) (by omega)
  rw [gs_id (gs_ne hma ha)] at t
  exact t

set_option maxRecDepth 100000 in
theorem c_X8_undo {E : Ev} {M : Mem} {Post : Option Value → Mem → Prop} {m a c : Nat} {f0 f1 f2 f3 f4 f5 f6 f7 f8 f9 f10 f12 f15 f16 f17 : Value} {w sn : Int → Int} {n : Nat} {rows : Nat → Int → Int} (hm : M[m]? = some (ob 8 [f0, f1, f2, f3, f4, f5, f6, f7, f8, f9, f10, rr E a, f12, rr E c, iv (n : Nat), f15, f16, f17])) (ha : M[a]? = some (ia E 0 770 w)) (hc : M[c]? = some (ia E 0 7700 sn)) (hca : c ≠ a) (hn : n ≤ 10) (hr : rows n = w) (hs : SnAt n rows sn) (hw : WF w) (hp : 1 ≤ n → Post (some (iv ((n : Int) - 1))) ((M.set m (ob 8 [f0, f1, f2, f3, f4, f5, f6, f7, f8, f9, f10, rr E a, f12, rr E c, iv ((n : Int) - 1), f15, f16, f17])).set a (ia E 0 770 (rows (n - 1))))) (hq : n = 0 → Post (some (iv (-1))) M) : Cn E rX8_undo mX8_undo [rr E m] M Post := by
  refine Cn.of (L := [some (rr E m), none]) (by decide) (Nat.le_of_ble_eq_true rfl) rfl ?_
  refine v_aload_0 dX8_undo_0 ?_
  refine g_X8_154 rfl dX8_undo_1 hm ?_
  refine v_if_ne (tgt := 9) dX8_undo_4 rfl ⟨by omega, by omega⟩ (fun c4 => ?_) (fun c4 => ?_)
  · refine v_aload_0 dX8_undo_9 ?_
    refine v_dupr dX8_undo_10 ?_
    refine g_X8_154 rfl dX8_undo_11 hm ?_
    refine v_iconst dX8_undo_14 ?_
    refine v_isub dX8_undo_15 ?_
    refine p_X8_154 rfl dX8_undo_16 hm ?_
    refine v_iconst dX8_undo_19 ?_
    refine v_istore_1 dX8_undo_20 (Nat.le_of_ble_eq_true rfl) rfl ?_
    exact lp_X8_undo hm ha hc hca hn hr hs hw (by omega) hp
  · refine v_iconst dX8_undo_7 ?_
    exact v_iret dX8_undo_8 rfl (Nat.le_refl _) (Nat.le_refl _) (hq (by omega))
