set_option maxRecDepth 100000 in
theorem c_X8_isIn {E : Ev} {M : Mem} {Post : Option Value → Mem → Prop} {v x y : Int} (hv : I32 v) (hx : I32 x) (hy : I32 y) (hp : Post (some (iv (pI (x ≤ v ∧ v ≤ y)))) M) : Cn E rX8_isIn mX8_isIn [iv v, iv x, iv y] M Post := by
  refine Cn.of (L := [some (iv v), some (iv x), some (iv y)]) (by decide) (Nat.le_of_ble_eq_true rfl) rfl ?_
  refine v_iload_0 dX8_isIn_0 ?_
  refine v_iload_1 dX8_isIn_1 ?_
  refine v_icmp_lt (tgt := 14) dX8_isIn_2 rfl hv hx (fun c2 => ?_) (fun c2 => ?_)
  · refine v_iconst dX8_isIn_14 ?_
    exact v_zret dX8_isIn_15 rfl (Nat.le_refl _) (Nat.le_refl _) (by first | exact Or.inl rfl | exact Or.inr rfl | exact pI_01 _) (by first | exact ret_t (by omega) hp | exact ret_f (by omega) hp)
  · refine v_iload_0 dX8_isIn_5 ?_
    refine v_iload_2 dX8_isIn_6 ?_
    refine v_icmp_gt (tgt := 14) dX8_isIn_7 rfl hv hy (fun c7 => ?_) (fun c7 => ?_)
    · refine v_iconst dX8_isIn_14 ?_
      exact v_zret dX8_isIn_15 rfl (Nat.le_refl _) (Nat.le_refl _) (by first | exact Or.inl rfl | exact Or.inr rfl | exact pI_01 _) (by first | exact ret_t (by omega) hp | exact ret_f (by omega) hp)
    · refine v_iconst dX8_isIn_10 ?_
      refine v_goto (tgt := 15) dX8_isIn_11 rfl ?_
      exact v_zret dX8_isIn_15 rfl (Nat.le_refl _) (Nat.le_refl _) (by first | exact Or.inl rfl | exact Or.inr rfl | exact pI_01 _) (by first | exact ret_t (by omega) hp | exact ret_f (by omega) hp)

set_option maxRecDepth 100000 in
theorem c_X8_isStation {E : Ev} {M : Mem} {Post : Option Value → Mem → Prop} {m a : Nat} {f0 f1 f2 f3 f4 f5 f6 f7 f8 f9 f10 f12 f13 f14 f15 f16 f17 : Value} {w : Int → Int} (hm : M[m]? = some (ob 8 [f0, f1, f2, f3, f4, f5, f6, f7, f8, f9, f10, rr E a, f12, f13, f14, f15, f16, f17])) (ha : M[a]? = some (ia E 0 770 w)) (hw : WF w) {s : Int} (hs : I32 s) (hp : Post (some (iv (pI (0 ≤ s ∧ s ≤ w 2 - 1)))) M) : Cn E rX8_isStation mX8_isStation [rr E m, iv s] M Post := by
  refine Cn.of (L := [some (rr E m), some (iv s)]) (by decide) (Nat.le_of_ble_eq_true rfl) rfl ?_
  refine v_iload_1 dX8_isStation_0 ?_
  refine v_iconst dX8_isStation_1 ?_
  refine v_aload_0 dX8_isStation_2 ?_
  refine g_X8_74 rfl dX8_isStation_3 hm ?_
  refine v_iconst dX8_isStation_6 ?_
  have hn := hw.2.2.1
  refine v_iaload dX8_isStation_7 ha (by omega) (by omega) (by decide) ?_
  refine v_iconst dX8_isStation_8 ?_
  refine v_isub dX8_isStation_9 ?_
  refine l_X8_89 rfl dX8_isStation_10 ⟨Nat.le_of_ble_eq_true rfl, Nat.le_of_ble_eq_true rfl⟩ (Nat.le_of_ble_eq_true rfl) ⟨Nat.le_refl _, Nat.le_refl _⟩ (c_X8_isIn hs ⟨by omega, by omega⟩ ⟨by omega, by omega⟩ ?_)
  exact v_zret dX8_isStation_13 rfl (Nat.le_refl _) (Nat.le_refl _) (by first | exact Or.inl rfl | exact Or.inr rfl | exact pI_01 _) hp

set_option maxRecDepth 100000 in
theorem c_X8_isSubstance_ {E : Ev} {M : Mem} {Post : Option Value → Mem → Prop} {m a : Nat} {f0 f1 f2 f3 f4 f5 f6 f7 f8 f9 f10 f12 f13 f14 f15 f16 f17 : Value} {w : Int → Int} (hm : M[m]? = some (ob 8 [f0, f1, f2, f3, f4, f5, f6, f7, f8, f9, f10, rr E a, f12, f13, f14, f15, f16, f17])) (ha : M[a]? = some (ia E 0 770 w)) (hw : WF w) {s : Int} (hs : I32 s) (hp : Post (some (iv (pI (0 ≤ s ∧ s ≤ w 1 - 1)))) M) : Cn E rX8_isSubstance_ mX8_isSubstance_ [rr E m, iv s] M Post := by
  refine Cn.of (L := [some (rr E m), some (iv s)]) (by decide) (Nat.le_of_ble_eq_true rfl) rfl ?_
  refine v_iload_1 dX8_isSubstance__0 ?_
  refine v_iconst dX8_isSubstance__1 ?_
  refine v_aload_0 dX8_isSubstance__2 ?_
  refine g_X8_74 rfl dX8_isSubstance__3 hm ?_
  refine v_iconst dX8_isSubstance__6 ?_
  have hn := hw.2.1
  refine v_iaload dX8_isSubstance__7 ha (by omega) (by omega) (by decide) ?_
  refine v_iconst dX8_isSubstance__8 ?_
  refine v_isub dX8_isSubstance__9 ?_
  refine l_X8_89 rfl dX8_isSubstance__10 ⟨Nat.le_of_ble_eq_true rfl, Nat.le_of_ble_eq_true rfl⟩ (Nat.le_of_ble_eq_true rfl) ⟨Nat.le_refl _, Nat.le_refl _⟩ (c_X8_isIn hs ⟨by omega, by omega⟩ ⟨by omega, by omega⟩ ?_)
  exact v_zret dX8_isSubstance__13 rfl (Nat.le_refl _) (Nat.le_refl _) (by first | exact Or.inl rfl | exact Or.inr rfl | exact pI_01 _) hp

set_option maxRecDepth 100000 in
theorem c_X8_isHour {E : Ev} {M : Mem} {Post : Option Value → Mem → Prop} {m a : Nat} {f0 f1 f2 f3 f4 f5 f6 f7 f8 f9 f10 f12 f13 f14 f15 f16 f17 : Value} {w : Int → Int} (hm : M[m]? = some (ob 8 [f0, f1, f2, f3, f4, f5, f6, f7, f8, f9, f10, rr E a, f12, f13, f14, f15, f16, f17])) (ha : M[a]? = some (ia E 0 770 w)) (hw : WF w) {s : Int} (hs : I32 s) (hp : Post (some (iv (pI (0 ≤ s ∧ s ≤ w 0 - 1)))) M) : Cn E rX8_isHour mX8_isHour [rr E m, iv s] M Post := by
  refine Cn.of (L := [some (rr E m), some (iv s)]) (by decide) (Nat.le_of_ble_eq_true rfl) rfl ?_
  refine v_iload_1 dX8_isHour_0 ?_
  refine v_iconst dX8_isHour_1 ?_
  refine v_aload_0 dX8_isHour_2 ?_
  refine g_X8_74 rfl dX8_isHour_3 hm ?_
  refine v_iconst dX8_isHour_6 ?_
  have hn := hw.1
  refine v_iaload dX8_isHour_7 ha (by omega) (by omega) (by decide) ?_
  refine v_iconst dX8_isHour_8 ?_
  refine v_isub dX8_isHour_9 ?_
  refine l_X8_89 rfl dX8_isHour_10 ⟨Nat.le_of_ble_eq_true rfl, Nat.le_of_ble_eq_true rfl⟩ (Nat.le_of_ble_eq_true rfl) ⟨Nat.le_refl _, Nat.le_refl _⟩ (c_X8_isIn hs ⟨by omega, by omega⟩ ⟨by omega, by omega⟩ ?_)
  exact v_zret dX8_isHour_13 rfl (Nat.le_refl _) (Nat.le_refl _) (by first | exact Or.inl rfl | exact Or.inr rfl | exact pI_01 _) hp

set_option maxRecDepth 100000 in
theorem c_X8_are {E : Ev} {M : Mem} {Post : Option Value → Mem → Prop} {m a : Nat} {f0 f1 f2 f3 f4 f5 f6 f7 f8 f9 f10 f12 f13 f14 f15 f16 f17 : Value} {w : Int → Int} (hm : M[m]? = some (ob 8 [f0, f1, f2, f3, f4, f5, f6, f7, f8, f9, f10, rr E a, f12, f13, f14, f15, f16, f17])) (ha : M[a]? = some (ia E 0 770 w)) (hw : WF w) {s k h : Int} (hs : I32 s) (hk : I32 k) (hh : I32 h) (hp : Post (some (iv (pI (Pl w s k h)))) M) : Cn E rX8_are mX8_are [rr E m, iv s, iv k, iv h] M Post := by
  refine Cn.of (L := [some (rr E m), some (iv s), some (iv k), some (iv h)]) (by decide) (Nat.le_of_ble_eq_true rfl) rfl ?_
  refine v_aload_0 dX8_are_0 ?_
  refine v_iload_1 dX8_are_1 ?_
  refine l_X8_157 rfl dX8_are_2 hm ⟨Nat.le_of_ble_eq_true rfl, Nat.le_of_ble_eq_true rfl⟩ (Nat.le_of_ble_eq_true rfl) ⟨Nat.le_refl _, Nat.le_refl _⟩ (c_X8_isStation hm ha hw hs ?_)
  refine v_ifeq_b (tgt := 28) dX8_are_5 rfl (fun c5 => ?_) (fun c5 => ?_)
  · refine v_iconst dX8_are_28 ?_
    exact v_zret dX8_are_29 rfl (Nat.le_refl _) (Nat.le_refl _) (by first | exact Or.inl rfl | exact Or.inr rfl | exact pI_01 _) (by have n0 := hw.1; have n1 := hw.2.1; have n2 := hw.2.2.1; first | exact ret_t (by omega) hp | exact ret_f (by omega) hp)
  · refine v_aload_0 dX8_are_8 ?_
    refine v_iload_2 dX8_are_9 ?_
    refine l_X8_160 rfl dX8_are_10 hm ⟨Nat.le_of_ble_eq_true rfl, Nat.le_of_ble_eq_true rfl⟩ (Nat.le_of_ble_eq_true rfl) ⟨Nat.le_refl _, Nat.le_refl _⟩ (c_X8_isSubstance_ hm ha hw hk ?_)
    refine v_ifeq_b (tgt := 28) dX8_are_13 rfl (fun c13 => ?_) (fun c13 => ?_)
    · refine v_iconst dX8_are_28 ?_
      exact v_zret dX8_are_29 rfl (Nat.le_refl _) (Nat.le_refl _) (by first | exact Or.inl rfl | exact Or.inr rfl | exact pI_01 _) (by have n0 := hw.1; have n1 := hw.2.1; have n2 := hw.2.2.1; first | exact ret_t (by omega) hp | exact ret_f (by omega) hp)
    · refine v_aload_0 dX8_are_16 ?_
      refine v_iload_3 dX8_are_17 ?_
      refine l_X8_162 rfl dX8_are_18 hm ⟨Nat.le_of_ble_eq_true rfl, Nat.le_of_ble_eq_true rfl⟩ (Nat.le_of_ble_eq_true rfl) ⟨Nat.le_refl _, Nat.le_refl _⟩ (c_X8_isHour hm ha hw hh ?_)
      refine v_ifeq_b (tgt := 28) dX8_are_21 rfl (fun c21 => ?_) (fun c21 => ?_)
      · refine v_iconst dX8_are_28 ?_
        exact v_zret dX8_are_29 rfl (Nat.le_refl _) (Nat.le_refl _) (by first | exact Or.inl rfl | exact Or.inr rfl | exact pI_01 _) (by have n0 := hw.1; have n1 := hw.2.1; have n2 := hw.2.2.1; first | exact ret_t (by omega) hp | exact ret_f (by omega) hp)
      · refine v_iconst dX8_are_24 ?_
        refine v_goto (tgt := 29) dX8_are_25 rfl ?_
        exact v_zret dX8_are_29 rfl (Nat.le_refl _) (Nat.le_refl _) (by first | exact Or.inl rfl | exact Or.inr rfl | exact pI_01 _) (by have n0 := hw.1; have n1 := hw.2.1; have n2 := hw.2.2.1; first | exact ret_t (by omega) hp | exact ret_f (by omega) hp)

set_option maxRecDepth 100000 in
theorem c_X8_its {E : Ev} {M : Mem} {Post : Option Value → Mem → Prop} {m a : Nat} {f0 f1 f2 f3 f4 f5 f6 f7 f8 f9 f10 f12 f13 f14 f15 f16 f17 : Value} {w : Int → Int} (hm : M[m]? = some (ob 8 [f0, f1, f2, f3, f4, f5, f6, f7, f8, f9, f10, rr E a, f12, f13, f14, f15, f16, f17])) (ha : M[a]? = some (ia E 0 770 w)) {k t : Int} (h0 : 0 ≤ 7 + 13 * k + t) (h1 : 7 + 13 * k + t < 770) (hp : Post (some (iv (w (7 + 13 * k + t)))) M) : Cn E rX8_its mX8_its [rr E m, iv k, iv t] M Post := by
  refine Cn.of (L := [some (rr E m), some (iv k), some (iv t)]) (by decide) (Nat.le_of_ble_eq_true rfl) rfl ?_
  refine v_aload_0 dX8_its_0 ?_
  refine g_X8_74 rfl dX8_its_1 hm ?_
  refine v_bipush dX8_its_4 (by decide) ?_
  refine v_bipush dX8_its_6 (by decide) ?_
  refine v_iload_1 dX8_its_8 ?_
  refine v_imul dX8_its_9 ?_
  refine v_iadd dX8_its_10 ?_
  refine v_iload_2 dX8_its_11 ?_
  refine v_iadd dX8_its_12 ?_
  refine v_iaload dX8_its_13 ha (by omega) (by omega) (by decide) ?_
  exact v_iret dX8_its_14 rfl (Nat.le_refl _) (Nat.le_refl _) hp

set_option maxRecDepth 100000 in
theorem c_X8_at {E : Ev} {M : Mem} {Post : Option Value → Mem → Prop} {s k h : Int} (hp : Post (some (iv (50 + 60 * (3 * s + k) + h))) M) : Cn E rX8_at mX8_at [iv s, iv k, iv h] M Post := by
  refine Cn.of (L := [some (iv s), some (iv k), some (iv h)]) (by decide) (Nat.le_of_ble_eq_true rfl) rfl ?_
  refine v_bipush dX8_at_0 (by decide) ?_
  refine v_bipush dX8_at_2 (by decide) ?_
  refine v_iconst dX8_at_4 ?_
  refine v_iload_0 dX8_at_5 ?_
  refine v_imul dX8_at_6 ?_
  refine v_iload_1 dX8_at_7 ?_
  refine v_iadd dX8_at_8 ?_
  refine v_imul dX8_at_9 ?_
  refine v_iadd dX8_at_10 ?_
  refine v_iload_2 dX8_at_11 ?_
  refine v_iadd dX8_at_12 ?_
  exact v_iret dX8_at_13 rfl (Nat.le_refl _) (Nat.le_refl _) hp

set_option maxRecDepth 100000 in
theorem c_X8_readOf {E : Ev} {M : Mem} {Post : Option Value → Mem → Prop} {m a : Nat} {f0 f1 f2 f3 f4 f5 f6 f7 f8 f9 f10 f12 f13 f14 f15 f16 f17 : Value} {w : Int → Int} (hm : M[m]? = some (ob 8 [f0, f1, f2, f3, f4, f5, f6, f7, f8, f9, f10, rr E a, f12, f13, f14, f15, f16, f17])) (ha : M[a]? = some (ia E 0 770 w)) {s k h : Int} (hP : Pl w s k h) (hp : Post (some (iv (rdA w s k h))) M) : Cn E rX8_readOf mX8_readOf [rr E m, iv s, iv k, iv h] M Post := by
  refine Cn.of (L := [some (rr E m), some (iv s), some (iv k), some (iv h)]) (by decide) (Nat.le_of_ble_eq_true rfl) rfl ?_
  refine v_aload_0 dX8_readOf_0 ?_
  refine g_X8_74 rfl dX8_readOf_1 hm ?_
  refine v_iload_1 dX8_readOf_4 ?_
  refine v_iload_2 dX8_readOf_5 ?_
  refine v_iload_3 dX8_readOf_6 ?_
  refine l_X8_132 rfl dX8_readOf_7 ⟨Nat.le_of_ble_eq_true rfl, Nat.le_of_ble_eq_true rfl⟩ (Nat.le_of_ble_eq_true rfl) ⟨Nat.le_refl _, Nat.le_refl _⟩ (c_X8_at ?_)
  refine v_iaload dX8_readOf_10 ha (by omega) (by omega) (by decide) ?_
  refine v_iconst dX8_readOf_11 ?_
  refine v_isub dX8_readOf_12 ?_
  exact v_iret dX8_readOf_13 rfl (Nat.le_refl _) (Nat.le_refl _) (by rw [rd_pos' hP] at hp; exact hp)

set_option maxRecDepth 100000 in
theorem c_X8_meanOf {E : Ev} {M : Mem} {Post : Option Value → Mem → Prop} {m a : Nat} {f0 f1 f2 f3 f4 f5 f6 f7 f8 f9 f10 f12 f13 f14 f15 f16 f17 : Value} {w : Int → Int} (hm : M[m]? = some (ob 8 [f0, f1, f2, f3, f4, f5, f6, f7, f8, f9, f10, rr E a, f12, f13, f14, f15, f16, f17])) (ha : M[a]? = some (ia E 0 770 w)) (hw : WF w) {s k h : Int} (hP : Pl w s k h) (hp : Post (some (iv (mnW w s k h))) M) : Cn E rX8_meanOf mX8_meanOf [rr E m, iv s, iv k, iv h] M Post := by
  have lp : ∀ (r : Nat) (x : Int), (fsW w k h ≤ x + 1) → (x ≤ h) → x + 1 < (r : Int) → V E rX8_meanOf mX8_meanOf (finM E rX8_meanOf Post) 0 0 M 15 [some (rr E m), some (iv s), some (iv k), some (iv h), some (iv (sm (fun x => vc (rdA w s k x)) (x + 1) (h - x).toNat)), some (iv (sm (fun x => vz (rdA w s k x)) (x + 1) (h - x).toNat)), some (iv (mx (fun x => rdA w s k x) (x + 1) (h - x).toNat)), some (iv (h - x)), some (iv x), none] [] := by
    intro r
    induction r with
    | zero => intro x h_0 h_1 hz; exact absurd hz (by have q9 : 0 ≤ fsW w k h := Int.le_max_left _ _; omega)
    | succ r ih =>
      intro x h_0 h_1 hz
      refine v_iload_8 dX8_meanOf_15 ?_
      have hn := hw.2.2.2.2.2.1 k (by omega) (by omega)
      have hf : fsW w k h ≤ x + 1 := h_0
      have hf1 : fsW w k h = max 0 (h - w (7 + 13 * k) + 1) := rfl
      have b1 := cn_bd w s k (x + 1) (h - x).toNat
      have b2 := sz_bd hw s k (x + 1) (h - x).toNat
      have b3 := mr_bd hw s k (x + 1) (h - x).toNat
      refine v_if_lt (tgt := 82) dX8_meanOf_17 rfl ⟨by omega, by omega⟩ (fun c17 => ?_) (fun c17 => ?_)
      · have ex : x + 1 = fsW w k h := by unfold fsW; omega
        have en : h - x = h - fsW w k h + 1 := by omega
        rw [ex, en] at b1 b2 b3 ⊢
        refine v_iload_4 dX8_meanOf_82 ?_
        refine v_aload_0 dX8_meanOf_84 ?_
        refine v_iload_2 dX8_meanOf_85 ?_
        refine v_iconst dX8_meanOf_86 ?_
        refine l_X8_165 rfl dX8_meanOf_87 hm ⟨Nat.le_of_ble_eq_true rfl, Nat.le_of_ble_eq_true rfl⟩ (Nat.le_of_ble_eq_true rfl) ⟨Nat.le_refl _, Nat.le_refl _⟩ (c_X8_its hm ha (by omega) (by omega) ?_)
        rw [show 7 + 13 * k + 1 = 8 + 13 * k by omega]
        refine v_icmp_ge (tgt := 97) dX8_meanOf_90 rfl ⟨by omega, by omega⟩ ⟨by omega, by omega⟩ (fun c90 => ?_) (fun c90 => ?_)
        · refine v_iload_5 dX8_meanOf_97 ?_
          refine v_iload_7 dX8_meanOf_99 ?_
          refine v_iload_4 dX8_meanOf_101 ?_
          refine v_isub dX8_meanOf_103 ?_
          refine v_iload_6 dX8_meanOf_104 ?_
          refine v_imul dX8_meanOf_106 ?_
          refine v_iadd dX8_meanOf_107 ?_
          refine v_iload_7 dX8_meanOf_108 ?_
          refine v_idiv dX8_meanOf_110 (by have := Int.mul_nonneg (show 0 ≤ (h - fsW w k h + 1) - sm (fun x => vc (rdA w s k x)) (fsW w k h) (h - fsW w k h + 1).toNat by omega) b3.1; omega) (by have q1 := Int.mul_le_mul_of_nonneg_left b3.2 (show 0 ≤ (h - fsW w k h + 1) - sm (fun x => vc (rdA w s k x)) (fsW w k h) (h - fsW w k h + 1).toNat by omega); omega) (by omega) (by omega) ?_
          exact v_iret dX8_meanOf_111 rfl (Nat.le_refl _) (Nat.le_refl _) (by rw [mn_some hP (by omega)] at hp; exact hp)
        · refine v_iconst dX8_meanOf_93 ?_
          refine v_goto (tgt := 111) dX8_meanOf_94 rfl ?_
          exact v_iret dX8_meanOf_111 rfl (Nat.le_refl _) (Nat.le_refl _) (by rw [mn_few hP (by omega)] at hp; exact hp)
      · refine v_iload_8 dX8_meanOf_20 ?_
        refine v_iload_3 dX8_meanOf_22 ?_
        refine v_aload_0 dX8_meanOf_23 ?_
        refine v_iload_2 dX8_meanOf_24 ?_
        refine v_iconst dX8_meanOf_25 ?_
        refine l_X8_165 rfl dX8_meanOf_26 hm ⟨Nat.le_of_ble_eq_true rfl, Nat.le_of_ble_eq_true rfl⟩ (Nat.le_of_ble_eq_true rfl) ⟨Nat.le_refl _, Nat.le_refl _⟩ (c_X8_its hm ha (by omega) (by omega) ?_)
        rw [show 7 + 13 * k + 0 = 7 + 13 * k by omega]
        refine v_isub dX8_meanOf_29 ?_
        refine v_icmp_le (tgt := 82) dX8_meanOf_30 rfl ⟨by omega, by omega⟩ ⟨by omega, by omega⟩ (fun c30 => ?_) (fun c30 => ?_)
        · have ex : x + 1 = fsW w k h := by unfold fsW; omega
          have en : h - x = h - fsW w k h + 1 := by omega
          rw [ex, en] at b1 b2 b3 ⊢
          refine v_iload_4 dX8_meanOf_82 ?_
          refine v_aload_0 dX8_meanOf_84 ?_
          refine v_iload_2 dX8_meanOf_85 ?_
          refine v_iconst dX8_meanOf_86 ?_
          refine l_X8_165 rfl dX8_meanOf_87 hm ⟨Nat.le_of_ble_eq_true rfl, Nat.le_of_ble_eq_true rfl⟩ (Nat.le_of_ble_eq_true rfl) ⟨Nat.le_refl _, Nat.le_refl _⟩ (c_X8_its hm ha (by omega) (by omega) ?_)
          rw [show 7 + 13 * k + 1 = 8 + 13 * k by omega]
          refine v_icmp_ge (tgt := 97) dX8_meanOf_90 rfl ⟨by omega, by omega⟩ ⟨by omega, by omega⟩ (fun c90 => ?_) (fun c90 => ?_)
          · refine v_iload_5 dX8_meanOf_97 ?_
            refine v_iload_7 dX8_meanOf_99 ?_
            refine v_iload_4 dX8_meanOf_101 ?_
            refine v_isub dX8_meanOf_103 ?_
            refine v_iload_6 dX8_meanOf_104 ?_
            refine v_imul dX8_meanOf_106 ?_
            refine v_iadd dX8_meanOf_107 ?_
            refine v_iload_7 dX8_meanOf_108 ?_
            refine v_idiv dX8_meanOf_110 (by have := Int.mul_nonneg (show 0 ≤ (h - fsW w k h + 1) - sm (fun x => vc (rdA w s k x)) (fsW w k h) (h - fsW w k h + 1).toNat by omega) b3.1; omega) (by have q1 := Int.mul_le_mul_of_nonneg_left b3.2 (show 0 ≤ (h - fsW w k h + 1) - sm (fun x => vc (rdA w s k x)) (fsW w k h) (h - fsW w k h + 1).toNat by omega); omega) (by omega) (by omega) ?_
            exact v_iret dX8_meanOf_111 rfl (Nat.le_refl _) (Nat.le_refl _) (by rw [mn_some hP (by omega)] at hp; exact hp)
          · refine v_iconst dX8_meanOf_93 ?_
            refine v_goto (tgt := 111) dX8_meanOf_94 rfl ?_
            exact v_iret dX8_meanOf_111 rfl (Nat.le_refl _) (Nat.le_refl _) (by rw [mn_few hP (by omega)] at hp; exact hp)
        · have b4 := rd_bd hw s k x
          have hPx : Pl w s k x := ⟨hP.1, hP.2.1, hP.2.2.1, hP.2.2.2.1, hP.2.2.2.2.1, hP.2.2.2.2.2.1, by omega, by omega, by omega⟩
          refine v_iinc_7 dX8_meanOf_33 (Nat.le_of_ble_eq_true rfl) rfl ?_
          refine v_aload_0 dX8_meanOf_36 ?_
          refine v_iload_1 dX8_meanOf_37 ?_
          refine v_iload_2 dX8_meanOf_38 ?_
          refine v_iload_8 dX8_meanOf_39 ?_
          refine l_X8_169 rfl dX8_meanOf_41 hm ⟨Nat.le_of_ble_eq_true rfl, Nat.le_of_ble_eq_true rfl⟩ (Nat.le_of_ble_eq_true rfl) ⟨Nat.le_refl _, Nat.le_refl _⟩ (c_X8_readOf hm ha hPx ?_)
          refine v_istore_9 dX8_meanOf_44 (Nat.le_of_ble_eq_true rfl) rfl ?_
          refine v_iload_9 dX8_meanOf_46 ?_
          refine v_iconst dX8_meanOf_48 ?_
          refine v_icmp_ne (tgt := 55) dX8_meanOf_49 rfl ⟨by omega, by omega⟩ ⟨by omega, by omega⟩ (fun c49 => ?_) (fun c49 => ?_)
          · refine v_iinc_4 dX8_meanOf_55 (Nat.le_of_ble_eq_true rfl) rfl ?_
            refine v_iload_5 dX8_meanOf_58 ?_
            refine v_iload_9 dX8_meanOf_60 ?_
            refine v_iadd dX8_meanOf_62 ?_
            refine v_istore_5 dX8_meanOf_63 (Nat.le_of_ble_eq_true rfl) rfl ?_
            refine v_iload_9 dX8_meanOf_65 ?_
            refine v_iload_6 dX8_meanOf_67 ?_
            refine v_icmp_le (tgt := 76) dX8_meanOf_69 rfl ⟨by omega, by omega⟩ ⟨by omega, by omega⟩ (fun c69 => ?_) (fun c69 => ?_)
            · refine v_iinc_8 dX8_meanOf_76 (Nat.le_of_ble_eq_true rfl) rfl ?_
              refine v_goto (tgt := 15) dX8_meanOf_79 rfl ?_
              exact v_weak [some (rr E m), some (iv s), some (iv k), some (iv h), some (iv (sm (fun x => vc (rdA w s k x)) ((x + -1) + 1) (h - (x + -1)).toNat)), some (iv (sm (fun x => vz (rdA w s k x)) ((x + -1) + 1) (h - (x + -1)).toNat)), some (iv (mx (fun x => rdA w s k x) ((x + -1) + 1) (h - (x + -1)).toNat)), some (iv (h - (x + -1))), some (iv (x + -1)), none] ⟨rfl, rfl, rfl, rfl, by rw [sm_dn _ h_1, vc_pos c49, Int.add_comm], by rw [sm_dn _ h_1, vz_pos c49, Int.add_comm], by rw [mx_dn _ h_1, Int.max_eq_right c69], by rw [show h - (x + -1) = h - x + 1 by omega], rfl, trivial⟩ (ih (x + -1) (by omega) (by omega) (by omega))
            · refine v_iload_9 dX8_meanOf_72 ?_
              refine v_istore_6 dX8_meanOf_74 (Nat.le_of_ble_eq_true rfl) rfl ?_
              refine v_iinc_8 dX8_meanOf_76 (Nat.le_of_ble_eq_true rfl) rfl ?_
              refine v_goto (tgt := 15) dX8_meanOf_79 rfl ?_
              exact v_weak [some (rr E m), some (iv s), some (iv k), some (iv h), some (iv (sm (fun x => vc (rdA w s k x)) ((x + -1) + 1) (h - (x + -1)).toNat)), some (iv (sm (fun x => vz (rdA w s k x)) ((x + -1) + 1) (h - (x + -1)).toNat)), some (iv (mx (fun x => rdA w s k x) ((x + -1) + 1) (h - (x + -1)).toNat)), some (iv (h - (x + -1))), some (iv (x + -1)), none] ⟨rfl, rfl, rfl, rfl, by rw [sm_dn _ h_1, vc_pos c49, Int.add_comm], by rw [sm_dn _ h_1, vz_pos c49, Int.add_comm], by rw [mx_dn _ h_1, Int.max_eq_left (by omega)], by rw [show h - (x + -1) = h - x + 1 by omega], rfl, trivial⟩ (ih (x + -1) (by omega) (by omega) (by omega))
          · refine v_goto (tgt := 76) dX8_meanOf_52 rfl ?_
            refine v_iinc_8 dX8_meanOf_76 (Nat.le_of_ble_eq_true rfl) rfl ?_
            refine v_goto (tgt := 15) dX8_meanOf_79 rfl ?_
            exact v_weak [some (rr E m), some (iv s), some (iv k), some (iv h), some (iv (sm (fun x => vc (rdA w s k x)) ((x + -1) + 1) (h - (x + -1)).toNat)), some (iv (sm (fun x => vz (rdA w s k x)) ((x + -1) + 1) (h - (x + -1)).toNat)), some (iv (mx (fun x => rdA w s k x) ((x + -1) + 1) (h - (x + -1)).toNat)), some (iv (h - (x + -1))), some (iv (x + -1)), none] ⟨rfl, rfl, rfl, rfl, by rw [sm_dn _ h_1, vc_neg c49, Int.zero_add], by rw [sm_dn _ h_1, vz_neg c49, Int.zero_add], by rw [mx_dn _ h_1, c49, Int.max_eq_right (by omega)], by rw [show h - (x + -1) = h - x + 1 by omega], rfl, trivial⟩ (ih (x + -1) (by omega) (by omega) (by omega))
  refine Cn.of (L := [some (rr E m), some (iv s), some (iv k), some (iv h), none, none, none, none, none, none]) (by decide) (Nat.le_of_ble_eq_true rfl) rfl ?_
  refine v_iconst dX8_meanOf_0 ?_
  refine v_istore_4 dX8_meanOf_1 (Nat.le_of_ble_eq_true rfl) rfl ?_
  refine v_iconst dX8_meanOf_3 ?_
  refine v_istore_5 dX8_meanOf_4 (Nat.le_of_ble_eq_true rfl) rfl ?_
  refine v_iconst dX8_meanOf_6 ?_
  refine v_istore_6 dX8_meanOf_7 (Nat.le_of_ble_eq_true rfl) rfl ?_
  refine v_iconst dX8_meanOf_9 ?_
  refine v_istore_7 dX8_meanOf_10 (Nat.le_of_ble_eq_true rfl) rfl ?_
  refine v_iload_3 dX8_meanOf_12 ?_
  refine v_istore_8 dX8_meanOf_13 (Nat.le_of_ble_eq_true rfl) rfl ?_
  exact v_weak [some (rr E m), some (iv s), some (iv k), some (iv h), some (iv (sm (fun x => vc (rdA w s k x)) (h + 1) (h - h).toNat)), some (iv (sm (fun x => vz (rdA w s k x)) (h + 1) (h - h).toNat)), some (iv (mx (fun x => rdA w s k x) (h + 1) (h - h).toNat)), some (iv (h - h)), some (iv h), none] ⟨rfl, rfl, rfl, rfl, by rw [sm_z'], by rw [sm_z'], by rw [mx_z'], by rw [Int.sub_self], rfl, trivial⟩ (lp (h + 2).toNat h (by have := fs_bd hw hP.2.2.2.1 hP.2.2.2.2.1 hP.2.2.2.2.2.2.1; omega) (by omega) (by omega))

set_option maxRecDepth 100000 in
theorem c_X8_scaleOf {E : Ev} {M : Mem} {Post : Option Value → Mem → Prop} {m a : Nat} {f0 f1 f2 f3 f4 f5 f6 f7 f8 f9 f10 f12 f13 f14 f15 f16 f17 : Value} {w : Int → Int} (hm : M[m]? = some (ob 8 [f0, f1, f2, f3, f4, f5, f6, f7, f8, f9, f10, rr E a, f12, f13, f14, f15, f16, f17])) (ha : M[a]? = some (ia E 0 770 w)) (hw : WF w) {k level : Int} (hk : 0 ≤ k) (hk2 : k < w 1) (hl : 0 ≤ level) (hl2 : level ≤ 999) (hp : Post (some (iv (scW w k level))) M) : Cn E rX8_scaleOf mX8_scaleOf [rr E m, iv k, iv level] M Post := by
  have hn := hw.2.2.2.2.2.1 k hk hk2
  have hn1 := hw.2.1
  have r0 := hw.2.2.2.2.2.2.1 k 0 hk hk2 (by omega) (by omega)
  rw [show 10 + 13 * k + 2 * 0 = 10 + 13 * k by omega, show 11 + 13 * k + 2 * 0 = 11 + 13 * k by omega] at r0
  have lp : ∀ (r : Nat) (p : Int), (0 ≤ p) → (p ≤ w (9 + 13 * k) - 1) → (w (10 + 13 * k + 2 * p) < level) → w (9 + 13 * k) - p < (r : Int) → V E rX8_scaleOf mX8_scaleOf (finM E rX8_scaleOf Post) 0 0 M 29 [some (rr E m), some (iv k), some (iv level), some (iv (w (9 + 13 * k) - 1)), some (iv p), none, none, none, none] [] := by
    intro r
    induction r with
    | zero => intro p h_0 h_1 h_2 hz; exact absurd hz (by omega)
    | succ r ih =>
      intro p h_0 h_1 h_2 hz
      refine v_iload_4 dX8_scaleOf_29 ?_
      refine v_iload_3 dX8_scaleOf_31 ?_
      refine v_icmp_ge (tgt := 125) dX8_scaleOf_32 rfl ⟨by omega, by omega⟩ ⟨by omega, by omega⟩ (fun c32 => ?_) (fun c32 => ?_)
      · refine v_aload_0 dX8_scaleOf_125 ?_
        refine v_iload_1 dX8_scaleOf_126 ?_
        refine v_iconst dX8_scaleOf_127 ?_
        refine v_iconst dX8_scaleOf_128 ?_
        refine v_iload_3 dX8_scaleOf_129 ?_
        refine v_imul dX8_scaleOf_130 ?_
        refine v_iadd dX8_scaleOf_131 ?_
        refine v_iconst dX8_scaleOf_132 ?_
        refine v_iadd dX8_scaleOf_133 ?_
        refine l_X8_165 rfl dX8_scaleOf_134 hm ⟨Nat.le_of_ble_eq_true rfl, Nat.le_of_ble_eq_true rfl⟩ (Nat.le_of_ble_eq_true rfl) ⟨Nat.le_refl _, Nat.le_refl _⟩ (c_X8_its hm ha (by omega) (by omega) ?_)
        rw [show 7 + 13 * k + (3 + 2 * (w (9 + 13 * k) - 1) + 1) = 11 + 13 * k + 2 * (w (9 + 13 * k) - 1) by omega]
        exact v_iret dX8_scaleOf_137 rfl (Nat.le_refl _) (Nat.le_refl _) (by rw [sc_hi hw hk hk2 (by rw [show w (9 + 13 * k) - 1 = p by omega]; exact h_2)] at hp; exact hp)
      · have r1 := hw.2.2.2.2.2.2.1 k p hk hk2 h_0 (by omega)
        have r2 := hw.2.2.2.2.2.2.1 k (p + 1) hk hk2 (by omega) (by omega)
        have r3 := hw.2.2.2.2.2.2.2.1 k p hk hk2 h_0 (by omega)
        refine v_aload_0 dX8_scaleOf_35 ?_
        refine v_iload_1 dX8_scaleOf_36 ?_
        refine v_iconst dX8_scaleOf_37 ?_
        refine v_iconst dX8_scaleOf_38 ?_
        refine v_iload_4 dX8_scaleOf_39 ?_
        refine v_imul dX8_scaleOf_41 ?_
        refine v_iadd dX8_scaleOf_42 ?_
        refine l_X8_165 rfl dX8_scaleOf_43 hm ⟨Nat.le_of_ble_eq_true rfl, Nat.le_of_ble_eq_true rfl⟩ (Nat.le_of_ble_eq_true rfl) ⟨Nat.le_refl _, Nat.le_refl _⟩ (c_X8_its hm ha (by omega) (by omega) ?_)
        rw [show 7 + 13 * k + (3 + 2 * p) = 10 + 13 * k + 2 * p by omega]
        refine v_istore_5 dX8_scaleOf_46 (Nat.le_of_ble_eq_true rfl) rfl ?_
        refine v_aload_0 dX8_scaleOf_48 ?_
        refine v_iload_1 dX8_scaleOf_49 ?_
        refine v_iconst dX8_scaleOf_50 ?_
        refine v_iconst dX8_scaleOf_51 ?_
        refine v_iload_4 dX8_scaleOf_52 ?_
        refine v_imul dX8_scaleOf_54 ?_
        refine v_iadd dX8_scaleOf_55 ?_
        refine v_iconst dX8_scaleOf_56 ?_
        refine v_iadd dX8_scaleOf_57 ?_
        refine l_X8_165 rfl dX8_scaleOf_58 hm ⟨Nat.le_of_ble_eq_true rfl, Nat.le_of_ble_eq_true rfl⟩ (Nat.le_of_ble_eq_true rfl) ⟨Nat.le_refl _, Nat.le_refl _⟩ (c_X8_its hm ha (by omega) (by omega) ?_)
        rw [show 7 + 13 * k + (3 + 2 * p + 2) = 10 + 13 * k + 2 * (p + 1) by omega]
        refine v_istore_6 dX8_scaleOf_61 (Nat.le_of_ble_eq_true rfl) rfl ?_
        refine v_aload_0 dX8_scaleOf_63 ?_
        refine v_iload_1 dX8_scaleOf_64 ?_
        refine v_iconst dX8_scaleOf_65 ?_
        refine v_iconst dX8_scaleOf_66 ?_
        refine v_iload_4 dX8_scaleOf_67 ?_
        refine v_imul dX8_scaleOf_69 ?_
        refine v_iadd dX8_scaleOf_70 ?_
        refine v_iconst dX8_scaleOf_71 ?_
        refine v_iadd dX8_scaleOf_72 ?_
        refine l_X8_165 rfl dX8_scaleOf_73 hm ⟨Nat.le_of_ble_eq_true rfl, Nat.le_of_ble_eq_true rfl⟩ (Nat.le_of_ble_eq_true rfl) ⟨Nat.le_refl _, Nat.le_refl _⟩ (c_X8_its hm ha (by omega) (by omega) ?_)
        rw [show 7 + 13 * k + (3 + 2 * p + 1) = 11 + 13 * k + 2 * p by omega]
        refine v_istore_7 dX8_scaleOf_76 (Nat.le_of_ble_eq_true rfl) rfl ?_
        refine v_aload_0 dX8_scaleOf_78 ?_
        refine v_iload_1 dX8_scaleOf_79 ?_
        refine v_iconst dX8_scaleOf_80 ?_
        refine v_iconst dX8_scaleOf_81 ?_
        refine v_iload_4 dX8_scaleOf_82 ?_
        refine v_imul dX8_scaleOf_84 ?_
        refine v_iadd dX8_scaleOf_85 ?_
        refine v_iconst dX8_scaleOf_86 ?_
        refine v_iadd dX8_scaleOf_87 ?_
        refine l_X8_165 rfl dX8_scaleOf_88 hm ⟨Nat.le_of_ble_eq_true rfl, Nat.le_of_ble_eq_true rfl⟩ (Nat.le_of_ble_eq_true rfl) ⟨Nat.le_refl _, Nat.le_refl _⟩ (c_X8_its hm ha (by omega) (by omega) ?_)
        rw [show 7 + 13 * k + (3 + 2 * p + 3) = 11 + 13 * k + 2 * (p + 1) by omega]
        refine v_istore_8 dX8_scaleOf_91 (Nat.le_of_ble_eq_true rfl) rfl ?_
        refine v_iload_2 dX8_scaleOf_93 ?_
        refine v_iload_6 dX8_scaleOf_94 ?_
        refine v_icmp_gt (tgt := 119) dX8_scaleOf_96 rfl ⟨by omega, by omega⟩ ⟨by omega, by omega⟩ (fun c96 => ?_) (fun c96 => ?_)
        · refine v_iinc_4 dX8_scaleOf_119 (Nat.le_of_ble_eq_true rfl) rfl ?_
          refine v_goto (tgt := 29) dX8_scaleOf_122 rfl ?_
          exact v_weak [some (rr E m), some (iv k), some (iv level), some (iv (w (9 + 13 * k) - 1)), some (iv (p + 1)), none, none, none, none] ⟨rfl, rfl, rfl, rfl, rfl, trivial⟩ (ih (p + 1) (by omega) (by omega) (by omega) (by omega))
        · refine v_iload_7 dX8_scaleOf_99 ?_
          refine v_iload_2 dX8_scaleOf_101 ?_
          refine v_iload_5 dX8_scaleOf_102 ?_
          refine v_isub dX8_scaleOf_104 ?_
          refine v_iload_8 dX8_scaleOf_105 ?_
          refine v_iload_7 dX8_scaleOf_107 ?_
          refine v_isub dX8_scaleOf_109 ?_
          refine v_imul dX8_scaleOf_110 ?_
          refine v_iload_6 dX8_scaleOf_111 ?_
          refine v_iload_5 dX8_scaleOf_113 ?_
          refine v_isub dX8_scaleOf_115 ?_
          refine v_idiv dX8_scaleOf_116 (Int.mul_nonneg (by omega) (by omega)) (by have q1 := Int.mul_le_mul (show level - w (10 + 13 * k + 2 * p) ≤ 999 by omega) (show w (11 + 13 * k + 2 * (p + 1)) - w (11 + 13 * k + 2 * p) ≤ 500 by omega) (by omega) (by omega); omega) (by omega) (by omega) ?_
          refine v_iadd dX8_scaleOf_117 ?_
          exact v_iret dX8_scaleOf_118 rfl (Nat.le_refl _) (Nat.le_refl _) (by rw [sc_mid hw hk hk2 h_0 (by omega) h_2 (by omega)] at hp; exact hp)
  refine Cn.of (L := [some (rr E m), some (iv k), some (iv level), none, none, none, none, none, none]) (by decide) (Nat.le_of_ble_eq_true rfl) rfl ?_
  refine v_aload_0 dX8_scaleOf_0 ?_
  refine v_iload_1 dX8_scaleOf_1 ?_
  refine v_iconst dX8_scaleOf_2 ?_
  refine l_X8_165 rfl dX8_scaleOf_3 hm ⟨Nat.le_of_ble_eq_true rfl, Nat.le_of_ble_eq_true rfl⟩ (Nat.le_of_ble_eq_true rfl) ⟨Nat.le_refl _, Nat.le_refl _⟩ (c_X8_its hm ha (by omega) (by omega) ?_)
  rw [show 7 + 13 * k + 2 = 9 + 13 * k by omega]
  refine v_iconst dX8_scaleOf_6 ?_
  refine v_isub dX8_scaleOf_7 ?_
  refine v_istore_3 dX8_scaleOf_8 (Nat.le_of_ble_eq_true rfl) rfl ?_
  refine v_iload_2 dX8_scaleOf_9 ?_
  refine v_aload_0 dX8_scaleOf_10 ?_
  refine v_iload_1 dX8_scaleOf_11 ?_
  refine v_iconst dX8_scaleOf_12 ?_
  refine l_X8_165 rfl dX8_scaleOf_13 hm ⟨Nat.le_of_ble_eq_true rfl, Nat.le_of_ble_eq_true rfl⟩ (Nat.le_of_ble_eq_true rfl) ⟨Nat.le_refl _, Nat.le_refl _⟩ (c_X8_its hm ha (by omega) (by omega) ?_)
  rw [show 7 + 13 * k + 3 = 10 + 13 * k by omega]
  refine v_icmp_gt (tgt := 26) dX8_scaleOf_16 rfl ⟨by omega, by omega⟩ ⟨by omega, by omega⟩ (fun c16 => ?_) (fun c16 => ?_)
  · refine v_iconst dX8_scaleOf_26 ?_
    refine v_istore_4 dX8_scaleOf_27 (Nat.le_of_ble_eq_true rfl) rfl ?_
    exact lp (w (9 + 13 * k) + 1).toNat 0 (by omega) (by omega) (by rw [show 10 + 13 * k + 2 * 0 = 10 + 13 * k by omega]; omega) (by omega)
  · refine v_aload_0 dX8_scaleOf_19 ?_
    refine v_iload_1 dX8_scaleOf_20 ?_
    refine v_iconst dX8_scaleOf_21 ?_
    refine l_X8_165 rfl dX8_scaleOf_22 hm ⟨Nat.le_of_ble_eq_true rfl, Nat.le_of_ble_eq_true rfl⟩ (Nat.le_of_ble_eq_true rfl) ⟨Nat.le_refl _, Nat.le_refl _⟩ (c_X8_its hm ha (by omega) (by omega) ?_)
    rw [show 7 + 13 * k + 4 = 11 + 13 * k by omega]
    exact v_iret dX8_scaleOf_25 rfl (Nat.le_refl _) (Nat.le_refl _) (by rw [sc_lo hw hk hk2 (by omega)] at hp; exact hp)

set_option maxRecDepth 100000 in
theorem c_X8_subOf {E : Ev} {M : Mem} {Post : Option Value → Mem → Prop} {m a : Nat} {f0 f1 f2 f3 f4 f5 f6 f7 f8 f9 f10 f12 f13 f14 f15 f16 f17 : Value} {w : Int → Int} (hm : M[m]? = some (ob 8 [f0, f1, f2, f3, f4, f5, f6, f7, f8, f9, f10, rr E a, f12, f13, f14, f15, f16, f17])) (ha : M[a]? = some (ia E 0 770 w)) (hw : WF w) {s k h : Int} (hP : Pl w s k h) (hp : Post (some (iv (sbW w s k h))) M) : Cn E rX8_subOf mX8_subOf [rr E m, iv s, iv k, iv h] M Post := by
  refine Cn.of (L := [some (rr E m), some (iv s), some (iv k), some (iv h), none]) (by decide) (Nat.le_of_ble_eq_true rfl) rfl ?_
  refine v_aload_0 dX8_subOf_0 ?_
  refine v_iload_1 dX8_subOf_1 ?_
  refine v_iload_2 dX8_subOf_2 ?_
  refine v_iload_3 dX8_subOf_3 ?_
  refine l_X8_172 rfl dX8_subOf_4 hm ⟨Nat.le_of_ble_eq_true rfl, Nat.le_of_ble_eq_true rfl⟩ (Nat.le_of_ble_eq_true rfl) ⟨Nat.le_refl _, Nat.le_refl _⟩ (c_X8_meanOf hm ha hw hP ?_)
  refine v_istore_4 dX8_subOf_7 (Nat.le_of_ble_eq_true rfl) rfl ?_
  refine v_iload_4 dX8_subOf_9 ?_
  refine v_iconst dX8_subOf_11 ?_
  have b1 := mn_bd hw s k h
  refine v_icmp_ne (tgt := 19) dX8_subOf_12 rfl ⟨by omega, by omega⟩ ⟨by omega, by omega⟩ (fun c12 => ?_) (fun c12 => ?_)
  · refine v_aload_0 dX8_subOf_19 ?_
    refine v_iload_2 dX8_subOf_20 ?_
    refine v_iload_4 dX8_subOf_21 ?_
    refine l_X8_175 rfl dX8_subOf_23 hm ⟨Nat.le_of_ble_eq_true rfl, Nat.le_of_ble_eq_true rfl⟩ (Nat.le_of_ble_eq_true rfl) ⟨Nat.le_refl _, Nat.le_refl _⟩ (c_X8_scaleOf hm ha hw hP.2.2.2.1 hP.2.2.2.2.1 (by omega) (by omega) ?_)
    exact v_iret dX8_subOf_26 rfl (Nat.le_refl _) (Nat.le_refl _) (by have e : sbW w s k h = scW w k (mnW w s k h) := if_neg c12; rw [e] at hp; exact hp)
  · refine v_iconst dX8_subOf_15 ?_
    refine v_goto (tgt := 26) dX8_subOf_16 rfl ?_
    exact v_iret dX8_subOf_26 rfl (Nat.le_refl _) (Nat.le_refl _) (by have e : sbW w s k h = -1 := if_pos c12; rw [e] at hp; exact hp)

set_option maxRecDepth 100000 in
theorem c_X8_rulingOf {E : Ev} {M : Mem} {Post : Option Value → Mem → Prop} {m a : Nat} {f0 f1 f2 f3 f4 f5 f6 f7 f8 f9 f10 f12 f13 f14 f15 f16 f17 : Value} {w : Int → Int} (hm : M[m]? = some (ob 8 [f0, f1, f2, f3, f4, f5, f6, f7, f8, f9, f10, rr E a, f12, f13, f14, f15, f16, f17])) (ha : M[a]? = some (ia E 0 770 w)) (hw : WF w) {s h : Int} (s0 : 0 ≤ s) (s1 : s < w 2) (h0 : 0 ≤ h) (h1 : h < w 0) (hp : Post (some (iv (rlW w s h))) M) : Cn E rX8_rulingOf mX8_rulingOf [rr E m, iv s, iv h] M Post := by
  have lp : ∀ (r : Nat) (k : Int), (0 ≤ k) → (k ≤ w 1) → w 1 - k < (r : Int) → V E rX8_rulingOf mX8_rulingOf (finM E rX8_rulingOf Post) 0 0 M 5 [some (rr E m), some (iv s), some (iv h), some (iv (bst (fun k => sbW w s k h) 0 (k - 0).toNat).2), some (iv k)] [] := by
    intro r
    induction r with
    | zero => intro k h_0 h_1 hz; exact absurd hz (by omega)
    | succ r ih =>
      intro k h_0 h_1 hz
      refine v_iload_4 dX8_rulingOf_5 ?_
      refine v_aload_0 dX8_rulingOf_7 ?_
      refine g_X8_74 rfl dX8_rulingOf_8 hm ?_
      refine v_iconst dX8_rulingOf_11 ?_
      refine v_iaload dX8_rulingOf_12 ha (by omega) (by omega) (by decide) ?_
      have hn1 := hw.2.1
      have hn2 := hw.2.2.1
      have hn0 := hw.1
      have b1 := bst_val (f := fun k => sbW w s k h) (fun x => (sb_bd hw s x h).1) 0 (k - 0).toNat
      have b2 := sb_bd hw s k h
      have b3 := sb_bd hw s (bst (fun k => sbW w s k h) 0 (k - 0).toNat).2 h
      refine v_icmp_ge (tgt := 60) dX8_rulingOf_13 rfl ⟨by omega, by omega⟩ ⟨by omega, by omega⟩ (fun c13 => ?_) (fun c13 => ?_)
      · refine v_iload_3 dX8_rulingOf_60 ?_
        exact v_iret dX8_rulingOf_61 rfl (Nat.le_refl _) (Nat.le_refl _) (by rw [rl_bst hw] at hp; rw [show k = w 1 by omega, Int.sub_zero]; exact hp)
      · refine v_aload_0 dX8_rulingOf_16 ?_
        refine v_iload_1 dX8_rulingOf_17 ?_
        refine v_iload_4 dX8_rulingOf_18 ?_
        refine v_iload_2 dX8_rulingOf_20 ?_
        refine l_X8_178 rfl dX8_rulingOf_21 hm ⟨Nat.le_of_ble_eq_true rfl, Nat.le_of_ble_eq_true rfl⟩ (Nat.le_of_ble_eq_true rfl) ⟨Nat.le_refl _, Nat.le_refl _⟩ (c_X8_subOf hm ha hw (show Pl w s k h from ⟨by omega, by omega, by omega, by omega, by omega, by omega, by omega, by omega, by omega⟩) ?_)
        refine v_iconst dX8_rulingOf_24 ?_
        refine v_icmp_eq (tgt := 54) dX8_rulingOf_25 rfl ⟨by omega, by omega⟩ ⟨by omega, by omega⟩ (fun c25 => ?_) (fun c25 => ?_)
        · refine v_iinc_4 dX8_rulingOf_54 (Nat.le_of_ble_eq_true rfl) rfl ?_
          refine v_goto (tgt := 5) dX8_rulingOf_57 rfl ?_
          exact v_weak [some (rr E m), some (iv s), some (iv h), some (iv (bst (fun k => sbW w s k h) 0 ((k + 1) - 0).toNat).2), some (iv (k + 1))] ⟨rfl, rfl, rfl, by rw [bst_st _ h_0, if_neg (by omega)], rfl, trivial⟩ (ih (k + 1) (by omega) (by omega) (by omega))
        · refine v_iload_3 dX8_rulingOf_28 ?_
          refine v_iconst dX8_rulingOf_29 ?_
          refine v_icmp_eq (tgt := 51) dX8_rulingOf_30 rfl ⟨by omega, by omega⟩ ⟨by omega, by omega⟩ (fun c30 => ?_) (fun c30 => ?_)
          · refine v_iload_4 dX8_rulingOf_51 ?_
            refine v_istore_3 dX8_rulingOf_53 (Nat.le_of_ble_eq_true rfl) rfl ?_
            refine v_iinc_4 dX8_rulingOf_54 (Nat.le_of_ble_eq_true rfl) rfl ?_
            refine v_goto (tgt := 5) dX8_rulingOf_57 rfl ?_
            exact v_weak [some (rr E m), some (iv s), some (iv h), some (iv (bst (fun k => sbW w s k h) 0 ((k + 1) - 0).toNat).2), some (iv (k + 1))] ⟨rfl, rfl, rfl, by rw [bst_st _ h_0, if_pos (by omega)], rfl, trivial⟩ (ih (k + 1) (by omega) (by omega) (by omega))
          · refine v_aload_0 dX8_rulingOf_33 ?_
            refine v_iload_1 dX8_rulingOf_34 ?_
            refine v_iload_4 dX8_rulingOf_35 ?_
            refine v_iload_2 dX8_rulingOf_37 ?_
            refine l_X8_178 rfl dX8_rulingOf_38 hm ⟨Nat.le_of_ble_eq_true rfl, Nat.le_of_ble_eq_true rfl⟩ (Nat.le_of_ble_eq_true rfl) ⟨Nat.le_refl _, Nat.le_refl _⟩ (c_X8_subOf hm ha hw (show Pl w s k h from ⟨by omega, by omega, by omega, by omega, by omega, by omega, by omega, by omega, by omega⟩) ?_)
            refine v_aload_0 dX8_rulingOf_41 ?_
            refine v_iload_1 dX8_rulingOf_42 ?_
            refine v_iload_3 dX8_rulingOf_43 ?_
            refine v_iload_2 dX8_rulingOf_44 ?_
            refine l_X8_178 rfl dX8_rulingOf_45 hm ⟨Nat.le_of_ble_eq_true rfl, Nat.le_of_ble_eq_true rfl⟩ (Nat.le_of_ble_eq_true rfl) ⟨Nat.le_refl _, Nat.le_refl _⟩ (c_X8_subOf hm ha hw (show Pl w s (bst (fun k => sbW w s k h) 0 (k - 0).toNat).2 h from ⟨by omega, by omega, by omega, by omega, by omega, by omega, by omega, by omega, by omega⟩) ?_)
            refine v_icmp_le (tgt := 54) dX8_rulingOf_48 rfl ⟨by omega, by omega⟩ ⟨by omega, by omega⟩ (fun c48 => ?_) (fun c48 => ?_)
            · refine v_iinc_4 dX8_rulingOf_54 (Nat.le_of_ble_eq_true rfl) rfl ?_
              refine v_goto (tgt := 5) dX8_rulingOf_57 rfl ?_
              exact v_weak [some (rr E m), some (iv s), some (iv h), some (iv (bst (fun k => sbW w s k h) 0 ((k + 1) - 0).toNat).2), some (iv (k + 1))] ⟨rfl, rfl, rfl, by rw [bst_st _ h_0, if_neg (by omega)], rfl, trivial⟩ (ih (k + 1) (by omega) (by omega) (by omega))
            · refine v_iload_4 dX8_rulingOf_51 ?_
              refine v_istore_3 dX8_rulingOf_53 (Nat.le_of_ble_eq_true rfl) rfl ?_
              refine v_iinc_4 dX8_rulingOf_54 (Nat.le_of_ble_eq_true rfl) rfl ?_
              refine v_goto (tgt := 5) dX8_rulingOf_57 rfl ?_
              exact v_weak [some (rr E m), some (iv s), some (iv h), some (iv (bst (fun k => sbW w s k h) 0 ((k + 1) - 0).toNat).2), some (iv (k + 1))] ⟨rfl, rfl, rfl, by rw [bst_st _ h_0, if_pos (by omega)], rfl, trivial⟩ (ih (k + 1) (by omega) (by omega) (by omega))
  refine Cn.of (L := [some (rr E m), some (iv s), some (iv h), none, none]) (by decide) (Nat.le_of_ble_eq_true rfl) rfl ?_
  refine v_iconst dX8_rulingOf_0 ?_
  refine v_istore_3 dX8_rulingOf_1 (Nat.le_of_ble_eq_true rfl) rfl ?_
  refine v_iconst dX8_rulingOf_2 ?_
  refine v_istore_4 dX8_rulingOf_3 (Nat.le_of_ble_eq_true rfl) rfl ?_
  exact v_weak [some (rr E m), some (iv s), some (iv h), some (iv (bst (fun k => sbW w s k h) 0 ((0 : Int) - 0).toNat).2), some (iv (0 : Int))] ⟨rfl, rfl, rfl, rfl, rfl, trivial⟩ (lp (w 1 + 1).toNat 0 (by omega) (by have := hw.2.1; omega) (by have := hw.2.1; omega))

theorem rl_sb {w : Int → Int} (hw : WF w) (s h : Int) : (rlW w s h = -1 ∧ ixW w s h = -1) ∨ (0 ≤ rlW w s h ∧ rlW w s h < w 1 ∧ sbW w s (rlW w s h) h = ixW w s h) := by
  have hn := hw.2.1
  have b1 := bst_val (f := fun k => sbW w s k h) (fun x => (sb_bd hw s x h).1) 0 (w 1).toNat
  rw [rl_bst hw, ix_bst]
  rcases b1 with b | b
  · exact Or.inl ⟨b.2, b.1⟩
  · exact Or.inr ⟨by omega, by omega, b.2.2.2⟩

theorem ixl_s {w : Int → Int} {s h r x : Int} {Post : Option Value → Mem → Prop} {M : Mem} (c : ¬ r = -1) (b : (r = -1 ∧ x = -1) ∨ (0 ≤ r ∧ r < w 1 ∧ sbW w s r h = x)) (hp : Post (some (iv x)) M) : Post (some (iv (sbW w s r h))) M := by
  rcases b with b | b
  · exact absurd b.1 c
  · rw [b.2.2]; exact hp
theorem ixl_n {w : Int → Int} {s h r x : Int} {Post : Option Value → Mem → Prop} {M : Mem} (c : r = -1) (b : (r = -1 ∧ x = -1) ∨ (0 ≤ r ∧ r < w 1 ∧ sbW w s r h = x)) (hp : Post (some (iv x)) M) : Post (some (iv (-1))) M := by
  rcases b with b | b
  · rw [b.2] at hp; exact hp
  · omega

set_option maxRecDepth 100000 in
theorem c_X8_indexOf {E : Ev} {M : Mem} {Post : Option Value → Mem → Prop} {m a : Nat} {f0 f1 f2 f3 f4 f5 f6 f7 f8 f9 f10 f12 f13 f14 f15 f16 f17 : Value} {w : Int → Int} (hm : M[m]? = some (ob 8 [f0, f1, f2, f3, f4, f5, f6, f7, f8, f9, f10, rr E a, f12, f13, f14, f15, f16, f17])) (ha : M[a]? = some (ia E 0 770 w)) (hw : WF w) {s h : Int} (s0 : 0 ≤ s) (s1 : s < w 2) (h0 : 0 ≤ h) (h1 : h < w 0) (hp : Post (some (iv (ixW w s h))) M) : Cn E rX8_indexOf mX8_indexOf [rr E m, iv s, iv h] M Post := by
  refine Cn.of (L := [some (rr E m), some (iv s), some (iv h), none]) (by decide) (Nat.le_of_ble_eq_true rfl) rfl ?_
  refine v_aload_0 dX8_indexOf_0 ?_
  refine v_iload_1 dX8_indexOf_1 ?_
  refine v_iload_2 dX8_indexOf_2 ?_
  refine l_X8_181 rfl dX8_indexOf_3 hm ⟨Nat.le_of_ble_eq_true rfl, Nat.le_of_ble_eq_true rfl⟩ (Nat.le_of_ble_eq_true rfl) ⟨Nat.le_refl _, Nat.le_refl _⟩ (c_X8_rulingOf hm ha hw s0 s1 h0 h1 ?_)
  refine v_istore_3 dX8_indexOf_6 (Nat.le_of_ble_eq_true rfl) rfl ?_
  refine v_iload_3 dX8_indexOf_7 ?_
  refine v_iconst dX8_indexOf_8 ?_
  have b1 := rl_sb hw s h
  have n0 := hw.1
  have n1 := hw.2.1
  have n2 := hw.2.2.1
  refine v_icmp_ne (tgt := 16) dX8_indexOf_9 rfl ⟨by omega, by omega⟩ ⟨by omega, by omega⟩ (fun c9 => ?_) (fun c9 => ?_)
  · refine v_aload_0 dX8_indexOf_16 ?_
    refine v_iload_1 dX8_indexOf_17 ?_
    refine v_iload_3 dX8_indexOf_18 ?_
    refine v_iload_2 dX8_indexOf_19 ?_
    refine l_X8_178 rfl dX8_indexOf_20 hm ⟨Nat.le_of_ble_eq_true rfl, Nat.le_of_ble_eq_true rfl⟩ (Nat.le_of_ble_eq_true rfl) ⟨Nat.le_refl _, Nat.le_refl _⟩ (c_X8_subOf hm ha hw (show Pl w s (rlW w s h) h from ⟨by omega, by omega, by omega, by omega, by omega, by omega, by omega, by omega, by omega⟩) ?_)
    exact v_iret dX8_indexOf_23 rfl (Nat.le_refl _) (Nat.le_refl _) (ixl_s c9 b1 hp)
  · refine v_iconst dX8_indexOf_12 ?_
    refine v_goto (tgt := 23) dX8_indexOf_13 rfl ?_
    exact v_iret dX8_indexOf_23 rfl (Nat.le_refl _) (Nat.le_refl _) (ixl_n c9 b1 hp)

theorem bands_bd {w : Int → Int} (hw : WF w) {k : Int} (h0 : 0 ≤ k) (h3 : k < 3) : I32 (w (4 + k)) := by
  have := hw.2.2.2.2.1
  rcases (show k = 0 ∨ k = 1 ∨ k = 2 by omega) with rfl | rfl | rfl
  · exact ⟨by show _ ≤ w 4; omega, by show w 4 < _; omega⟩
  · exact ⟨by show _ ≤ w 5; omega, by show w 5 < _; omega⟩
  · exact ⟨by show _ ≤ w 6; omega, by show w 6 < _; omega⟩

set_option maxRecDepth 100000 in
theorem c_X8_bandOf {E : Ev} {M : Mem} {Post : Option Value → Mem → Prop} {m a : Nat} {f0 f1 f2 f3 f4 f5 f6 f7 f8 f9 f10 f12 f13 f14 f15 f16 f17 : Value} {w : Int → Int} (hm : M[m]? = some (ob 8 [f0, f1, f2, f3, f4, f5, f6, f7, f8, f9, f10, rr E a, f12, f13, f14, f15, f16, f17])) (ha : M[a]? = some (ia E 0 770 w)) (hw : WF w) {index : Int} (hi : I32 index) (hp : Post (some (iv (bdW w index))) M) : Cn E rX8_bandOf mX8_bandOf [rr E m, iv index] M Post := by
  have lp : ∀ (r : Nat) (k : Int), (0 ≤ k) → (k ≤ 3) → 3 - k < (r : Int) → V E rX8_bandOf mX8_bandOf (finM E rX8_bandOf Post) 0 0 M 4 [some (rr E m), some (iv index), some (iv (sm (fun k => if w (4 + k) ≤ index then 1 else 0) 0 (k - 0).toNat)), some (iv k)] [] := by
    intro r
    induction r with
    | zero => intro k h_0 h_1 hz; exact absurd hz (by omega)
    | succ r ih =>
      intro k h_0 h_1 hz
      refine v_iload_3 dX8_bandOf_4 ?_
      refine v_iconst dX8_bandOf_5 ?_
      refine v_icmp_ge (tgt := 30) dX8_bandOf_6 rfl ⟨by omega, by omega⟩ ⟨by omega, by omega⟩ (fun c6 => ?_) (fun c6 => ?_)
      · refine v_iload_1 dX8_bandOf_30 ?_
        refine v_iconst dX8_bandOf_31 ?_
        refine v_icmp_ne (tgt := 39) dX8_bandOf_32 rfl hi ⟨by omega, by omega⟩ (fun c32 => ?_) (fun c32 => ?_)
        · refine v_iload_2 dX8_bandOf_39 ?_
          exact v_iret dX8_bandOf_40 rfl (Nat.le_refl _) (Nat.le_refl _) (by have e : bdW w index = sm (fun k => if w (4 + k) ≤ index then 1 else 0) 0 3 := if_neg c32; rw [e] at hp; rw [show k = 3 by omega]; exact hp)
        · refine v_iconst dX8_bandOf_35 ?_
          refine v_goto (tgt := 40) dX8_bandOf_36 rfl ?_
          exact v_iret dX8_bandOf_40 rfl (Nat.le_refl _) (Nat.le_refl _) (by have e : bdW w index = -1 := if_pos c32; rw [e] at hp; exact hp)
      · refine v_aload_0 dX8_bandOf_9 ?_
        refine g_X8_74 rfl dX8_bandOf_10 hm ?_
        refine v_iconst dX8_bandOf_13 ?_
        refine v_iload_3 dX8_bandOf_14 ?_
        refine v_iadd dX8_bandOf_15 ?_
        refine v_iaload dX8_bandOf_16 ha (by omega) (by omega) (by decide) ?_
        have b3 := bands_bd hw h_0 (show k < 3 by omega)
        refine v_iload_1 dX8_bandOf_17 ?_
        refine v_icmp_gt (tgt := 24) dX8_bandOf_18 rfl b3 hi (fun c18 => ?_) (fun c18 => ?_)
        · refine v_iinc_3 dX8_bandOf_24 (Nat.le_of_ble_eq_true rfl) rfl ?_
          refine v_goto (tgt := 4) dX8_bandOf_27 rfl ?_
          exact v_weak [some (rr E m), some (iv index), some (iv (sm (fun k => if w (4 + k) ≤ index then 1 else 0) 0 ((k + 1) - 0).toNat)), some (iv (k + 1))] ⟨rfl, rfl, by rw [sm_st _ h_0]; rw [if_neg (by omega), Int.add_zero], rfl, trivial⟩ (ih (k + 1) (by omega) (by omega) (by omega))
        · refine v_iinc_2 dX8_bandOf_21 (Nat.le_of_ble_eq_true rfl) rfl ?_
          refine v_iinc_3 dX8_bandOf_24 (Nat.le_of_ble_eq_true rfl) rfl ?_
          refine v_goto (tgt := 4) dX8_bandOf_27 rfl ?_
          exact v_weak [some (rr E m), some (iv index), some (iv (sm (fun k => if w (4 + k) ≤ index then 1 else 0) 0 ((k + 1) - 0).toNat)), some (iv (k + 1))] ⟨rfl, rfl, by rw [sm_st _ h_0]; rw [if_pos (by omega)], rfl, trivial⟩ (ih (k + 1) (by omega) (by omega) (by omega))
  refine Cn.of (L := [some (rr E m), some (iv index), none, none]) (by decide) (Nat.le_of_ble_eq_true rfl) rfl ?_
  refine v_iconst dX8_bandOf_0 ?_
  refine v_istore_2 dX8_bandOf_1 (Nat.le_of_ble_eq_true rfl) rfl ?_
  refine v_iconst dX8_bandOf_2 ?_
  refine v_istore_3 dX8_bandOf_3 (Nat.le_of_ble_eq_true rfl) rfl ?_
  exact v_weak [some (rr E m), some (iv index), some (iv (sm (fun k => if w (4 + k) ≤ index then 1 else 0) 0 ((0 : Int) - 0).toNat)), some (iv (0 : Int))] ⟨rfl, rfl, rfl, rfl, trivial⟩ (lp 4 0 (by omega) (by omega) (by omega))
