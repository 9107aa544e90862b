set_option maxRecDepth 100000 in
theorem c_X8_read {E : Ev} {M : Mem} {Post : Option Value → Mem → Prop} {m a : Nat} {f0 f1 f2 f3 f4 f5 f6 f7 f8 f9 f10 f12 f13 f14 f15 f16 f17 : Value} {w : Int → Int} (hm : M[m]? = some (ob 8 [f0, f1, f2, f3, f4, f5, f6, f7, f8, f9, f10, rr E a, f12, f13, f14, f15, f16, f17])) (ha : M[a]? = some (ia E 0 770 w)) (hw : WF w) {s k h : Int} (hs : I32 s) (hk : I32 k) (hh : I32 h) (hp : Post (some (iv (rdA w s k h))) M) : Cn E rX8_read mX8_read [rr E m, iv s, iv k, iv h] M Post := by
  refine Cn.of (L := [some (rr E m), some (iv s), some (iv k), some (iv h)]) (by decide) (Nat.le_of_ble_eq_true rfl) rfl ?_
  refine v_aload_0 dX8_read_0 ?_
  refine v_iload_1 dX8_read_1 ?_
  refine v_iload_2 dX8_read_2 ?_
  refine v_iload_3 dX8_read_3 ?_
  refine l_X8_188 rfl dX8_read_4 hm ⟨Nat.le_of_ble_eq_true rfl, Nat.le_of_ble_eq_true rfl⟩ (Nat.le_of_ble_eq_true rfl) ⟨Nat.le_refl _, Nat.le_refl _⟩ (c_X8_are hm ha hw hs hk hh ?_)
  refine v_ifeq_b (tgt := 20) dX8_read_7 rfl (fun c => ?_) (fun c => ?_)
  · refine v_iconst dX8_read_20 ?_
    exact v_iret dX8_read_21 rfl (Nat.le_refl _) (Nat.le_refl _) (by rw [rd_neg c] at hp; exact hp)
  · refine v_aload_0 dX8_read_10 ?_
    refine v_iload_1 dX8_read_11 ?_
    refine v_iload_2 dX8_read_12 ?_
    refine v_iload_3 dX8_read_13 ?_
    refine l_X8_169 rfl dX8_read_14 hm ⟨Nat.le_of_ble_eq_true rfl, Nat.le_of_ble_eq_true rfl⟩ (Nat.le_of_ble_eq_true rfl) ⟨Nat.le_refl _, Nat.le_refl _⟩ (c_X8_readOf hm ha c ?_)
    refine v_goto (tgt := 21) dX8_read_17 rfl ?_
    exact v_iret dX8_read_21 rfl (Nat.le_refl _) (Nat.le_refl _) hp

set_option maxRecDepth 100000 in
theorem c_X8_mean {E : Ev} {M : Mem} {Post : Option Value → Mem → Prop} {m a : Nat} {f0 f1 f2 f3 f4 f5 f6 f7 f8 f9 f10 f12 f13 f14 f15 f16 f17 : Value} {w : Int → Int} (hm : M[m]? = some (ob 8 [f0, f1, f2, f3, f4, f5, f6, f7, f8, f9, f10, rr E a, f12, f13, f14, f15, f16, f17])) (ha : M[a]? = some (ia E 0 770 w)) (hw : WF w) {s k h : Int} (hs : I32 s) (hk : I32 k) (hh : I32 h) (hp : Post (some (iv (mnW w s k h))) M) : Cn E rX8_mean mX8_mean [rr E m, iv s, iv k, iv h] M Post := by
  refine Cn.of (L := [some (rr E m), some (iv s), some (iv k), some (iv h)]) (by decide) (Nat.le_of_ble_eq_true rfl) rfl ?_
  refine v_aload_0 dX8_mean_0 ?_
  refine v_iload_1 dX8_mean_1 ?_
  refine v_iload_2 dX8_mean_2 ?_
  refine v_iload_3 dX8_mean_3 ?_
  refine l_X8_188 rfl dX8_mean_4 hm ⟨Nat.le_of_ble_eq_true rfl, Nat.le_of_ble_eq_true rfl⟩ (Nat.le_of_ble_eq_true rfl) ⟨Nat.le_refl _, Nat.le_refl _⟩ (c_X8_are hm ha hw hs hk hh ?_)
  refine v_ifeq_b (tgt := 20) dX8_mean_7 rfl (fun c => ?_) (fun c => ?_)
  · refine v_iconst dX8_mean_20 ?_
    exact v_iret dX8_mean_21 rfl (Nat.le_refl _) (Nat.le_refl _) (by rw [mn_neg c] at hp; exact hp)
  · refine v_aload_0 dX8_mean_10 ?_
    refine v_iload_1 dX8_mean_11 ?_
    refine v_iload_2 dX8_mean_12 ?_
    refine v_iload_3 dX8_mean_13 ?_
    refine l_X8_172 rfl dX8_mean_14 hm ⟨Nat.le_of_ble_eq_true rfl, Nat.le_of_ble_eq_true rfl⟩ (Nat.le_of_ble_eq_true rfl) ⟨Nat.le_refl _, Nat.le_refl _⟩ (c_X8_meanOf hm ha hw c ?_)
    refine v_goto (tgt := 21) dX8_mean_17 rfl ?_
    exact v_iret dX8_mean_21 rfl (Nat.le_refl _) (Nat.le_refl _) hp

set_option maxRecDepth 100000 in
theorem c_X8_sub {E : Ev} {M : Mem} {Post : Option Value → Mem → Prop} {m a : Nat} {f0 f1 f2 f3 f4 f5 f6 f7 f8 f9 f10 f12 f13 f14 f15 f16 f17 : Value} {w : Int → Int} (hm : M[m]? = some (ob 8 [f0, f1, f2, f3, f4, f5, f6, f7, f8, f9, f10, rr E a, f12, f13, f14, f15, f16, f17])) (ha : M[a]? = some (ia E 0 770 w)) (hw : WF w) {s k h : Int} (hs : I32 s) (hk : I32 k) (hh : I32 h) (hp : Post (some (iv (sbW w s k h))) M) : Cn E rX8_sub mX8_sub [rr E m, iv s, iv k, iv h] M Post := by
  refine Cn.of (L := [some (rr E m), some (iv s), some (iv k), some (iv h)]) (by decide) (Nat.le_of_ble_eq_true rfl) rfl ?_
  refine v_aload_0 dX8_sub_0 ?_
  refine v_iload_1 dX8_sub_1 ?_
  refine v_iload_2 dX8_sub_2 ?_
  refine v_iload_3 dX8_sub_3 ?_
  refine l_X8_188 rfl dX8_sub_4 hm ⟨Nat.le_of_ble_eq_true rfl, Nat.le_of_ble_eq_true rfl⟩ (Nat.le_of_ble_eq_true rfl) ⟨Nat.le_refl _, Nat.le_refl _⟩ (c_X8_are hm ha hw hs hk hh ?_)
  refine v_ifeq_b (tgt := 20) dX8_sub_7 rfl (fun c => ?_) (fun c => ?_)
  · refine v_iconst dX8_sub_20 ?_
    exact v_iret dX8_sub_21 rfl (Nat.le_refl _) (Nat.le_refl _) (by rw [sb_neg c] at hp; exact hp)
  · refine v_aload_0 dX8_sub_10 ?_
    refine v_iload_1 dX8_sub_11 ?_
    refine v_iload_2 dX8_sub_12 ?_
    refine v_iload_3 dX8_sub_13 ?_
    refine l_X8_178 rfl dX8_sub_14 hm ⟨Nat.le_of_ble_eq_true rfl, Nat.le_of_ble_eq_true rfl⟩ (Nat.le_of_ble_eq_true rfl) ⟨Nat.le_refl _, Nat.le_refl _⟩ (c_X8_subOf hm ha hw c ?_)
    refine v_goto (tgt := 21) dX8_sub_17 rfl ?_
    exact v_iret dX8_sub_21 rfl (Nat.le_refl _) (Nat.le_refl _) hp

set_option maxRecDepth 100000 in
theorem c_X8_scale {E : Ev} {M : Mem} {Post : Option Value → Mem → Prop} {m a : Nat} {f0 f1 f2 f3 f4 f5 f6 f7 f8 f9 f10 f12 f13 f14 f15 f16 f17 : Value} {w : Int → Int} (hm : M[m]? = some (ob 8 [f0, f1, f2, f3, f4, f5, f6, f7, f8, f9, f10, rr E a, f12, f13, f14, f15, f16, f17])) (ha : M[a]? = some (ia E 0 770 w)) (hw : WF w) {k level : Int} (hk : I32 k) (hl : I32 level) (hp : Post (some (iv (qSc w k level))) M) : Cn E rX8_scale mX8_scale [rr E m, iv k, iv level] M Post := by
  unfold qSc at hp
  refine Cn.of (L := [some (rr E m), some (iv k), some (iv level)]) (by decide) (Nat.le_of_ble_eq_true rfl) rfl ?_
  refine v_aload_0 dX8_scale_0 ?_
  refine v_iload_1 dX8_scale_1 ?_
  refine l_X8_160 rfl dX8_scale_2 hm ⟨Nat.le_of_ble_eq_true rfl, Nat.le_of_ble_eq_true rfl⟩ (Nat.le_of_ble_eq_true rfl) ⟨Nat.le_refl _, Nat.le_refl _⟩ (c_X8_isSubstance_ hm ha hw hk ?_)
  refine v_ifeq_b (tgt := 28) dX8_scale_5 rfl (fun c5 => ?_) (fun c5 => ?_)
  · refine v_iconst dX8_scale_28 ?_
    exact v_iret dX8_scale_29 rfl (Nat.le_refl _) (Nat.le_refl _) (by first | (rw [if_pos (by omega)] at hp; exact hp) | (rw [if_neg (by omega)] at hp; exact hp))
  · refine v_iload_2 dX8_scale_8 ?_
    refine v_iconst dX8_scale_9 ?_
    refine v_sipush dX8_scale_10 (by decide) ?_
    refine l_X8_89 rfl dX8_scale_13 ⟨Nat.le_of_ble_eq_true rfl, Nat.le_of_ble_eq_true rfl⟩ (Nat.le_of_ble_eq_true rfl) ⟨Nat.le_refl _, Nat.le_refl _⟩ (c_X8_isIn hl ⟨by omega, by omega⟩ ⟨by omega, by omega⟩ ?_)
    refine v_ifeq_b (tgt := 28) dX8_scale_16 rfl (fun c16 => ?_) (fun c16 => ?_)
    · refine v_iconst dX8_scale_28 ?_
      exact v_iret dX8_scale_29 rfl (Nat.le_refl _) (Nat.le_refl _) (by first | (rw [if_pos (by omega)] at hp; exact hp) | (rw [if_neg (by omega)] at hp; exact hp))
    · refine v_aload_0 dX8_scale_19 ?_
      refine v_iload_1 dX8_scale_20 ?_
      refine v_iload_2 dX8_scale_21 ?_
      refine l_X8_175 rfl dX8_scale_22 hm ⟨Nat.le_of_ble_eq_true rfl, Nat.le_of_ble_eq_true rfl⟩ (Nat.le_of_ble_eq_true rfl) ⟨Nat.le_refl _, Nat.le_refl _⟩ (c_X8_scaleOf hm ha hw (by omega) (by omega) (by omega) (by omega) ?_)
      refine v_goto (tgt := 29) dX8_scale_25 rfl ?_
      exact v_iret dX8_scale_29 rfl (Nat.le_refl _) (Nat.le_refl _) (by first | (rw [if_pos (by omega)] at hp; exact hp) | (rw [if_neg (by omega)] at hp; exact hp))

set_option maxRecDepth 100000 in
theorem lp_X8_back {E : Ev} {M : Mem} {Post : Option Value → Mem → Prop} {m a : Nat} {f0 f1 f2 f3 f4 f5 f6 f7 f8 f9 f10 f12 f13 f14 f15 f16 f17 : Value} {w : Int → Int} (hm : M[m]? = some (ob 8 [f0, f1, f2, f3, f4, f5, f6, f7, f8, f9, f10, rr E a, f12, f13, f14, f15, f16, f17])) (ha : M[a]? = some (ia E 0 770 w)) (hw : WF w) {k index : Int} (hk1 : 0 ≤ k) (hk2 : k < w 1) (hi1 : 0 ≤ index) (hi2 : index ≤ 500) (hp : Post (some (iv (bkW w k index))) M) : V E rX8_back mX8_back (finM E rX8_back Post) 0 0 M 23 [some (rr E m), some (iv k), some (iv index), some (iv 0)] [] := by
  have lp : ∀ (r : Nat) (x : Int), (0 ≤ x) → (x ≤ 1000) → (bkW w k index = fge (scW w k) index x (1000 - x).toNat) → 1000 - x < (r : Int) → V E rX8_back mX8_back (finM E rX8_back Post) 0 0 M 23 [some (rr E m), some (iv k), some (iv index), some (iv x)] [] := by
    intro r
    induction r with
    | zero => intro x h_0 h_1 h_2 hz; exact absurd hz (by omega)
    | succ r ih =>
      intro x h_0 h_1 h_2 hz
      refine v_iload_3 dX8_back_23 ?_
      refine v_sipush dX8_back_24 (by decide) ?_
      refine v_icmp_gt (tgt := 48) dX8_back_27 rfl ⟨by omega, by omega⟩ ⟨by omega, by omega⟩ (fun c27 => ?_) (fun c27 => ?_)
      · refine v_bipush dX8_back_48 (by decide) ?_
        exact v_iret dX8_back_50 rfl (Nat.le_refl _) (Nat.le_refl _) (by rw [h_2, fge_z _ _ (by omega)] at hp; exact hp)
      · refine v_aload_0 dX8_back_30 ?_
        refine v_iload_1 dX8_back_31 ?_
        refine v_iload_3 dX8_back_32 ?_
        refine l_X8_175 rfl dX8_back_33 hm ⟨Nat.le_of_ble_eq_true rfl, Nat.le_of_ble_eq_true rfl⟩ (Nat.le_of_ble_eq_true rfl) ⟨Nat.le_refl _, Nat.le_refl _⟩ (c_X8_scaleOf hm ha hw hk1 hk2 h_0 (by omega) ?_)
        refine v_iload_2 dX8_back_36 ?_
        have b1 := sc_bd hw hk1 hk2 x
        refine v_icmp_lt (tgt := 42) dX8_back_37 rfl ⟨by omega, by omega⟩ ⟨by omega, by omega⟩ (fun c37 => ?_) (fun c37 => ?_)
        · refine v_iinc_3 dX8_back_42 (Nat.le_of_ble_eq_true rfl) rfl ?_
          refine v_goto (tgt := 23) dX8_back_45 rfl ?_
          exact ih (x + 1) (by omega) (by omega) (by rw [h_2, fge_st _ _ (by omega), if_neg (by omega)]) (by omega)
        · refine v_iload_3 dX8_back_40 ?_
          exact v_iret dX8_back_41 rfl (Nat.le_refl _) (Nat.le_refl _) (by rw [h_2, fge_st _ _ (by omega), if_pos (by omega)] at hp; exact hp)
  exact lp 1001 0 (by omega) (by omega) rfl (by omega)

set_option maxRecDepth 100000 in
theorem c_X8_back {E : Ev} {M : Mem} {Post : Option Value → Mem → Prop} {m a : Nat} {f0 f1 f2 f3 f4 f5 f6 f7 f8 f9 f10 f12 f13 f14 f15 f16 f17 : Value} {w : Int → Int} (hm : M[m]? = some (ob 8 [f0, f1, f2, f3, f4, f5, f6, f7, f8, f9, f10, rr E a, f12, f13, f14, f15, f16, f17])) (ha : M[a]? = some (ia E 0 770 w)) (hw : WF w) {k index : Int} (hk : I32 k) (hi : I32 index) (hp : Post (some (iv (qBk w k index))) M) : Cn E rX8_back mX8_back [rr E m, iv k, iv index] M Post := by
  unfold qBk at hp
  refine Cn.of (L := [some (rr E m), some (iv k), some (iv index), none]) (by decide) (Nat.le_of_ble_eq_true rfl) rfl ?_
  refine v_aload_0 dX8_back_0 ?_
  refine v_iload_1 dX8_back_1 ?_
  refine l_X8_160 rfl dX8_back_2 hm ⟨Nat.le_of_ble_eq_true rfl, Nat.le_of_ble_eq_true rfl⟩ (Nat.le_of_ble_eq_true rfl) ⟨Nat.le_refl _, Nat.le_refl _⟩ (c_X8_isSubstance_ hm ha hw hk ?_)
  refine v_ifeq_b (tgt := 19) dX8_back_5 rfl (fun c5 => ?_) (fun c5 => ?_)
  · refine v_iconst dX8_back_19 ?_
    exact v_iret dX8_back_20 rfl (Nat.le_refl _) (Nat.le_refl _) (by first | (rw [if_pos (by omega)] at hp; exact hp) | (rw [if_neg (by omega)] at hp; exact hp))
  · refine v_iload_2 dX8_back_8 ?_
    refine v_iconst dX8_back_9 ?_
    refine v_sipush dX8_back_10 (by decide) ?_
    refine l_X8_89 rfl dX8_back_13 ⟨Nat.le_of_ble_eq_true rfl, Nat.le_of_ble_eq_true rfl⟩ (Nat.le_of_ble_eq_true rfl) ⟨Nat.le_refl _, Nat.le_refl _⟩ (c_X8_isIn hi ⟨by omega, by omega⟩ ⟨by omega, by omega⟩ ?_)
    refine v_ifne_b (tgt := 21) dX8_back_16 rfl (fun c16 => ?_) (fun c16 => ?_)
    · refine v_iconst dX8_back_21 ?_
      refine v_istore_3 dX8_back_22 (Nat.le_of_ble_eq_true rfl) rfl ?_
      exact lp_X8_back hm ha hw (by omega) (by omega) (by omega) (by omega) (by rw [if_pos (by omega)] at hp; exact hp)
    · refine v_iconst dX8_back_19 ?_
      exact v_iret dX8_back_20 rfl (Nat.le_refl _) (Nat.le_refl _) (by first | (rw [if_pos (by omega)] at hp; exact hp) | (rw [if_neg (by omega)] at hp; exact hp))

set_option maxRecDepth 100000 in
theorem c_X8_index {E : Ev} {M : Mem} {Post : Option Value → Mem → Prop} {m a : Nat} {f0 f1 f2 f3 f4 f5 f6 f7 f8 f9 f10 f12 f13 f14 f15 f16 f17 : Value} {w : Int → Int} (hm : M[m]? = some (ob 8 [f0, f1, f2, f3, f4, f5, f6, f7, f8, f9, f10, rr E a, f12, f13, f14, f15, f16, f17])) (ha : M[a]? = some (ia E 0 770 w)) (hw : WF w) {s h t : Int} (hs : I32 s) (hh : I32 h) (ht : I32 t) (hp : Post (some (iv (qIx w s h t))) M) : Cn E rX8_index mX8_index [rr E m, iv s, iv h, iv t] M Post := by
  unfold qIx at hp
  refine Cn.of (L := [some (rr E m), some (iv s), some (iv h), some (iv t)]) (by decide) (Nat.le_of_ble_eq_true rfl) rfl ?_
  refine v_aload_0 dX8_index_0 ?_
  refine v_iload_1 dX8_index_1 ?_
  refine l_X8_157 rfl dX8_index_2 hm ⟨Nat.le_of_ble_eq_true rfl, Nat.le_of_ble_eq_true rfl⟩ (Nat.le_of_ble_eq_true rfl) ⟨Nat.le_refl _, Nat.le_refl _⟩ (c_X8_isStation hm ha hw hs ?_)
  refine v_ifeq_b (tgt := 16) dX8_index_5 rfl (fun c5 => ?_) (fun c5 => ?_)
  · refine v_iconst dX8_index_16 ?_
    exact v_iret dX8_index_17 rfl (Nat.le_refl _) (Nat.le_refl _) (by rw [if_neg (by omega)] at hp; exact hp)
  · refine v_aload_0 dX8_index_8 ?_
    refine v_iload_2 dX8_index_9 ?_
    refine l_X8_162 rfl dX8_index_10 hm ⟨Nat.le_of_ble_eq_true rfl, Nat.le_of_ble_eq_true rfl⟩ (Nat.le_of_ble_eq_true rfl) ⟨Nat.le_refl _, Nat.le_refl _⟩ (c_X8_isHour hm ha hw hh ?_)
    refine v_ifne_b (tgt := 18) dX8_index_13 rfl (fun c13 => ?_) (fun c13 => ?_)
    · refine v_iload_3 dX8_index_18 ?_
      refine v_if_ne (tgt := 31) dX8_index_19 rfl ht (fun c19 => ?_) (fun c19 => ?_)
      · refine v_iload_3 dX8_index_31 ?_
        refine v_iconst dX8_index_32 ?_
        refine v_icmp_ne (tgt := 45) dX8_index_33 rfl ht ⟨by omega, by omega⟩ (fun c33 => ?_) (fun c33 => ?_)
        · refine v_iload_3 dX8_index_45 ?_
          refine v_iconst dX8_index_46 ?_
          refine v_icmp_ne (tgt := 63) dX8_index_47 rfl ht ⟨by omega, by omega⟩ (fun c47 => ?_) (fun c47 => ?_)
          · refine v_iconst dX8_index_63 ?_
            exact v_iret dX8_index_64 rfl (Nat.le_refl _) (Nat.le_refl _) (by rw [if_pos (by omega)] at hp; rw [if_neg c19, if_neg c33, if_neg c47] at hp; exact hp)
          · refine v_aload_0 dX8_index_50 ?_
            refine v_aload_0 dX8_index_51 ?_
            refine v_iload_1 dX8_index_52 ?_
            refine v_iload_2 dX8_index_53 ?_
            refine l_X8_191 rfl dX8_index_54 hm ⟨Nat.le_of_ble_eq_true rfl, Nat.le_of_ble_eq_true rfl⟩ (Nat.le_of_ble_eq_true rfl) ⟨Nat.le_refl _, Nat.le_refl _⟩ (c_X8_indexOf hm ha hw (by omega) (by omega) (by omega) (by omega) ?_)
            refine l_X8_194 rfl dX8_index_57 hm ⟨Nat.le_of_ble_eq_true rfl, Nat.le_of_ble_eq_true rfl⟩ (Nat.le_of_ble_eq_true rfl) ⟨Nat.le_refl _, Nat.le_refl _⟩ (c_X8_bandOf hm ha hw ⟨by have := ix_bd hw s h; omega, by have := ix_bd hw s h; omega⟩ ?_)
            refine v_goto (tgt := 64) dX8_index_60 rfl ?_
            exact v_iret dX8_index_64 rfl (Nat.le_refl _) (Nat.le_refl _) (by rw [if_pos (by omega)] at hp; rw [if_neg c19, if_neg c33, if_pos c47] at hp; exact hp)
        · refine v_aload_0 dX8_index_36 ?_
          refine v_iload_1 dX8_index_37 ?_
          refine v_iload_2 dX8_index_38 ?_
          refine l_X8_181 rfl dX8_index_39 hm ⟨Nat.le_of_ble_eq_true rfl, Nat.le_of_ble_eq_true rfl⟩ (Nat.le_of_ble_eq_true rfl) ⟨Nat.le_refl _, Nat.le_refl _⟩ (c_X8_rulingOf hm ha hw (by omega) (by omega) (by omega) (by omega) ?_)
          refine v_goto (tgt := 64) dX8_index_42 rfl ?_
          exact v_iret dX8_index_64 rfl (Nat.le_refl _) (Nat.le_refl _) (by rw [if_pos (by omega)] at hp; rw [if_neg c19, if_pos c33] at hp; exact hp)
      · refine v_aload_0 dX8_index_22 ?_
        refine v_iload_1 dX8_index_23 ?_
        refine v_iload_2 dX8_index_24 ?_
        refine l_X8_191 rfl dX8_index_25 hm ⟨Nat.le_of_ble_eq_true rfl, Nat.le_of_ble_eq_true rfl⟩ (Nat.le_of_ble_eq_true rfl) ⟨Nat.le_refl _, Nat.le_refl _⟩ (c_X8_indexOf hm ha hw (by omega) (by omega) (by omega) (by omega) ?_)
        refine v_goto (tgt := 64) dX8_index_28 rfl ?_
        exact v_iret dX8_index_64 rfl (Nat.le_refl _) (Nat.le_refl _) (by rw [if_pos (by omega)] at hp; rw [if_pos c19] at hp; exact hp)
    · refine v_iconst dX8_index_16 ?_
      exact v_iret dX8_index_17 rfl (Nat.le_refl _) (Nat.le_refl _) (by rw [if_neg (by omega)] at hp; exact hp)

set_option maxRecDepth 100000 in
theorem lp_X8_lasts {E : Ev} {M : Mem} {Post : Option Value → Mem → Prop} {m a : Nat} {f0 f1 f2 f3 f4 f5 f6 f7 f8 f9 f10 f12 f13 f14 f15 f16 f17 : Value} {w : Int → Int} (hm : M[m]? = some (ob 8 [f0, f1, f2, f3, f4, f5, f6, f7, f8, f9, f10, rr E a, f12, f13, f14, f15, f16, f17])) (ha : M[a]? = some (ia E 0 770 w)) (hw : WF w) {s h b : Int} (s0 : 0 ≤ s) (s1 : s < w 2) (h0 : 0 ≤ h) (h1 : h < w 0) (b0 : 1 ≤ b) (b1 : b ≤ 3) (hp : Post (some (iv (lsN (fun x => bdW w (ixW w s x)) b (h + 1).toNat))) M) : V E rX8_lasts mX8_lasts (finM E rX8_lasts Post) 0 0 M 30 [some (rr E m), some (iv s), some (iv h), some (iv b), some (iv 0)] [] := by
  have n0 := hw.1
  have lp : ∀ (r : Nat) (n : Int), (0 ≤ n) → (n ≤ h + 1) → (lsN (fun x => bdW w (ixW w s x)) b (h + 1).toNat = n + lsN (fun x => bdW w (ixW w s x)) b (h - n + 1).toNat) → h + 1 - n < (r : Int) → V E rX8_lasts mX8_lasts (finM E rX8_lasts Post) 0 0 M 30 [some (rr E m), some (iv s), some (iv h), some (iv b), some (iv n)] [] := by
    intro r
    induction r with
    | zero => intro n h_0 h_1 h_2 hz; exact absurd hz (by omega)
    | succ r ih =>
      intro n h_0 h_1 h_2 hz
      refine v_iload_4 dX8_lasts_30 ?_
      refine v_iload_2 dX8_lasts_32 ?_
      refine v_icmp_gt (tgt := 59) dX8_lasts_33 rfl ⟨by omega, by omega⟩ ⟨by omega, by omega⟩ (fun c33 => ?_) (fun c33 => ?_)
      · refine v_iload_4 dX8_lasts_59 ?_
        exact v_iret dX8_lasts_61 rfl (Nat.le_refl _) (Nat.le_refl _) (by rw [h_2, show (h - n + 1).toNat = 0 by omega, lsN, Int.add_zero] at hp; exact hp)
      · refine v_aload_0 dX8_lasts_36 ?_
        refine v_aload_0 dX8_lasts_37 ?_
        refine v_iload_1 dX8_lasts_38 ?_
        refine v_iload_2 dX8_lasts_39 ?_
        refine v_iload_4 dX8_lasts_40 ?_
        refine v_isub dX8_lasts_42 ?_
        refine l_X8_191 rfl dX8_lasts_43 hm ⟨Nat.le_of_ble_eq_true rfl, Nat.le_of_ble_eq_true rfl⟩ (Nat.le_of_ble_eq_true rfl) ⟨Nat.le_refl _, Nat.le_refl _⟩ (c_X8_indexOf hm ha hw s0 s1 (by omega) (by omega) ?_)
        refine l_X8_194 rfl dX8_lasts_46 hm ⟨Nat.le_of_ble_eq_true rfl, Nat.le_of_ble_eq_true rfl⟩ (Nat.le_of_ble_eq_true rfl) ⟨Nat.le_refl _, Nat.le_refl _⟩ (c_X8_bandOf hm ha hw ⟨by have := ix_bd hw s (h - n); omega, by have := ix_bd hw s (h - n); omega⟩ ?_)
        refine v_iload_3 dX8_lasts_49 ?_
        have b1 := bd_bd (w := w) (ixW w s (h - n))
        refine v_icmp_lt (tgt := 59) dX8_lasts_50 rfl ⟨by omega, by omega⟩ ⟨by omega, by omega⟩ (fun c50 => ?_) (fun c50 => ?_)
        · refine v_iload_4 dX8_lasts_59 ?_
          exact v_iret dX8_lasts_61 rfl (Nat.le_refl _) (Nat.le_refl _) (by rw [h_2, ls_st _ _ (show 0 ≤ h - n by omega), if_neg (by omega), Int.add_zero] at hp; exact hp)
        · refine v_iinc_4 dX8_lasts_53 (Nat.le_of_ble_eq_true rfl) rfl ?_
          refine v_goto (tgt := 30) dX8_lasts_56 rfl ?_
          exact ih (n + 1) (by omega) (by omega) (by rw [h_2, show h - n + 1 = (h - n) + 1 by omega, ls_st _ _ (show 0 ≤ h - n by omega), if_pos (by omega), show h - (n + 1) + 1 = h - n by omega]; omega) (by omega)
  exact lp (h + 2).toNat 0 (by omega) (by omega) (by rw [Int.zero_add, Int.sub_zero]) (by omega)

set_option maxRecDepth 100000 in
theorem c_X8_lasts {E : Ev} {M : Mem} {Post : Option Value → Mem → Prop} {m a : Nat} {f0 f1 f2 f3 f4 f5 f6 f7 f8 f9 f10 f12 f13 f14 f15 f16 f17 : Value} {w : Int → Int} (hm : M[m]? = some (ob 8 [f0, f1, f2, f3, f4, f5, f6, f7, f8, f9, f10, rr E a, f12, f13, f14, f15, f16, f17])) (ha : M[a]? = some (ia E 0 770 w)) (hw : WF w) {s h b : Int} (hs : I32 s) (hh : I32 h) (hb : I32 b) (hp : Post (some (iv (qLs w s h b))) M) : Cn E rX8_lasts mX8_lasts [rr E m, iv s, iv h, iv b] M Post := by
  unfold qLs at hp
  refine Cn.of (L := [some (rr E m), some (iv s), some (iv h), some (iv b), none]) (by decide) (Nat.le_of_ble_eq_true rfl) rfl ?_
  refine v_aload_0 dX8_lasts_0 ?_
  refine v_iload_1 dX8_lasts_1 ?_
  refine l_X8_157 rfl dX8_lasts_2 hm ⟨Nat.le_of_ble_eq_true rfl, Nat.le_of_ble_eq_true rfl⟩ (Nat.le_of_ble_eq_true rfl) ⟨Nat.le_refl _, Nat.le_refl _⟩ (c_X8_isStation hm ha hw hs ?_)
  refine v_ifeq_b (tgt := 25) dX8_lasts_5 rfl (fun c5 => ?_) (fun c5 => ?_)
  · refine v_iconst dX8_lasts_25 ?_
    exact v_iret dX8_lasts_26 rfl (Nat.le_refl _) (Nat.le_refl _) (by first | (rw [if_pos (by omega)] at hp; exact hp) | (rw [if_neg (by omega)] at hp; exact hp))
  · refine v_aload_0 dX8_lasts_8 ?_
    refine v_iload_2 dX8_lasts_9 ?_
    refine l_X8_162 rfl dX8_lasts_10 hm ⟨Nat.le_of_ble_eq_true rfl, Nat.le_of_ble_eq_true rfl⟩ (Nat.le_of_ble_eq_true rfl) ⟨Nat.le_refl _, Nat.le_refl _⟩ (c_X8_isHour hm ha hw hh ?_)
    refine v_ifeq_b (tgt := 25) dX8_lasts_13 rfl (fun c13 => ?_) (fun c13 => ?_)
    · refine v_iconst dX8_lasts_25 ?_
      exact v_iret dX8_lasts_26 rfl (Nat.le_refl _) (Nat.le_refl _) (by first | (rw [if_pos (by omega)] at hp; exact hp) | (rw [if_neg (by omega)] at hp; exact hp))
    · refine v_iload_3 dX8_lasts_16 ?_
      refine v_iconst dX8_lasts_17 ?_
      refine v_iconst dX8_lasts_18 ?_
      refine l_X8_89 rfl dX8_lasts_19 ⟨Nat.le_of_ble_eq_true rfl, Nat.le_of_ble_eq_true rfl⟩ (Nat.le_of_ble_eq_true rfl) ⟨Nat.le_refl _, Nat.le_refl _⟩ (c_X8_isIn hb ⟨by omega, by omega⟩ ⟨by omega, by omega⟩ ?_)
      refine v_ifne_b (tgt := 27) dX8_lasts_22 rfl (fun c22 => ?_) (fun c22 => ?_)
      · refine v_iconst dX8_lasts_27 ?_
        refine v_istore_4 dX8_lasts_28 (Nat.le_of_ble_eq_true rfl) rfl ?_
        exact lp_X8_lasts hm ha hw (by omega) (by omega) (by omega) (by omega) (by omega) (by omega) (by rw [if_pos (by omega)] at hp; exact hp)
      · refine v_iconst dX8_lasts_25 ?_
        exact v_iret dX8_lasts_26 rfl (Nat.le_refl _) (Nat.le_refl _) (by first | (rw [if_pos (by omega)] at hp; exact hp) | (rw [if_neg (by omega)] at hp; exact hp))

set_option maxRecDepth 100000 in
theorem lp_X8_worst {E : Ev} {M : Mem} {Post : Option Value → Mem → Prop} {m a : Nat} {f0 f1 f2 f3 f4 f5 f6 f7 f8 f9 f10 f12 f13 f14 f15 f16 f17 : Value} {w : Int → Int} (hm : M[m]? = some (ob 8 [f0, f1, f2, f3, f4, f5, f6, f7, f8, f9, f10, rr E a, f12, f13, f14, f15, f16, f17])) (ha : M[a]? = some (ia E 0 770 w)) (hw : WF w) {s p q : Int} (s0 : 0 ≤ s) (s1 : s < w 2) (p0 : 0 ≤ p) (p1 : p < w 0) (q0 : 0 ≤ q) (q1 : q < w 0) (hp : Post (some (iv (bst (fun x => ixW w s x) p (q + 1 - p).toNat).2)) M) : V E rX8_worst mX8_worst (finM E rX8_worst Post) 0 0 M 32 [some (rr E m), some (iv s), some (iv p), some (iv q), some (iv (-1)), some (iv p)] [] := by
  have n0 := hw.1
  by_cases hpq : p ≤ q + 1
  · skip
    have lp : ∀ (r : Nat) (x : Int), (p ≤ x) → (x ≤ q + 1) → q + 1 - x < (r : Int) → V E rX8_worst mX8_worst (finM E rX8_worst Post) 0 0 M 32 [some (rr E m), some (iv s), some (iv p), some (iv q), some (iv (bst (fun x => ixW w s x) p (x - p).toNat).2), some (iv x)] [] := by
      intro r
      induction r with
      | zero => intro x h_0 h_1 hz; exact absurd hz (by omega)
      | succ r ih =>
        intro x h_0 h_1 hz
        refine v_iload_5 dX8_worst_32 ?_
        refine v_iload_3 dX8_worst_34 ?_
        have b1 := bst_val (f := fun x => ixW w s x) (fun x => (ix_bd hw s x).1) p (x - p).toNat
        have b2 := ix_bd hw s x
        have b3 := ix_bd hw s (bst (fun x => ixW w s x) p (x - p).toNat).2
        refine v_icmp_gt (tgt := 82) dX8_worst_35 rfl ⟨by omega, by omega⟩ ⟨by omega, by omega⟩ (fun c35 => ?_) (fun c35 => ?_)
        · refine v_iload_4 dX8_worst_82 ?_
          exact v_iret dX8_worst_84 rfl (Nat.le_refl _) (Nat.le_refl _) (by rw [show x = q + 1 by omega]; exact hp)
        · refine v_aload_0 dX8_worst_38 ?_
          refine v_iload_1 dX8_worst_39 ?_
          refine v_iload_5 dX8_worst_40 ?_
          refine l_X8_191 rfl dX8_worst_42 hm ⟨Nat.le_of_ble_eq_true rfl, Nat.le_of_ble_eq_true rfl⟩ (Nat.le_of_ble_eq_true rfl) ⟨Nat.le_refl _, Nat.le_refl _⟩ (c_X8_indexOf hm ha hw s0 s1 (by omega) (by omega) ?_)
          refine v_iconst dX8_worst_45 ?_
          refine v_icmp_eq (tgt := 76) dX8_worst_46 rfl ⟨by omega, by omega⟩ ⟨by omega, by omega⟩ (fun c46 => ?_) (fun c46 => ?_)
          · refine v_iinc_5 dX8_worst_76 (Nat.le_of_ble_eq_true rfl) rfl ?_
            refine v_goto (tgt := 32) dX8_worst_79 rfl ?_
            exact v_weak [some (rr E m), some (iv s), some (iv p), some (iv q), some (iv (bst (fun x => ixW w s x) p ((x + 1) - p).toNat).2), some (iv (x + 1))] ⟨rfl, rfl, rfl, rfl, by rw [bst_st _ h_0, if_neg (by omega)], rfl, trivial⟩ (ih (x + 1) (by omega) (by omega) (by omega))
          · refine v_iload_4 dX8_worst_49 ?_
            refine v_iconst dX8_worst_51 ?_
            refine v_icmp_eq (tgt := 72) dX8_worst_52 rfl ⟨by omega, by omega⟩ ⟨by omega, by omega⟩ (fun c52 => ?_) (fun c52 => ?_)
            · refine v_iload_5 dX8_worst_72 ?_
              refine v_istore_4 dX8_worst_74 (Nat.le_of_ble_eq_true rfl) rfl ?_
              refine v_iinc_5 dX8_worst_76 (Nat.le_of_ble_eq_true rfl) rfl ?_
              refine v_goto (tgt := 32) dX8_worst_79 rfl ?_
              exact v_weak [some (rr E m), some (iv s), some (iv p), some (iv q), some (iv (bst (fun x => ixW w s x) p ((x + 1) - p).toNat).2), some (iv (x + 1))] ⟨rfl, rfl, rfl, rfl, by rw [bst_st _ h_0, if_pos (by omega)], rfl, trivial⟩ (ih (x + 1) (by omega) (by omega) (by omega))
            · refine v_aload_0 dX8_worst_55 ?_
              refine v_iload_1 dX8_worst_56 ?_
              refine v_iload_5 dX8_worst_57 ?_
              refine l_X8_191 rfl dX8_worst_59 hm ⟨Nat.le_of_ble_eq_true rfl, Nat.le_of_ble_eq_true rfl⟩ (Nat.le_of_ble_eq_true rfl) ⟨Nat.le_refl _, Nat.le_refl _⟩ (c_X8_indexOf hm ha hw s0 s1 (by omega) (by omega) ?_)
              refine v_aload_0 dX8_worst_62 ?_
              refine v_iload_1 dX8_worst_63 ?_
              refine v_iload_4 dX8_worst_64 ?_
              refine l_X8_191 rfl dX8_worst_66 hm ⟨Nat.le_of_ble_eq_true rfl, Nat.le_of_ble_eq_true rfl⟩ (Nat.le_of_ble_eq_true rfl) ⟨Nat.le_refl _, Nat.le_refl _⟩ (c_X8_indexOf hm ha hw s0 s1 (by omega) (by omega) ?_)
              refine v_icmp_le (tgt := 76) dX8_worst_69 rfl ⟨by omega, by omega⟩ ⟨by omega, by omega⟩ (fun c69 => ?_) (fun c69 => ?_)
              · refine v_iinc_5 dX8_worst_76 (Nat.le_of_ble_eq_true rfl) rfl ?_
                refine v_goto (tgt := 32) dX8_worst_79 rfl ?_
                exact v_weak [some (rr E m), some (iv s), some (iv p), some (iv q), some (iv (bst (fun x => ixW w s x) p ((x + 1) - p).toNat).2), some (iv (x + 1))] ⟨rfl, rfl, rfl, rfl, by rw [bst_st _ h_0, if_neg (by omega)], rfl, trivial⟩ (ih (x + 1) (by omega) (by omega) (by omega))
              · refine v_iload_5 dX8_worst_72 ?_
                refine v_istore_4 dX8_worst_74 (Nat.le_of_ble_eq_true rfl) rfl ?_
                refine v_iinc_5 dX8_worst_76 (Nat.le_of_ble_eq_true rfl) rfl ?_
                refine v_goto (tgt := 32) dX8_worst_79 rfl ?_
                exact v_weak [some (rr E m), some (iv s), some (iv p), some (iv q), some (iv (bst (fun x => ixW w s x) p ((x + 1) - p).toNat).2), some (iv (x + 1))] ⟨rfl, rfl, rfl, rfl, by rw [bst_st _ h_0, if_pos (by omega)], rfl, trivial⟩ (ih (x + 1) (by omega) (by omega) (by omega))
    exact v_weak [some (rr E m), some (iv s), some (iv p), some (iv q), some (iv (bst (fun x => ixW w s x) p (p - p).toNat).2), some (iv p)] ⟨rfl, rfl, rfl, rfl, by rw [bst_z], rfl, trivial⟩ (lp (q + 2 - p).toNat p (by omega) (by omega) (by omega))
  · refine v_iload_5 dX8_worst_32 ?_
    refine v_iload_3 dX8_worst_34 ?_
    refine v_icmp_gt (tgt := 82) dX8_worst_35 rfl ⟨by omega, by omega⟩ ⟨by omega, by omega⟩ (fun c => ?_) (fun c => absurd (by omega) c)
    refine v_iload_4 dX8_worst_82 ?_
    exact v_iret dX8_worst_84 rfl (Nat.le_refl _) (Nat.le_refl _) (by rw [show (q + 1 - p).toNat = 0 by omega] at hp; exact hp)

set_option maxRecDepth 100000 in
theorem c_X8_worst {E : Ev} {M : Mem} {Post : Option Value → Mem → Prop} {m a : Nat} {f0 f1 f2 f3 f4 f5 f6 f7 f8 f9 f10 f12 f13 f14 f15 f16 f17 : Value} {w : Int → Int} (hm : M[m]? = some (ob 8 [f0, f1, f2, f3, f4, f5, f6, f7, f8, f9, f10, rr E a, f12, f13, f14, f15, f16, f17])) (ha : M[a]? = some (ia E 0 770 w)) (hw : WF w) {s p q : Int} (hs : I32 s) (hp1 : I32 p) (hq1 : I32 q) (hp : Post (some (iv (qWo w s p q))) M) : Cn E rX8_worst mX8_worst [rr E m, iv s, iv p, iv q] M Post := by
  unfold qWo at hp
  refine Cn.of (L := [some (rr E m), some (iv s), some (iv p), some (iv q), none, none]) (by decide) (Nat.le_of_ble_eq_true rfl) rfl ?_
  refine v_aload_0 dX8_worst_0 ?_
  refine v_iload_1 dX8_worst_1 ?_
  refine l_X8_157 rfl dX8_worst_2 hm ⟨Nat.le_of_ble_eq_true rfl, Nat.le_of_ble_eq_true rfl⟩ (Nat.le_of_ble_eq_true rfl) ⟨Nat.le_refl _, Nat.le_refl _⟩ (c_X8_isStation hm ha hw hs ?_)
  refine v_ifeq_b (tgt := 24) dX8_worst_5 rfl (fun c5 => ?_) (fun c5 => ?_)
  · refine v_iconst dX8_worst_24 ?_
    exact v_iret dX8_worst_25 rfl (Nat.le_refl _) (Nat.le_refl _) (by first | (rw [if_pos (by omega)] at hp; exact hp) | (rw [if_neg (by omega)] at hp; exact hp))
  · refine v_aload_0 dX8_worst_8 ?_
    refine v_iload_2 dX8_worst_9 ?_
    refine l_X8_162 rfl dX8_worst_10 hm ⟨Nat.le_of_ble_eq_true rfl, Nat.le_of_ble_eq_true rfl⟩ (Nat.le_of_ble_eq_true rfl) ⟨Nat.le_refl _, Nat.le_refl _⟩ (c_X8_isHour hm ha hw hp1 ?_)
    refine v_ifeq_b (tgt := 24) dX8_worst_13 rfl (fun c13 => ?_) (fun c13 => ?_)
    · refine v_iconst dX8_worst_24 ?_
      exact v_iret dX8_worst_25 rfl (Nat.le_refl _) (Nat.le_refl _) (by first | (rw [if_pos (by omega)] at hp; exact hp) | (rw [if_neg (by omega)] at hp; exact hp))
    · refine v_aload_0 dX8_worst_16 ?_
      refine v_iload_3 dX8_worst_17 ?_
      refine l_X8_162 rfl dX8_worst_18 hm ⟨Nat.le_of_ble_eq_true rfl, Nat.le_of_ble_eq_true rfl⟩ (Nat.le_of_ble_eq_true rfl) ⟨Nat.le_refl _, Nat.le_refl _⟩ (c_X8_isHour hm ha hw hq1 ?_)
      refine v_ifne_b (tgt := 26) dX8_worst_21 rfl (fun c21 => ?_) (fun c21 => ?_)
      · refine v_iconst dX8_worst_26 ?_
        refine v_istore_4 dX8_worst_27 (Nat.le_of_ble_eq_true rfl) rfl ?_
        refine v_iload_2 dX8_worst_29 ?_
        refine v_istore_5 dX8_worst_30 (Nat.le_of_ble_eq_true rfl) rfl ?_
        exact lp_X8_worst hm ha hw (by omega) (by omega) (by omega) (by omega) (by omega) (by omega) (by rw [if_pos (by omega)] at hp; exact hp)
      · refine v_iconst dX8_worst_24 ?_
        exact v_iret dX8_worst_25 rfl (Nat.le_refl _) (Nat.le_refl _) (by first | (rw [if_pos (by omega)] at hp; exact hp) | (rw [if_neg (by omega)] at hp; exact hp))

set_option maxRecDepth 100000 in
theorem lp_X8_forecast {E : Ev} {M : Mem} {Post : Option Value → Mem → Prop} {m a : Nat} {f0 f1 f2 f3 f4 f5 f6 f7 f8 f9 f10 f12 f13 f14 f15 f16 f17 : Value} {w : Int → Int} (hm : M[m]? = some (ob 8 [f0, f1, f2, f3, f4, f5, f6, f7, f8, f9, f10, rr E a, f12, f13, f14, f15, f16, f17])) (ha : M[a]? = some (ia E 0 770 w)) (hw : WF w) {s k h : Int} (hP : Pl w s k h) {p : UInt32} (hsp : dc p = dc (shF w)) (hp : Post (some (iv (fcO (fcF w s k (h + 1).toNat)))) M) : V E rX8_forecast mX8_forecast (finM E rX8_forecast Post) 0 0 M 33 [some (rr E m), some (iv s), some (iv k), some (iv h), some (iv 0), some (fv FP.fconst0), some (fv p), some (iv 0), none] [] := by
  have lp : ∀ (r : Nat) (x : Int) (F : UInt32) (b : Int), (0 ≤ x) → (x ≤ h + 1) → (fcI (fcF w s k x.toNat) F b) → h + 1 - x < (r : Int) → V E rX8_forecast mX8_forecast (finM E rX8_forecast Post) 0 0 M 33 [some (rr E m), some (iv s), some (iv k), some (iv h), some (iv b), some (fv F), some (fv p), some (iv x), none] [] := by
    intro r
    induction r with
    | zero => intro x F b h_0 h_1 h_2 hz; exact absurd hz (by omega)
    | succ r ih =>
      intro x F b h_0 h_1 h_2 hz
      refine v_iload_7 dX8_forecast_33 ?_
      refine v_iload_3 dX8_forecast_35 ?_
      have b1 := rd_bd hw s k x
      have b2 := fcI_b h_2
      refine v_icmp_gt (tgt := 92) dX8_forecast_36 rfl ⟨by omega, by omega⟩ ⟨by omega, by omega⟩ (fun c36 => ?_) (fun c36 => ?_)
      · refine v_iload_4 dX8_forecast_92 ?_
        refine v_if_eq (tgt := 103) dX8_forecast_94 rfl ⟨by have := fcI_b h_2; omega, by have := fcI_b h_2; omega⟩ (fun c94 => ?_) (fun c94 => ?_)
        · refine v_iconst dX8_forecast_103 ?_
          exact v_iret dX8_forecast_104 rfl (Nat.le_refl _) (Nat.le_refl _) (by rw [fcI_none h_2 c94, show x = h + 1 by omega]; exact hp)
        · refine v_fload_5 dX8_forecast_97 ?_
          refine v_f2i dX8_forecast_99 ?_
          refine v_goto (tgt := 104) dX8_forecast_100 rfl ?_
          exact v_iret dX8_forecast_104 rfl (Nat.le_refl _) (Nat.le_refl _) (by rw [fcI_end h_2 c94, show x = h + 1 by omega]; exact hp)
      · refine v_aload_0 dX8_forecast_39 ?_
        refine v_iload_1 dX8_forecast_40 ?_
        refine v_iload_2 dX8_forecast_41 ?_
        refine v_iload_7 dX8_forecast_42 ?_
        refine l_X8_169 rfl dX8_forecast_44 hm ⟨Nat.le_of_ble_eq_true rfl, Nat.le_of_ble_eq_true rfl⟩ (Nat.le_of_ble_eq_true rfl) ⟨Nat.le_refl _, Nat.le_refl _⟩ (c_X8_readOf hm ha (show Pl w s k x from ⟨hP.1, hP.2.1, hP.2.2.1, hP.2.2.2.1, hP.2.2.2.2.1, hP.2.2.2.2.2.1, by omega, by omega, by omega⟩) ?_)
        refine v_istore_8 dX8_forecast_47 (Nat.le_of_ble_eq_true rfl) rfl ?_
        refine v_iload_8 dX8_forecast_49 ?_
        refine v_iconst dX8_forecast_51 ?_
        refine v_icmp_ne (tgt := 58) dX8_forecast_52 rfl ⟨by omega, by omega⟩ ⟨by omega, by omega⟩ (fun c52 => ?_) (fun c52 => ?_)
        · refine v_iload_4 dX8_forecast_58 ?_
          refine v_if_eq (tgt := 78) dX8_forecast_60 rfl ⟨by omega, by omega⟩ (fun c60 => ?_) (fun c60 => ?_)
          · refine v_iload_8 dX8_forecast_78 ?_
            refine v_i2f dX8_forecast_80 ?_
            refine v_fstore_5 dX8_forecast_81 (Nat.le_of_ble_eq_true rfl) rfl ?_
            refine v_iconst dX8_forecast_83 ?_
            refine v_istore_4 dX8_forecast_84 (Nat.le_of_ble_eq_true rfl) rfl ?_
            refine v_iinc_7 dX8_forecast_86 (Nat.le_of_ble_eq_true rfl) rfl ?_
            refine v_goto (tgt := 33) dX8_forecast_89 rfl ?_
            exact v_weak [some (rr E m), some (iv s), some (iv k), some (iv h), some (iv 1), some (fv (FP.i2f (Int32.ofInt (rdA w s k x)))), some (fv p), some (iv (x + 1)), none] ⟨rfl, rfl, rfl, rfl, rfl, rfl, rfl, rfl, trivial⟩ (ih (x + 1) (FP.i2f (Int32.ofInt (rdA w s k x))) 1 (by omega) (by omega) (fcI_first h_0 c52 c60 h_2) (by omega))
          · refine v_fload_5 dX8_forecast_63 ?_
            refine v_fload_6 dX8_forecast_65 ?_
            refine v_iload_8 dX8_forecast_67 ?_
            refine v_i2f dX8_forecast_69 ?_
            refine v_fload_5 dX8_forecast_70 ?_
            refine v_fsub dX8_forecast_72 (fun r72 a72 => ?_)
            refine v_fmul dX8_forecast_73 (fun r73 a73 => ?_)
            refine v_fadd dX8_forecast_74 (fun r74 a74 => ?_)
            refine v_goto (tgt := 81) dX8_forecast_75 rfl ?_
            refine v_fstore_5 dX8_forecast_81 (Nat.le_of_ble_eq_true rfl) rfl ?_
            refine v_iconst dX8_forecast_83 ?_
            refine v_istore_4 dX8_forecast_84 (Nat.le_of_ble_eq_true rfl) rfl ?_
            refine v_iinc_7 dX8_forecast_86 (Nat.le_of_ble_eq_true rfl) rfl ?_
            refine v_goto (tgt := 33) dX8_forecast_89 rfl ?_
            exact v_weak [some (rr E m), some (iv s), some (iv k), some (iv h), some (iv 1), some (fv r74), some (fv p), some (iv (x + 1)), none] ⟨rfl, rfl, rfl, rfl, rfl, rfl, rfl, rfl, trivial⟩ (ih (x + 1) r74 1 (by omega) (by omega) (by have q := fcI_next h_0 c52 c60 hsp h_2 a72 a73 a74; rwa [show b = 1 by omega] at q) (by omega))
        · refine v_goto (tgt := 86) dX8_forecast_55 rfl ?_
          refine v_iinc_7 dX8_forecast_86 (Nat.le_of_ble_eq_true rfl) rfl ?_
          refine v_goto (tgt := 33) dX8_forecast_89 rfl ?_
          exact v_weak [some (rr E m), some (iv s), some (iv k), some (iv h), some (iv b), some (fv F), some (fv p), some (iv (x + 1)), none] ⟨rfl, rfl, rfl, rfl, rfl, rfl, rfl, rfl, trivial⟩ (ih (x + 1) F b (by omega) (by omega) (fcI_skip h_0 c52 h_2) (by omega))
  exact lp (h + 2).toNat 0 FP.fconst0 0 (by omega) (by omega) (Or.inl ⟨rfl, rfl⟩) (by omega)

set_option maxRecDepth 100000 in
theorem c_X8_forecast {E : Ev} {M : Mem} {Post : Option Value → Mem → Prop} {m a : Nat} {f0 f1 f2 f3 f4 f5 f6 f7 f8 f9 f10 f12 f13 f14 f15 f16 f17 : Value} {w : Int → Int} (hm : M[m]? = some (ob 8 [f0, f1, f2, f3, f4, f5, f6, f7, f8, f9, f10, rr E a, f12, f13, f14, f15, f16, f17])) (ha : M[a]? = some (ia E 0 770 w)) (hw : WF w) {s k h : Int} (hs : I32 s) (hk : I32 k) (hh : I32 h) (hp : Post (some (iv (fcW w s k h))) M) : Cn E rX8_forecast mX8_forecast [rr E m, iv s, iv k, iv h] M Post := by
  refine Cn.of (L := [some (rr E m), some (iv s), some (iv k), some (iv h), none, none, none, none, none]) (by decide) (Nat.le_of_ble_eq_true rfl) rfl ?_
  refine v_aload_0 dX8_forecast_0 ?_
  refine v_iload_1 dX8_forecast_1 ?_
  refine v_iload_2 dX8_forecast_2 ?_
  refine v_iload_3 dX8_forecast_3 ?_
  refine l_X8_188 rfl dX8_forecast_4 hm ⟨Nat.le_of_ble_eq_true rfl, Nat.le_of_ble_eq_true rfl⟩ (Nat.le_of_ble_eq_true rfl) ⟨Nat.le_refl _, Nat.le_refl _⟩ (c_X8_are hm ha hw hs hk hh ?_)
  refine v_ifne_b (tgt := 12) dX8_forecast_7 rfl (fun hP => ?_) (fun hP => ?_)
  · refine v_iconst dX8_forecast_12 ?_
    refine v_istore_4 dX8_forecast_13 (Nat.le_of_ble_eq_true rfl) rfl ?_
    refine v_fconst0 dX8_forecast_15 ?_
    refine v_fstore_5 dX8_forecast_16 (Nat.le_of_ble_eq_true rfl) rfl ?_
    refine v_aload_0 dX8_forecast_18 ?_
    refine g_X8_74 rfl dX8_forecast_19 hm ?_
    refine v_iconst dX8_forecast_22 ?_
    refine v_iaload dX8_forecast_23 ha (by omega) (by omega) (by decide) ?_
    refine v_i2f dX8_forecast_24 ?_
    refine v_ldcf (v := 1120403456) dX8_forecast_25 (pl 916 (by decide +kernel)) ?_
    refine v_fdiv dX8_forecast_27 (fun r27 a27 => ?_)
    refine v_fstore_6 dX8_forecast_28 (Nat.le_of_ble_eq_true rfl) rfl ?_
    refine v_iconst dX8_forecast_30 ?_
    refine v_istore_7 dX8_forecast_31 (Nat.le_of_ble_eq_true rfl) rfl ?_
    exact lp_X8_forecast hm ha hw hP (al_dc a27) (by have e : fcW w s k h = fcO (fcF w s k (h + 1).toNat) := if_pos hP; rw [e] at hp; exact hp)
  · refine v_iconst dX8_forecast_10 ?_
    exact v_iret dX8_forecast_11 rfl (Nat.le_refl _) (Nat.le_refl _) (by have e : fcW w s k h = -1 := if_neg hP; rw [e] at hp; exact hp)
