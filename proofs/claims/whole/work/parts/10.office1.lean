set_option maxRecDepth 100000 in
theorem c_X2_hasStation {E : Ev} {M : Mem} {Post : Option Value → Mem → Prop} {o : Nat} {w : Int → Int} (hO : OffAt E M o w) (hr : HR w) {s : Int} (hs : I32 s) (hp : Post (some (iv (pI (0 ≤ s ∧ s < w 2 ∧ s < 4)))) M) : Cn E rX2_hasStation mX2_hasStation [rr E o, iv s] M Post := by
  refine Cn.of (L := [some (rr E o), some (iv s)]) (by decide) (Nat.le_of_ble_eq_true rfl) rfl ?_
  refine v_iload_1 dX2_hasStation_0 ?_
  refine v_if_lt (tgt := 21) dX2_hasStation_1 rfl hs (fun c1 => ?_) (fun c1 => ?_)
  · refine v_iconst dX2_hasStation_21 ?_
    exact v_zret dX2_hasStation_22 rfl (Nat.le_refl _) (Nat.le_refl _) (by first | exact Or.inl rfl | exact Or.inr rfl) (by first | exact ret_t (by omega) hp | exact ret_f (by omega) hp)
  · refine v_iload_1 dX2_hasStation_4 ?_
    refine v_aload_0 dX2_hasStation_5 ?_
    refine g_X2_37 rfl dX2_hasStation_6 hO.1 ?_
    refine v_icmp_ge (tgt := 21) dX2_hasStation_9 rfl hs hr.2.2.1 (fun c9 => ?_) (fun c9 => ?_)
    · refine v_iconst dX2_hasStation_21 ?_
      exact v_zret dX2_hasStation_22 rfl (Nat.le_refl _) (Nat.le_refl _) (by first | exact Or.inl rfl | exact Or.inr rfl) (by first | exact ret_t (by omega) hp | exact ret_f (by omega) hp)
    · refine v_iload_1 dX2_hasStation_12 ?_
      refine v_iconst dX2_hasStation_13 ?_
      refine v_icmp_ge (tgt := 21) dX2_hasStation_14 rfl hs ⟨by omega, by omega⟩ (fun c14 => ?_) (fun c14 => ?_)
      · refine v_iconst dX2_hasStation_21 ?_
        exact v_zret dX2_hasStation_22 rfl (Nat.le_refl _) (Nat.le_refl _) (by first | exact Or.inl rfl | exact Or.inr rfl) (by first | exact ret_t (by omega) hp | exact ret_f (by omega) hp)
      · refine v_iconst dX2_hasStation_17 ?_
        refine v_goto (tgt := 22) dX2_hasStation_18 rfl ?_
        exact v_zret dX2_hasStation_22 rfl (Nat.le_refl _) (Nat.le_refl _) (by first | exact Or.inl rfl | exact Or.inr rfl) (by first | exact ret_t (by omega) hp | exact ret_f (by omega) hp)

set_option maxRecDepth 100000 in
theorem c_X2_hasHour {E : Ev} {M : Mem} {Post : Option Value → Mem → Prop} {o : Nat} {w : Int → Int} (hO : OffAt E M o w) (hr : HR w) {h : Int} (hs : I32 h) (hp : Post (some (iv (pI (0 ≤ h ∧ h < w 0 ∧ h < 60)))) M) : Cn E rX2_hasHour mX2_hasHour [rr E o, iv h] M Post := by
  refine Cn.of (L := [some (rr E o), some (iv h)]) (by decide) (Nat.le_of_ble_eq_true rfl) rfl ?_
  refine v_iload_1 dX2_hasHour_0 ?_
  refine v_if_lt (tgt := 22) dX2_hasHour_1 rfl hs (fun c1 => ?_) (fun c1 => ?_)
  · refine v_iconst dX2_hasHour_22 ?_
    exact v_zret dX2_hasHour_23 rfl (Nat.le_refl _) (Nat.le_refl _) (by first | exact Or.inl rfl | exact Or.inr rfl) (by first | exact ret_t (by omega) hp | exact ret_f (by omega) hp)
  · refine v_iload_1 dX2_hasHour_4 ?_
    refine v_aload_0 dX2_hasHour_5 ?_
    refine g_X2_40 rfl dX2_hasHour_6 hO.1 ?_
    refine v_icmp_ge (tgt := 22) dX2_hasHour_9 rfl hs hr.1 (fun c9 => ?_) (fun c9 => ?_)
    · refine v_iconst dX2_hasHour_22 ?_
      exact v_zret dX2_hasHour_23 rfl (Nat.le_refl _) (Nat.le_refl _) (by first | exact Or.inl rfl | exact Or.inr rfl) (by first | exact ret_t (by omega) hp | exact ret_f (by omega) hp)
    · refine v_iload_1 dX2_hasHour_12 ?_
      refine v_bipush dX2_hasHour_13 (by decide) ?_
      refine v_icmp_ge (tgt := 22) dX2_hasHour_15 rfl hs ⟨by omega, by omega⟩ (fun c15 => ?_) (fun c15 => ?_)
      · refine v_iconst dX2_hasHour_22 ?_
        exact v_zret dX2_hasHour_23 rfl (Nat.le_refl _) (Nat.le_refl _) (by first | exact Or.inl rfl | exact Or.inr rfl) (by first | exact ret_t (by omega) hp | exact ret_f (by omega) hp)
      · refine v_iconst dX2_hasHour_18 ?_
        refine v_goto (tgt := 23) dX2_hasHour_19 rfl ?_
        exact v_zret dX2_hasHour_23 rfl (Nat.le_refl _) (Nat.le_refl _) (by first | exact Or.inl rfl | exact Or.inr rfl) (by first | exact ret_t (by omega) hp | exact ret_f (by omega) hp)

set_option maxRecDepth 100000 in
theorem c_X2_hasPlace {E : Ev} {M : Mem} {Post : Option Value → Mem → Prop} {o : Nat} {w : Int → Int} (hO : OffAt E M o w) (hr : HR w) {s k h : Int} (hs : I32 s) (hk : I32 k) (hh : I32 h) (hp : Post (some (iv (pI (Pl w s k h)))) M) : Cn E rX2_hasPlace mX2_hasPlace [rr E o, iv s, iv k, iv h] M Post := by
  refine Cn.of (L := [some (rr E o), some (iv s), some (iv k), some (iv h)]) (by decide) (Nat.le_of_ble_eq_true rfl) rfl ?_
  refine v_iload_1 dX2_hasPlace_0 ?_
  refine v_if_lt (tgt := 56) dX2_hasPlace_1 rfl hs (fun c1 => ?_) (fun c1 => ?_)
  · refine v_iconst dX2_hasPlace_56 ?_
    exact v_zret dX2_hasPlace_57 rfl (Nat.le_refl _) (Nat.le_refl _) (by first | exact Or.inl rfl | exact Or.inr rfl) (by first | exact ret_t (by omega) hp | exact ret_f (by omega) hp)
  · refine v_iload_1 dX2_hasPlace_4 ?_
    refine v_aload_0 dX2_hasPlace_5 ?_
    refine g_X2_37 rfl dX2_hasPlace_6 hO.1 ?_
    refine v_icmp_ge (tgt := 56) dX2_hasPlace_9 rfl hs hr.2.2.1 (fun c9 => ?_) (fun c9 => ?_)
    · refine v_iconst dX2_hasPlace_56 ?_
      exact v_zret dX2_hasPlace_57 rfl (Nat.le_refl _) (Nat.le_refl _) (by first | exact Or.inl rfl | exact Or.inr rfl) (by first | exact ret_t (by omega) hp | exact ret_f (by omega) hp)
    · refine v_iload_1 dX2_hasPlace_12 ?_
      refine v_iconst dX2_hasPlace_13 ?_
      refine v_icmp_ge (tgt := 56) dX2_hasPlace_14 rfl hs ⟨by omega, by omega⟩ (fun c14 => ?_) (fun c14 => ?_)
      · refine v_iconst dX2_hasPlace_56 ?_
        exact v_zret dX2_hasPlace_57 rfl (Nat.le_refl _) (Nat.le_refl _) (by first | exact Or.inl rfl | exact Or.inr rfl) (by first | exact ret_t (by omega) hp | exact ret_f (by omega) hp)
      · refine v_iload_2 dX2_hasPlace_17 ?_
        refine v_if_lt (tgt := 56) dX2_hasPlace_18 rfl hk (fun c18 => ?_) (fun c18 => ?_)
        · refine v_iconst dX2_hasPlace_56 ?_
          exact v_zret dX2_hasPlace_57 rfl (Nat.le_refl _) (Nat.le_refl _) (by first | exact Or.inl rfl | exact Or.inr rfl) (by first | exact ret_t (by omega) hp | exact ret_f (by omega) hp)
        · refine v_iload_2 dX2_hasPlace_21 ?_
          refine v_aload_0 dX2_hasPlace_22 ?_
          refine g_X2_34 rfl dX2_hasPlace_23 hO.1 ?_
          refine v_icmp_ge (tgt := 56) dX2_hasPlace_26 rfl hk hr.2.1 (fun c26 => ?_) (fun c26 => ?_)
          · refine v_iconst dX2_hasPlace_56 ?_
            exact v_zret dX2_hasPlace_57 rfl (Nat.le_refl _) (Nat.le_refl _) (by first | exact Or.inl rfl | exact Or.inr rfl) (by first | exact ret_t (by omega) hp | exact ret_f (by omega) hp)
          · refine v_iload_2 dX2_hasPlace_29 ?_
            refine v_iconst dX2_hasPlace_30 ?_
            refine v_icmp_ge (tgt := 56) dX2_hasPlace_31 rfl hk ⟨by omega, by omega⟩ (fun c31 => ?_) (fun c31 => ?_)
            · refine v_iconst dX2_hasPlace_56 ?_
              exact v_zret dX2_hasPlace_57 rfl (Nat.le_refl _) (Nat.le_refl _) (by first | exact Or.inl rfl | exact Or.inr rfl) (by first | exact ret_t (by omega) hp | exact ret_f (by omega) hp)
            · refine v_iload_3 dX2_hasPlace_34 ?_
              refine v_if_lt (tgt := 56) dX2_hasPlace_35 rfl hh (fun c35 => ?_) (fun c35 => ?_)
              · refine v_iconst dX2_hasPlace_56 ?_
                exact v_zret dX2_hasPlace_57 rfl (Nat.le_refl _) (Nat.le_refl _) (by first | exact Or.inl rfl | exact Or.inr rfl) (by first | exact ret_t (by omega) hp | exact ret_f (by omega) hp)
              · refine v_iload_3 dX2_hasPlace_38 ?_
                refine v_aload_0 dX2_hasPlace_39 ?_
                refine g_X2_40 rfl dX2_hasPlace_40 hO.1 ?_
                refine v_icmp_ge (tgt := 56) dX2_hasPlace_43 rfl hh hr.1 (fun c43 => ?_) (fun c43 => ?_)
                · refine v_iconst dX2_hasPlace_56 ?_
                  exact v_zret dX2_hasPlace_57 rfl (Nat.le_refl _) (Nat.le_refl _) (by first | exact Or.inl rfl | exact Or.inr rfl) (by first | exact ret_t (by omega) hp | exact ret_f (by omega) hp)
                · refine v_iload_3 dX2_hasPlace_46 ?_
                  refine v_bipush dX2_hasPlace_47 (by decide) ?_
                  refine v_icmp_ge (tgt := 56) dX2_hasPlace_49 rfl hh ⟨by omega, by omega⟩ (fun c49 => ?_) (fun c49 => ?_)
                  · refine v_iconst dX2_hasPlace_56 ?_
                    exact v_zret dX2_hasPlace_57 rfl (Nat.le_refl _) (Nat.le_refl _) (by first | exact Or.inl rfl | exact Or.inr rfl) (by first | exact ret_t (by omega) hp | exact ret_f (by omega) hp)
                  · refine v_iconst dX2_hasPlace_52 ?_
                    refine v_goto (tgt := 57) dX2_hasPlace_53 rfl ?_
                    exact v_zret dX2_hasPlace_57 rfl (Nat.le_refl _) (Nat.le_refl _) (by first | exact Or.inl rfl | exact Or.inr rfl) (by first | exact ret_t (by omega) hp | exact ret_f (by omega) hp)

set_option maxRecDepth 100000 in
theorem c_X2_substanceAt {E : Ev} {M : Mem} {Post : Option Value → Mem → Prop} {o : Nat} {w : Int → Int} (hO : OffAt E M o w) (hr : HR w) {k : Int} (hk : I32 k) (hp : 0 ≤ k → k < w 1 → k < 3 → Post (some (rr E (o + 17 + 3 * k.toNat))) M) (hq : ¬ (0 ≤ k ∧ k < w 1 ∧ k < 3) → Post (some (ro E none)) M) : Cn E rX2_substanceAt mX2_substanceAt [rr E o, iv k] M Post := by
  obtain ⟨g, hg, hg2⟩ := hO.2.2.1
  refine Cn.of (L := [some (rr E o), some (iv k)]) (by decide) (Nat.le_of_ble_eq_true rfl) rfl ?_
  refine v_iload_1 dX2_substanceAt_0 ?_
  refine v_if_lt (tgt := 17) dX2_substanceAt_1 rfl hk (fun c1 => ?_) (fun c1 => ?_)
  · refine v_null dX2_substanceAt_17 ?_
    exact v_aret dX2_substanceAt_18 rfl (Nat.le_refl _) (Nat.le_refl _) (hq (by omega))
  · refine v_iload_1 dX2_substanceAt_4 ?_
    refine v_aload_0 dX2_substanceAt_5 ?_
    refine g_X2_34 rfl dX2_substanceAt_6 hO.1 ?_
    refine v_icmp_ge (tgt := 17) dX2_substanceAt_9 rfl hk hr.2.1 (fun c9 => ?_) (fun c9 => ?_)
    · refine v_null dX2_substanceAt_17 ?_
      exact v_aret dX2_substanceAt_18 rfl (Nat.le_refl _) (Nat.le_refl _) (hq (by omega))
    · refine v_iload_1 dX2_substanceAt_12 ?_
      refine v_iconst dX2_substanceAt_13 ?_
      refine v_icmp_lt (tgt := 19) dX2_substanceAt_14 rfl hk ⟨by omega, by omega⟩ (fun c14 => ?_) (fun c14 => ?_)
      · refine v_aload_0 dX2_substanceAt_19 ?_
        refine g_X2_17 rfl dX2_substanceAt_20 hO.1 ?_
        refine v_iload_1 dX2_substanceAt_23 ?_
        refine v_aaload (ty := .object RX3) dX2_substanceAt_24 hg rfl rfl (by omega) (by omega) (by decide) ?_
        rw [hg2 _ (by omega) (by omega)]
        exact v_aret dX2_substanceAt_25 rfl (Nat.le_refl _) (Nat.le_refl _) (hp (by omega) (by omega) (by omega))
      · refine v_null dX2_substanceAt_17 ?_
        exact v_aret dX2_substanceAt_18 rfl (Nat.le_refl _) (Nat.le_refl _) (hq (by omega))

set_option maxRecDepth 100000 in
theorem c_X2_readAt {E : Ev} {M : Mem} {Post : Option Value → Mem → Prop} {o : Nat} {w : Int → Int} (hO : OffAt E M o w) (hr : HR w) {s k h : Int} (hs : I32 s) (hk : I32 k) (hh : I32 h) (hp : Post (some (iv (rdA w s k h))) M) : Cn E rX2_readAt mX2_readAt [rr E o, iv s, iv k, iv h] M Post := by
  obtain ⟨g, hg, hg2⟩ := hO.2.2.2.2.1
  refine Cn.of (L := [some (rr E o), some (iv s), some (iv k), some (iv h)]) (by decide) (Nat.le_of_ble_eq_true rfl) rfl ?_
  refine v_aload_0 dX2_readAt_0 ?_
  refine v_iload_1 dX2_readAt_1 ?_
  refine v_iload_2 dX2_readAt_2 ?_
  refine v_iload_3 dX2_readAt_3 ?_
  refine l_X2_67 rfl dX2_readAt_4 hO.1 ⟨Nat.le_of_ble_eq_true rfl, Nat.le_of_ble_eq_true rfl⟩ (Nat.le_of_ble_eq_true rfl) ⟨Nat.le_refl _, Nat.le_refl _⟩ (c_X2_hasPlace hO hr hs hk hh ?_)
  refine v_ifeq_b (tgt := 25) dX2_readAt_7 rfl (fun c => ?_) (fun c => ?_)
  · refine v_iconst dX2_readAt_25 ?_
    exact v_iret dX2_readAt_26 rfl (Nat.le_refl _) (Nat.le_refl _) (by rw [rd_neg c] at hp; exact hp)
  · refine v_aload_0 dX2_readAt_10 ?_
    refine g_X2_26 rfl dX2_readAt_11 hO.1 ?_
    refine v_iload_1 dX2_readAt_14 ?_
    refine v_iconst dX2_readAt_15 ?_
    refine v_imul dX2_readAt_16 ?_
    refine v_iload_2 dX2_readAt_17 ?_
    refine v_iadd dX2_readAt_18 ?_
    refine v_aaload (ty := .array .int) dX2_readAt_19 hg rfl rfl (by omega) (by omega) (by decide) ?_
    rw [hg2 _ (by omega) (by omega)]
    obtain ⟨f, hf, hf2⟩ := hO.row (r := s * 3 + k) (by omega) (by omega)
    refine v_iload_3 dX2_readAt_20 ?_
    refine v_iaload dX2_readAt_21 hf (by omega) (by omega) (by decide) ?_
    rw [hf2 _ (by omega) (by omega)]
    refine v_goto (tgt := 26) dX2_readAt_22 rfl ?_
    exact v_iret dX2_readAt_26 rfl (Nat.le_refl _) (Nat.le_refl _) (by rw [rd_pos c] at hp; exact hp)
