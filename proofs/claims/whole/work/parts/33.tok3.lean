set_option maxRecDepth 100000 in
theorem t2_X8_go {E : Ev} {M : Mem} {Post : Option Value → Mem → Prop} {m t : Nat} {f0 f2 f5 f6 f8 f9 f11 f12 f13 f14 f15 f16 f17 : Value} {T : Int → Int} {L p nu0 wd0 : Int} (hm : M[m]? = some (ob 8 [f0, rr E t, f2, iv L, iv (skB T L p), f5, f6, iv nu0, f8, f9, jv wd0, f11, f12, f13, f14, f15, f16, f17])) (ht : M[t]? = some (ia E 0 640 T)) (L0 : 0 ≤ L) (L1 : L ≤ 640) (hT8 : ∀ j, 0 ≤ j → j < L → 0 ≤ T j ∧ T j < 256) (p0 : 0 ≤ p) (p1 : p ≤ L) (hp : ∀ to fr so nu wd, RK T L p to fr so nu wd → Post none (M.set m (ob 8 [f0, rr E t, f2, iv L, iv to, iv fr, iv so, iv nu, f8, f9, jv wd, f11, f12, f13, f14, f15, f16, f17]))) : V E rX8_go mX8_go (finM E rX8_go Post) 0 0  M 52 [some (rr E m), none, none, none, none] [] := by
  have hmt : m ≠ t := (ob_ia hm ht).symm
  have hq := sk_bd T L p
  refine v_aload_0 dX8_go_52 ?_
  refine v_aload_0 dX8_go_53 ?_
  refine g_X8_21 rfl dX8_go_54 hm ?_
  refine p_X8_24 rfl dX8_go_57 hm ?_
  refine v_aload_0 dX8_go_60 ?_
  refine g_X8_18 rfl dX8_go_61 (gs_eq hm) ?_
  refine v_sipush dX8_go_64 (by decide) ?_
  refine v_icmp_le (tgt := 93) dX8_go_67 rfl ⟨by omega, by omega⟩ ⟨by omega, by omega⟩ (fun c67 => ?_) (fun c67 => ?_)
  · refine v_aload_0 dX8_go_93 ?_
    refine g_X8_21 rfl dX8_go_94 (gs_eq hm) ?_
    refine v_aload_0 dX8_go_97 ?_
    refine g_X8_18 rfl dX8_go_98 (gs_eq hm) ?_
    refine v_icmp_lt (tgt := 110) dX8_go_101 rfl ⟨by omega, by omega⟩ ⟨by omega, by omega⟩ (fun c101 => ?_) (fun c101 => ?_)
    · refine v_aload_0 dX8_go_110 ?_
      refine g_X8_7 rfl dX8_go_111 (gs_eq hm) ?_
      refine v_aload_0 dX8_go_114 ?_
      refine g_X8_21 rfl dX8_go_115 (gs_eq hm) ?_
      refine v_iaload dX8_go_118 (gs_ne hmt ht) (by omega) (by omega) (by decide) ?_
      have h8 := hT8 (skB T L p) (by omega) (by omega)
      refine v_istore_1 dX8_go_119 (Nat.le_of_ble_eq_true rfl) rfl ?_
      refine v_iload_1 dX8_go_120 ?_
      refine l_X8_30 rfl dX8_go_121 ⟨Nat.le_of_ble_eq_true rfl, Nat.le_of_ble_eq_true rfl⟩ (Nat.le_of_ble_eq_true rfl) ⟨Nat.le_refl _, Nat.le_refl _⟩ (c_X8_isLetter ⟨by omega, by omega⟩ ?_)
      refine v_ifne_b (tgt := 160) dX8_go_124 rfl (fun c124 => ?_) (fun c124 => ?_)
      · refine v_iload_1 dX8_go_160 ?_
        refine l_X8_30 rfl dX8_go_161 ⟨Nat.le_of_ble_eq_true rfl, Nat.le_of_ble_eq_true rfl⟩ (Nat.le_of_ble_eq_true rfl) ⟨Nat.le_refl _, Nat.le_refl _⟩ (c_X8_isLetter ⟨by omega, by omega⟩ ?_)
        refine v_istore_2 dX8_go_164 (Nat.le_of_ble_eq_true rfl) rfl ?_
        refine v_iconst dX8_go_165 ?_
        refine v_istore_3 dX8_go_166 (Nat.le_of_ble_eq_true rfl) rfl ?_
        refine v_aload_0 dX8_go_167 ?_
        refine v_lconst dX8_go_168 ?_
        refine p_X8_37 rfl dX8_go_169 (gs_eq hm) ?_
        rw [gs_gs]
        refine v_aload_0 dX8_go_172 ?_
        refine v_iconst dX8_go_173 ?_
        refine p_X8_41 rfl dX8_go_174 (gs_eq hm) ?_
        rw [gs_gs]
        exact lp_X8_go hm ht L0 L1 hT8 (by omega) (by omega) (by rw [rn_st (by omega) (by omega)]; have := rn_bd T L (skB T L p + 1); omega) (hp _ _ _ _ _ (RK_run (by omega) (by omega)))
      · refine v_iload_1 dX8_go_127 ?_
        refine l_X8_34 rfl dX8_go_128 ⟨Nat.le_of_ble_eq_true rfl, Nat.le_of_ble_eq_true rfl⟩ (Nat.le_of_ble_eq_true rfl) ⟨Nat.le_refl _, Nat.le_refl _⟩ (c_X8_isDigit ⟨by omega, by omega⟩ ?_)
        refine v_ifne_b (tgt := 160) dX8_go_131 rfl (fun c131 => ?_) (fun c131 => ?_)
        · refine v_iload_1 dX8_go_160 ?_
          refine l_X8_30 rfl dX8_go_161 ⟨Nat.le_of_ble_eq_true rfl, Nat.le_of_ble_eq_true rfl⟩ (Nat.le_of_ble_eq_true rfl) ⟨Nat.le_refl _, Nat.le_refl _⟩ (c_X8_isLetter ⟨by omega, by omega⟩ ?_)
          refine v_istore_2 dX8_go_164 (Nat.le_of_ble_eq_true rfl) rfl ?_
          refine v_iconst dX8_go_165 ?_
          refine v_istore_3 dX8_go_166 (Nat.le_of_ble_eq_true rfl) rfl ?_
          refine v_aload_0 dX8_go_167 ?_
          refine v_lconst dX8_go_168 ?_
          refine p_X8_37 rfl dX8_go_169 (gs_eq hm) ?_
          rw [gs_gs]
          refine v_aload_0 dX8_go_172 ?_
          refine v_iconst dX8_go_173 ?_
          refine p_X8_41 rfl dX8_go_174 (gs_eq hm) ?_
          rw [gs_gs]
          exact lp_X8_go hm ht L0 L1 hT8 (by omega) (by omega) (by rw [rn_st (by omega) (by omega)]; have := rn_bd T L (skB T L p + 1); omega) (hp _ _ _ _ _ (RK_run (by omega) (by omega)))
        · refine v_aload_0 dX8_go_134 ?_
          refine v_iload_1 dX8_go_135 ?_
          refine v_bipush dX8_go_136 (by decide) ?_
          refine v_icmp_ne (tgt := 145) dX8_go_138 rfl ⟨by omega, by omega⟩ ⟨by omega, by omega⟩ (fun c138 => ?_) (fun c138 => ?_)
          · refine v_iconst dX8_go_145 ?_
            refine p_X8_27 rfl dX8_go_146 (gs_eq hm) ?_
            rw [gs_gs]
            refine v_aload_0 dX8_go_149 ?_
            refine v_dupr dX8_go_150 ?_
            refine g_X8_21 rfl dX8_go_151 (gs_eq hm) ?_
            refine v_iconst dX8_go_154 ?_
            refine v_iadd dX8_go_155 ?_
            refine p_X8_21 rfl dX8_go_156 (gs_eq hm) ?_
            rw [gs_gs]
            exact v_vret dX8_go_159 rfl (Nat.le_refl _) (Nat.le_refl _) (hp _ _ _ _ _ (RK_bad (by omega) (by omega) (by omega)))
          · refine v_iconst dX8_go_141 ?_
            refine v_goto (tgt := 146) dX8_go_142 rfl ?_
            refine p_X8_27 rfl dX8_go_146 (gs_eq hm) ?_
            rw [gs_gs]
            refine v_aload_0 dX8_go_149 ?_
            refine v_dupr dX8_go_150 ?_
            refine g_X8_21 rfl dX8_go_151 (gs_eq hm) ?_
            refine v_iconst dX8_go_154 ?_
            refine v_iadd dX8_go_155 ?_
            refine p_X8_21 rfl dX8_go_156 (gs_eq hm) ?_
            rw [gs_gs]
            exact v_vret dX8_go_159 rfl (Nat.le_refl _) (Nat.le_refl _) (hp _ _ _ _ _ (RK_sign (by omega) (by omega)))
    · refine v_aload_0 dX8_go_104 ?_
      refine v_iconst dX8_go_105 ?_
      refine p_X8_27 rfl dX8_go_106 (gs_eq hm) ?_
      rw [gs_gs]
      exact v_vret dX8_go_109 rfl (Nat.le_refl _) (Nat.le_refl _) (hp _ _ _ _ _ (RK_end (by omega) (by omega) (by omega)))
  · refine v_aload_0 dX8_go_70 ?_
    refine g_X8_24 rfl dX8_go_71 (gs_eq hm) ?_
    refine v_sipush dX8_go_74 (by decide) ?_
    refine v_icmp_lt (tgt := 93) dX8_go_77 rfl ⟨by omega, by omega⟩ ⟨by omega, by omega⟩ (fun c77 => ?_) (fun c77 => ?_)
    · refine v_aload_0 dX8_go_93 ?_
      refine g_X8_21 rfl dX8_go_94 (gs_eq hm) ?_
      refine v_aload_0 dX8_go_97 ?_
      refine g_X8_18 rfl dX8_go_98 (gs_eq hm) ?_
      refine v_icmp_lt (tgt := 110) dX8_go_101 rfl ⟨by omega, by omega⟩ ⟨by omega, by omega⟩ (fun c101 => ?_) (fun c101 => ?_)
      · refine v_aload_0 dX8_go_110 ?_
        refine g_X8_7 rfl dX8_go_111 (gs_eq hm) ?_
        refine v_aload_0 dX8_go_114 ?_
        refine g_X8_21 rfl dX8_go_115 (gs_eq hm) ?_
        refine v_iaload dX8_go_118 (gs_ne hmt ht) (by omega) (by omega) (by decide) ?_
        have h8 := hT8 (skB T L p) (by omega) (by omega)
        refine v_istore_1 dX8_go_119 (Nat.le_of_ble_eq_true rfl) rfl ?_
        refine v_iload_1 dX8_go_120 ?_
        refine l_X8_30 rfl dX8_go_121 ⟨Nat.le_of_ble_eq_true rfl, Nat.le_of_ble_eq_true rfl⟩ (Nat.le_of_ble_eq_true rfl) ⟨Nat.le_refl _, Nat.le_refl _⟩ (c_X8_isLetter ⟨by omega, by omega⟩ ?_)
        refine v_ifne_b (tgt := 160) dX8_go_124 rfl (fun c124 => ?_) (fun c124 => ?_)
        · refine v_iload_1 dX8_go_160 ?_
          refine l_X8_30 rfl dX8_go_161 ⟨Nat.le_of_ble_eq_true rfl, Nat.le_of_ble_eq_true rfl⟩ (Nat.le_of_ble_eq_true rfl) ⟨Nat.le_refl _, Nat.le_refl _⟩ (c_X8_isLetter ⟨by omega, by omega⟩ ?_)
          refine v_istore_2 dX8_go_164 (Nat.le_of_ble_eq_true rfl) rfl ?_
          refine v_iconst dX8_go_165 ?_
          refine v_istore_3 dX8_go_166 (Nat.le_of_ble_eq_true rfl) rfl ?_
          refine v_aload_0 dX8_go_167 ?_
          refine v_lconst dX8_go_168 ?_
          refine p_X8_37 rfl dX8_go_169 (gs_eq hm) ?_
          rw [gs_gs]
          refine v_aload_0 dX8_go_172 ?_
          refine v_iconst dX8_go_173 ?_
          refine p_X8_41 rfl dX8_go_174 (gs_eq hm) ?_
          rw [gs_gs]
          exact lp_X8_go hm ht L0 L1 hT8 (by omega) (by omega) (by rw [rn_st (by omega) (by omega)]; have := rn_bd T L (skB T L p + 1); omega) (hp _ _ _ _ _ (RK_run (by omega) (by omega)))
        · refine v_iload_1 dX8_go_127 ?_
          refine l_X8_34 rfl dX8_go_128 ⟨Nat.le_of_ble_eq_true rfl, Nat.le_of_ble_eq_true rfl⟩ (Nat.le_of_ble_eq_true rfl) ⟨Nat.le_refl _, Nat.le_refl _⟩ (c_X8_isDigit ⟨by omega, by omega⟩ ?_)
          refine v_ifne_b (tgt := 160) dX8_go_131 rfl (fun c131 => ?_) (fun c131 => ?_)
          · refine v_iload_1 dX8_go_160 ?_
            refine l_X8_30 rfl dX8_go_161 ⟨Nat.le_of_ble_eq_true rfl, Nat.le_of_ble_eq_true rfl⟩ (Nat.le_of_ble_eq_true rfl) ⟨Nat.le_refl _, Nat.le_refl _⟩ (c_X8_isLetter ⟨by omega, by omega⟩ ?_)
            refine v_istore_2 dX8_go_164 (Nat.le_of_ble_eq_true rfl) rfl ?_
            refine v_iconst dX8_go_165 ?_
            refine v_istore_3 dX8_go_166 (Nat.le_of_ble_eq_true rfl) rfl ?_
            refine v_aload_0 dX8_go_167 ?_
            refine v_lconst dX8_go_168 ?_
            refine p_X8_37 rfl dX8_go_169 (gs_eq hm) ?_
            rw [gs_gs]
            refine v_aload_0 dX8_go_172 ?_
            refine v_iconst dX8_go_173 ?_
            refine p_X8_41 rfl dX8_go_174 (gs_eq hm) ?_
            rw [gs_gs]
            exact lp_X8_go hm ht L0 L1 hT8 (by omega) (by omega) (by rw [rn_st (by omega) (by omega)]; have := rn_bd T L (skB T L p + 1); omega) (hp _ _ _ _ _ (RK_run (by omega) (by omega)))
          · refine v_aload_0 dX8_go_134 ?_
            refine v_iload_1 dX8_go_135 ?_
            refine v_bipush dX8_go_136 (by decide) ?_
            refine v_icmp_ne (tgt := 145) dX8_go_138 rfl ⟨by omega, by omega⟩ ⟨by omega, by omega⟩ (fun c138 => ?_) (fun c138 => ?_)
            · refine v_iconst dX8_go_145 ?_
              refine p_X8_27 rfl dX8_go_146 (gs_eq hm) ?_
              rw [gs_gs]
              refine v_aload_0 dX8_go_149 ?_
              refine v_dupr dX8_go_150 ?_
              refine g_X8_21 rfl dX8_go_151 (gs_eq hm) ?_
              refine v_iconst dX8_go_154 ?_
              refine v_iadd dX8_go_155 ?_
              refine p_X8_21 rfl dX8_go_156 (gs_eq hm) ?_
              rw [gs_gs]
              exact v_vret dX8_go_159 rfl (Nat.le_refl _) (Nat.le_refl _) (hp _ _ _ _ _ (RK_bad (by omega) (by omega) (by omega)))
            · refine v_iconst dX8_go_141 ?_
              refine v_goto (tgt := 146) dX8_go_142 rfl ?_
              refine p_X8_27 rfl dX8_go_146 (gs_eq hm) ?_
              rw [gs_gs]
              refine v_aload_0 dX8_go_149 ?_
              refine v_dupr dX8_go_150 ?_
              refine g_X8_21 rfl dX8_go_151 (gs_eq hm) ?_
              refine v_iconst dX8_go_154 ?_
              refine v_iadd dX8_go_155 ?_
              refine p_X8_21 rfl dX8_go_156 (gs_eq hm) ?_
              rw [gs_gs]
              exact v_vret dX8_go_159 rfl (Nat.le_refl _) (Nat.le_refl _) (hp _ _ _ _ _ (RK_sign (by omega) (by omega)))
      · refine v_aload_0 dX8_go_104 ?_
        refine v_iconst dX8_go_105 ?_
        refine p_X8_27 rfl dX8_go_106 (gs_eq hm) ?_
        rw [gs_gs]
        exact v_vret dX8_go_109 rfl (Nat.le_refl _) (Nat.le_refl _) (hp _ _ _ _ _ (RK_end (by omega) (by omega) (by omega)))
    · refine v_aload_0 dX8_go_80 ?_
      refine v_sipush dX8_go_81 (by decide) ?_
      refine p_X8_24 rfl dX8_go_84 (gs_eq hm) ?_
      rw [gs_gs]
      refine v_aload_0 dX8_go_87 ?_
      refine v_iconst dX8_go_88 ?_
      refine p_X8_27 rfl dX8_go_89 (gs_eq hm) ?_
      rw [gs_gs]
      exact v_vret dX8_go_92 rfl (Nat.le_refl _) (Nat.le_refl _) (hp _ _ _ _ _ (RK_far (by omega) (by omega)))

set_option maxRecDepth 100000 in
theorem c_X8_go {E : Ev} {M : Mem} {Post : Option Value → Mem → Prop} {m t : Nat} {f0 f2 f5 f6 f8 f9 f11 f12 f13 f14 f15 f16 f17 : Value} {T : Int → Int} {L p nu0 wd0 : Int} (hm : M[m]? = some (ob 8 [f0, rr E t, f2, iv L, iv p, f5, f6, iv nu0, f8, f9, jv wd0, f11, f12, f13, f14, f15, f16, f17])) (ht : M[t]? = some (ia E 0 640 T)) (L0 : 0 ≤ L) (L1 : L ≤ 640) (hT8 : ∀ j, 0 ≤ j → j < L → 0 ≤ T j ∧ T j < 256) (p0 : 0 ≤ p) (p1 : p ≤ L) (hp : ∀ to fr so nu wd, RK T L p to fr so nu wd → Post none (M.set m (ob 8 [f0, rr E t, f2, iv L, iv to, iv fr, iv so, iv nu, f8, f9, jv wd, f11, f12, f13, f14, f15, f16, f17]))) : Cn E rX8_go mX8_go [rr E m] M Post := by
  have hmt : m ≠ t := (ob_ia hm ht).symm
  have lp : ∀ (r : Nat) (s : Int), (p ≤ s) → (s ≤ L) → (skB T L p = skB T L s) → L - s < (r : Int) → V E rX8_go mX8_go (finM E rX8_go Post) 0 0 (M.set m (ob 8 [f0, rr E t, f2, iv L, iv s, f5, f6, iv nu0, f8, f9, jv wd0, f11, f12, f13, f14, f15, f16, f17])) 0 [some (rr E m), none, none, none, none] [] := by
    intro r
    induction r with
    | zero => intro s h_0 h_1 h_2 hz; exact absurd hz (by omega)
    | succ r ih =>
      intro s h_0 h_1 h_2 hz
      refine v_aload_0 dX8_go_0 ?_
      refine g_X8_21 rfl dX8_go_1 (gs_eq hm) ?_
      refine v_aload_0 dX8_go_4 ?_
      refine g_X8_18 rfl dX8_go_5 (gs_eq hm) ?_
      refine v_icmp_ge (tgt := 52) dX8_go_8 rfl ⟨by omega, by omega⟩ ⟨by omega, by omega⟩ (fun c8 => ?_) (fun c8 => ?_)
      · have he : skB T L p = s := h_2.trans (sk_no (by omega))
        rw [← he]
        exact t2_X8_go (gs_eq hm) (gs_ne hmt ht) L0 L1 hT8 p0 p1 (fun to fr so nu wd e => by rw [gs_gs]; exact hp to fr so nu wd e)
      · refine v_aload_0 dX8_go_11 ?_
        refine g_X8_7 rfl dX8_go_12 (gs_eq hm) ?_
        refine v_aload_0 dX8_go_15 ?_
        refine g_X8_21 rfl dX8_go_16 (gs_eq hm) ?_
        refine v_iaload dX8_go_19 (gs_ne hmt ht) (by omega) (by omega) (by decide) ?_
        have h8 := hT8 s (by omega) (by omega)
        refine v_bipush dX8_go_20 (by decide) ?_
        refine v_icmp_eq (tgt := 39) dX8_go_22 rfl ⟨by omega, by omega⟩ ⟨by omega, by omega⟩ (fun c22 => ?_) (fun c22 => ?_)
        · refine v_aload_0 dX8_go_39 ?_
          refine v_dupr dX8_go_40 ?_
          refine g_X8_21 rfl dX8_go_41 (gs_eq hm) ?_
          refine v_iconst dX8_go_44 ?_
          refine v_iadd dX8_go_45 ?_
          refine p_X8_21 rfl dX8_go_46 (gs_eq hm) ?_
          rw [gs_gs]
          refine v_goto (tgt := 0) dX8_go_49 rfl ?_
          exact ih (s + 1) (by omega) (by omega) (by rw [h_2]; exact sk_st (by omega) (by omega)) (by omega)
        · refine v_aload_0 dX8_go_25 ?_
          refine g_X8_7 rfl dX8_go_26 (gs_eq hm) ?_
          refine v_aload_0 dX8_go_29 ?_
          refine g_X8_21 rfl dX8_go_30 (gs_eq hm) ?_
          refine v_iaload dX8_go_33 (gs_ne hmt ht) (by omega) (by omega) (by decide) ?_
          refine v_bipush dX8_go_34 (by decide) ?_
          refine v_icmp_ne (tgt := 52) dX8_go_36 rfl ⟨by omega, by omega⟩ ⟨by omega, by omega⟩ (fun c36 => ?_) (fun c36 => ?_)
          · have he : skB T L p = s := h_2.trans (sk_no (by omega))
            rw [← he]
            exact t2_X8_go (gs_eq hm) (gs_ne hmt ht) L0 L1 hT8 p0 p1 (fun to fr so nu wd e => by rw [gs_gs]; exact hp to fr so nu wd e)
          · refine v_aload_0 dX8_go_39 ?_
            refine v_dupr dX8_go_40 ?_
            refine g_X8_21 rfl dX8_go_41 (gs_eq hm) ?_
            refine v_iconst dX8_go_44 ?_
            refine v_iadd dX8_go_45 ?_
            refine p_X8_21 rfl dX8_go_46 (gs_eq hm) ?_
            rw [gs_gs]
            refine v_goto (tgt := 0) dX8_go_49 rfl ?_
            exact ih (s + 1) (by omega) (by omega) (by rw [h_2]; exact sk_st (by omega) (by omega)) (by omega)
  refine Cn.of (L := [some (rr E m), none, none, none, none]) (by decide) (Nat.le_of_ble_eq_true rfl) rfl ?_
  have tt := lp 641 p (by omega) (by omega) rfl (by omega)
  rw [gs_id hm] at tt
  exact tt
