theorem ite_1 {P : Prop} [Decidable P] (h : (if P then (1 : Int) else 0) = 1) : P := by
  by_cases q : P
  · exact q
  · rw [if_neg q] at h; omega

set_option maxRecDepth 100000 in
theorem c_readSeries {E : Ev} {M : Mem} {Post : Option Value → Mem → Prop} {m t rd : Nat} {T : Int → Int} {L p ln : Int} {td : Int → Bool} {g : Nat → Value} (hO : RO E M m t rd T L p g (tsN td 12) ln) (hTP : TP T L) {w : Int → Int} (hrd : M[rd]? = some (ia E 0 770 w)) (hmr : m ≠ rd) (htr : t ≠ rd) (hw : 0 ≤ w 0 ∧ w 0 ≤ 60 ∧ 1 ≤ w 1 ∧ w 1 ≤ 3 ∧ 1 ≤ w 2 ∧ w 2 ≤ 4) (hW : isW T L wSeries p) (hp : RPt E m t rd T L g ln M Post (sSer T L p w td)) : Cn E rX8_readSeries mX8_readSeries [rr E m] M Post := by
  obtain ⟨to, fr, so, nu, wd, hm, hk, ht, pa, pb⟩ := id hO
  have hs := hk.so
  have hn := hk.nu
  have k1 := hW.1
  unfold sSer at hp
  rw [wd_ok hW] at hp
  refine Cn.of (L := [some (rr E m), none, none, none, none, none]) (by decide) (Nat.le_of_ble_eq_true rfl) rfl ?_
  refine v_aload_0 dX8_readSeries_0 ?_
  refine l_X8_93 rfl dX8_readSeries_1 hm ⟨Nat.le_of_ble_eq_true rfl, Nat.le_of_ble_eq_true rfl⟩ (Nat.le_of_ble_eq_true rfl) ⟨Nat.le_refl _, Nat.le_refl _⟩ (c_go hO hTP (by omega) (fun M1 hO1 hf1 => ?_))
  obtain ⟨to1, fr1, so1, nu1, wd1, hm1, hk1, ht1, pa1, pb1⟩ := id hO1
  have hs1 := hk1.so
  have hn1 := hk1.nu
  have hx1 : Fx m rd M M1 := Fx.rf.tr hf1.x
  have hrd1 := (hf1.2 _ hmr.symm).trans hrd
  refine v_aload_0 dX8_readSeries_4 ?_
  refine g_X8_27 rfl dX8_readSeries_5 hm1 ?_
  refine v_iconst dX8_readSeries_8 ?_
  refine v_icmp_eq (tgt := 18) dX8_readSeries_9 rfl ⟨by omega, by omega⟩ ⟨by omega, by omega⟩ (fun c9 => ?_) (fun c9 => ?_)
  · refine v_aload_0 dX8_readSeries_18 ?_
    have n1 := hn1 (by omega)
    refine g_X8_41 rfl dX8_readSeries_19 hm1 ?_
    refine v_aload_0 dX8_readSeries_22 ?_
    refine g_X8_77 rfl dX8_readSeries_23 hm1 ?_
    refine v_iconst dX8_readSeries_26 ?_
    refine v_iaload dX8_readSeries_27 hrd1 (by omega) (by omega) (by decide) ?_
    refine v_icmp_lt (tgt := 37) dX8_readSeries_28 rfl ⟨by omega, by omega⟩ ⟨by omega, by omega⟩ (fun c28 => ?_) (fun c28 => ?_)
    · refine v_aload_0 dX8_readSeries_37 ?_
      rw [nm_ok ⟨by omega, by omega, by omega⟩] at hp
      refine g_X8_41 rfl dX8_readSeries_38 hm1 ?_
      rw [n1.1]
      refine v_istore_1 dX8_readSeries_41 (Nat.le_of_ble_eq_true rfl) rfl ?_
      refine v_aload_0 dX8_readSeries_42 ?_
      refine l_X8_93 rfl dX8_readSeries_43 hm1 ⟨Nat.le_of_ble_eq_true rfl, Nat.le_of_ble_eq_true rfl⟩ (Nat.le_of_ble_eq_true rfl) ⟨Nat.le_refl _, Nat.le_refl _⟩ (c_go hO1 hTP (by omega) (fun M2 hO2 hf2 => ?_))
      obtain ⟨to2, fr2, so2, nu2, wd2, hm2, hk2, ht2, pa2, pb2⟩ := id hO2
      have hs2 := hk2.so
      have hn2 := hk2.nu
      have hx2 : Fx m rd M M2 := hx1.tr hf2.x
      have hrd2 := (hf2.2 _ hmr.symm).trans hrd1
      refine v_aload_0 dX8_readSeries_46 ?_
      refine g_X8_27 rfl dX8_readSeries_47 hm2 ?_
      refine v_iconst dX8_readSeries_50 ?_
      refine v_icmp_eq (tgt := 60) dX8_readSeries_51 rfl ⟨by omega, by omega⟩ ⟨by omega, by omega⟩ (fun c51 => ?_) (fun c51 => ?_)
      · refine v_iconst dX8_readSeries_60 ?_
        refine v_iload_1 dX8_readSeries_61 ?_
        refine v_imul dX8_readSeries_62 ?_
        refine v_aload_0 dX8_readSeries_63 ?_
        have n2 := hn2 (by omega)
        refine g_X8_41 rfl dX8_readSeries_64 hm2 ?_
        rw [n2.1]
        refine v_iadd dX8_readSeries_67 ?_
        refine v_istore_2 dX8_readSeries_68 (Nat.le_of_ble_eq_true rfl) rfl ?_
        refine v_aload_0 dX8_readSeries_69 ?_
        refine g_X8_41 rfl dX8_readSeries_70 hm2 ?_
        rw [n2.1]
        refine v_aload_0 dX8_readSeries_73 ?_
        refine g_X8_77 rfl dX8_readSeries_74 hm2 ?_
        refine v_iconst dX8_readSeries_77 ?_
        refine v_iaload dX8_readSeries_78 hrd2 (by omega) (by omega) (by decide) ?_
        refine v_icmp_ge (tgt := 94) dX8_readSeries_79 rfl ⟨by omega, by omega⟩ ⟨by omega, by omega⟩ (fun c79 => ?_) (fun c79 => ?_)
        · refine v_aload_0 dX8_readSeries_94 ?_
          refine v_iconst dX8_readSeries_95 ?_
          refine l_X8_86 rfl dX8_readSeries_96 hm2 ⟨Nat.le_of_ble_eq_true rfl, Nat.le_of_ble_eq_true rfl⟩ (Nat.le_of_ble_eq_true rfl) ⟨Nat.le_refl _, Nat.le_refl _⟩ (c_bad hO2 hrd2 hmr (fun Mb hFb hfb => ?_))
          exact v_zret dX8_readSeries_99 rfl (Nat.le_refl _) (Nat.le_refl _) (Or.inl rfl) (by rw [nm_no (f := 2) (Or.inr ⟨by omega, by omega, rfl⟩)] at hp; exact hp _ (by rw [if_neg (by omega)] at hFb; exact hFb) (hx2.tr hfb.x))
        · refine v_aload_0 dX8_readSeries_82 ?_
          have tb := ts_bd td 12
          have tp : (2 : Int) ^ 12 = 4096 := rfl
          have hbit : 0 ≤ 3 * (tkN T L (tkB T L p)) + (tkN T L (tkB T L (tkB T L p))) ∧ 3 * (tkN T L (tkB T L p)) + (tkN T L (tkB T L (tkB T L p))) < 12 := by omega
          have hts := ts_bit td 12 (3 * (tkN T L (tkB T L p)) + (tkN T L (tkB T L (tkB T L p)))).toNat (by omega)
          rw [toNat_cast hbit.1] at hts
          refine g_X8_128 rfl dX8_readSeries_83 hm2 ?_
          refine v_iload_2 dX8_readSeries_86 ?_
          refine v_ishr dX8_readSeries_87 (shr_k (show I32 (tsN td 12) from ⟨by omega, by omega⟩) _ (3 * (tkN T L (tkB T L p)) + (tkN T L (tkB T L (tkB T L p)))).toNat (by have t := sh_i (3 * (tkN T L (tkB T L p)) + (tkN T L (tkB T L (tkB T L p)))).toNat (by omega); rwa [toNat_cast hbit.1] at t)) ?_
          refine v_iconst dX8_readSeries_88 ?_
          refine v_iand dX8_readSeries_89 (and1 _) ?_
          rw [hts]
          refine v_iconst dX8_readSeries_90 ?_
          refine v_icmp_ne (tgt := 100) dX8_readSeries_91 rfl (by split <;> exact ⟨by decide, by decide⟩) ⟨by omega, by omega⟩ (fun c91 => ?_) (fun c91 => ?_)
          · refine v_aload_0 dX8_readSeries_100 ?_
            have nt : ¬ td (3 * (tkN T L (tkB T L p)) + (tkN T L (tkB T L (tkB T L p)))) = true := fun q => c91 (by rw [if_pos q])
            rw [nm_ok ⟨by omega, by omega, by omega⟩, if_neg nt] at hp
            refine g_X8_41 rfl dX8_readSeries_101 hm2 ?_
            rw [n2.1]
            refine v_istore_3 dX8_readSeries_104 (Nat.le_of_ble_eq_true rfl) rfl ?_
            refine v_aload_0 dX8_readSeries_105 ?_
            refine v_dupr dX8_readSeries_106 ?_
            refine g_X8_128 rfl dX8_readSeries_107 hm2 ?_
            refine v_iconst dX8_readSeries_110 ?_
            refine v_iload_2 dX8_readSeries_111 ?_
            refine v_ishl dX8_readSeries_112 (by have t := shl_one (3 * (tkN T L (tkB T L p)) + (tkN T L (tkB T L (tkB T L p)))).toNat (by omega); rwa [toNat_cast hbit.1] at t) ?_
            refine v_ior dX8_readSeries_113 (or_td td hbit.1 hbit.2) ?_
            refine p_X8_128 rfl dX8_readSeries_114 hm2 ?_
            have hO3 : RO E _ m t rd T L (tkB T L (tkB T L p)) g (tsN (upB td (3 * (tkN T L (tkB T L p)) + (tkN T L (tkB T L (tkB T L p))))) 12) ln := ⟨to2, fr2, so2, nu2, wd2, gs_eq (c := ob 8 [g 0, rr E t, g 2, iv L, iv to2, iv fr2, iv so2, iv nu2, g 8, g 9, jv wd2, g 11, rr E rd, g 13, g 14, iv (tsN (upB td (3 * (tkN T L (tkB T L p)) + (tkN T L (tkB T L (tkB T L p))))) 12), iv ln, g 17]) hm2, hk2, gs_ne (ob_ia hm2 ht2).symm ht2, pa2, pb2⟩
            obtain ⟨to3, fr3, so3, nu3, wd3, hm3, hk3, ht3, pa3, pb3⟩ := id hO3
            have hs3 := hk3.so
            have hn3 := hk3.nu
            refine v_aload_0 dX8_readSeries_117 ?_
            refine l_X8_93 rfl dX8_readSeries_118 hm3 ⟨Nat.le_of_ble_eq_true rfl, Nat.le_of_ble_eq_true rfl⟩ (Nat.le_of_ble_eq_true rfl) ⟨Nat.le_refl _, Nat.le_refl _⟩ (c_go hO3 hTP (by omega) (fun M4 hO4 hf4 => ?_))
            refine v_iconst dX8_readSeries_121 ?_
            refine v_istore_4 dX8_readSeries_122 (Nat.le_of_ble_eq_true rfl) rfl ?_
            have hrd4 : M4[rd]? = some (ia E 0 770 (upI w 0 (w 0))) := by rw [upI_id]; exact (hf4.2 _ hmr.symm).trans (gs_ne hmr hrd2)
            exact lp_readSer hTP hmr htr (by omega) (by omega) (by omega) (by omega) hw.1 hw.2.1 0 _ w M4 hO4 hrd4 (by omega) (by omega) (by omega) ((hx2.tr Fm.set.x).tr hf4.x) hp
          · refine v_aload_0 dX8_readSeries_94 ?_
            refine v_iconst dX8_readSeries_95 ?_
            refine l_X8_86 rfl dX8_readSeries_96 hm2 ⟨Nat.le_of_ble_eq_true rfl, Nat.le_of_ble_eq_true rfl⟩ (Nat.le_of_ble_eq_true rfl) ⟨Nat.le_refl _, Nat.le_refl _⟩ (c_bad hO2 hrd2 hmr (fun Mb hFb hfb => ?_))
            exact v_zret dX8_readSeries_99 rfl (Nat.le_refl _) (Nat.le_refl _) (Or.inl rfl) (by rw [nm_ok ⟨by omega, by omega, by omega⟩, if_pos (ite_1 c91)] at hp; exact hp _ (by rw [if_neg (by omega)] at hFb; exact hFb) (hx2.tr hfb.x))
      · refine v_aload_0 dX8_readSeries_54 ?_
        refine v_iconst dX8_readSeries_55 ?_
        refine l_X8_86 rfl dX8_readSeries_56 hm2 ⟨Nat.le_of_ble_eq_true rfl, Nat.le_of_ble_eq_true rfl⟩ (Nat.le_of_ble_eq_true rfl) ⟨Nat.le_refl _, Nat.le_refl _⟩ (c_bad hO2 hrd2 hmr (fun Mb hFb hfb => ?_))
        exact v_zret dX8_readSeries_59 rfl (Nat.le_refl _) (Nat.le_refl _) (Or.inl rfl) (by rw [nm_no (f := 1) (Or.inl ⟨by omega, rfl⟩)] at hp; exact hp _ (by rw [ite_self] at hFb; exact hFb) (hx2.tr hfb.x))
    · refine v_aload_0 dX8_readSeries_31 ?_
      refine v_iconst dX8_readSeries_32 ?_
      refine l_X8_86 rfl dX8_readSeries_33 hm1 ⟨Nat.le_of_ble_eq_true rfl, Nat.le_of_ble_eq_true rfl⟩ (Nat.le_of_ble_eq_true rfl) ⟨Nat.le_refl _, Nat.le_refl _⟩ (c_bad hO1 hrd1 hmr (fun Mb hFb hfb => ?_))
      exact v_zret dX8_readSeries_36 rfl (Nat.le_refl _) (Nat.le_refl _) (Or.inl rfl) (by rw [nm_no (f := 2) (Or.inr ⟨by omega, by omega, rfl⟩)] at hp; exact hp _ (by rw [if_neg (by omega)] at hFb; exact hFb) (hx1.tr hfb.x))
  · refine v_aload_0 dX8_readSeries_12 ?_
    refine v_iconst dX8_readSeries_13 ?_
    refine l_X8_86 rfl dX8_readSeries_14 hm1 ⟨Nat.le_of_ble_eq_true rfl, Nat.le_of_ble_eq_true rfl⟩ (Nat.le_of_ble_eq_true rfl) ⟨Nat.le_refl _, Nat.le_refl _⟩ (c_bad hO1 hrd1 hmr (fun Mb hFb hfb => ?_))
    exact v_zret dX8_readSeries_17 rfl (Nat.le_refl _) (Nat.le_refl _) (Or.inl rfl) (by rw [nm_no (f := 1) (Or.inl ⟨by omega, rfl⟩)] at hp; exact hp _ (by rw [ite_self] at hFb; exact hFb) (hx1.tr hfb.x))
