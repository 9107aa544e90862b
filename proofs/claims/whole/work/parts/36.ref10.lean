theorem c_isWord2 {E : Ev} {M : Mem} {Post : Option Value → Mem → Prop} {m t rd : Nat} {T : Int → Int} {L p td ln : Int} {g : Nat → Value} (hO : RO E M m t rd T L p g td ln) (cs : List Int) {z : Int} (hz : z = wdL cs) (hcs : ∀ i : Nat, i < cs.length → Lt (cs.getD i 0)) (hl : cs.length ≤ 9) (hz0 : -9223372036854775808 ≤ wdL cs) (hz1 : wdL cs < 9223372036854775808) (hp : Post (some (iv (pI (isW T L cs p)))) M) : Cn E rX8_isWord mX8_isWord [rr E m, jv z] M Post := by
  subst hz
  exact c_isWord hO cs hcs hl hz0 hz1 hp

set_option maxRecDepth 100000 in
theorem c_isSubst {E : Ev} {M : Mem} {Post : Option Value → Mem → Prop} {m t rd : Nat} {T : Int → Int} {L p td ln : Int} {g : Nat → Value} (hO : RO E M m t rd T L p g td ln) (hp : Post (some (iv (pI (isW T L wSubst p)))) M) : Cn E rX8_isSubstance mX8_isSubstance [rr E m] M Post := by
  obtain ⟨to, fr, so, nu, wd, hm, hk, ht, pa, pb⟩ := id hO
  have hs := hk.so
  have hn := hk.nu
  refine Cn.of (L := [some (rr E m)]) (by decide) (Nat.le_of_ble_eq_true rfl) rfl ?_
  refine v_aload_0 dX8_isSubstance_0 ?_
  refine v_ldc2 (v := 19683) dX8_isSubstance_1 (pl 793 (by decide +kernel)) ?_
  refine v_bipush dX8_isSubstance_4 (by decide) ?_
  refine v_bipush dX8_isSubstance_6 (by decide) ?_
  refine v_bipush dX8_isSubstance_8 (by decide) ?_
  refine v_bipush dX8_isSubstance_10 (by decide) ?_
  refine v_bipush dX8_isSubstance_12 (by decide) ?_
  refine v_bipush dX8_isSubstance_14 (by decide) ?_
  refine l_X8_109 rfl dX8_isSubstance_16 ⟨Nat.le_of_ble_eq_true rfl, Nat.le_of_ble_eq_true rfl⟩ (Nat.le_of_ble_eq_true rfl) ⟨Nat.le_refl _, Nat.le_refl _⟩ (c_six ⟨by decide, by decide⟩ ⟨by decide, by decide⟩ ⟨by decide, by decide⟩ ⟨by decide, by decide⟩ ⟨by decide, by decide⟩ ⟨by decide, by decide⟩ ?_)
  refine v_lmul dX8_isSubstance_19 ?_
  refine v_ldc2 (v := 27) dX8_isSubstance_20 (pl 745 (by decide +kernel)) ?_
  refine v_bipush dX8_isSubstance_23 (by decide) ?_
  refine v_bipush dX8_isSubstance_25 (by decide) ?_
  refine l_X8_54 rfl dX8_isSubstance_27 ⟨Nat.le_of_ble_eq_true rfl, Nat.le_of_ble_eq_true rfl⟩ (Nat.le_of_ble_eq_true rfl) ⟨Nat.le_refl _, Nat.le_refl _⟩ (c_two ⟨by decide, by decide⟩ ⟨by decide, by decide⟩ ?_)
  refine v_lmul dX8_isSubstance_30 ?_
  refine v_ladd dX8_isSubstance_31 ?_
  refine v_ldc2 (v := 5) dX8_isSubstance_32 (pl 794 (by decide +kernel)) ?_
  refine v_ladd dX8_isSubstance_35 ?_
  refine l_X8_98 rfl dX8_isSubstance_36 hm ⟨Nat.le_of_ble_eq_true rfl, Nat.le_of_ble_eq_true rfl⟩ (Nat.le_of_ble_eq_true rfl) ⟨Nat.le_refl _, Nat.le_refl _⟩ (c_isWord2 hO wSubst (by decide) (by decide) (by decide) (by decide) (by decide) ?_)
  exact v_zret dX8_isSubstance_39 rfl (Nat.le_refl _) (Nat.le_refl _) (by first | exact Or.inl rfl | exact Or.inr rfl | exact pI_01 _) hp

set_option maxRecDepth 100000 in
theorem c_isStat {E : Ev} {M : Mem} {Post : Option Value → Mem → Prop} {m t rd : Nat} {T : Int → Int} {L p td ln : Int} {g : Nat → Value} (hO : RO E M m t rd T L p g td ln) (hp : Post (some (iv (pI (isW T L wStat p)))) M) : Cn E rX8_isStationWord mX8_isStationWord [rr E m] M Post := by
  obtain ⟨to, fr, so, nu, wd, hm, hk, ht, pa, pb⟩ := id hO
  have hs := hk.so
  have hn := hk.nu
  refine Cn.of (L := [some (rr E m)]) (by decide) (Nat.le_of_ble_eq_true rfl) rfl ?_
  refine v_aload_0 dX8_isStationWord_0 ?_
  refine v_ldc2 (v := 27) dX8_isStationWord_1 (pl 745 (by decide +kernel)) ?_
  refine v_bipush dX8_isStationWord_4 (by decide) ?_
  refine v_bipush dX8_isStationWord_6 (by decide) ?_
  refine v_bipush dX8_isStationWord_8 (by decide) ?_
  refine v_bipush dX8_isStationWord_10 (by decide) ?_
  refine v_bipush dX8_isStationWord_12 (by decide) ?_
  refine v_bipush dX8_isStationWord_14 (by decide) ?_
  refine l_X8_109 rfl dX8_isStationWord_16 ⟨Nat.le_of_ble_eq_true rfl, Nat.le_of_ble_eq_true rfl⟩ (Nat.le_of_ble_eq_true rfl) ⟨Nat.le_refl _, Nat.le_refl _⟩ (c_six ⟨by decide, by decide⟩ ⟨by decide, by decide⟩ ⟨by decide, by decide⟩ ⟨by decide, by decide⟩ ⟨by decide, by decide⟩ ⟨by decide, by decide⟩ ?_)
  refine v_lmul dX8_isStationWord_19 ?_
  refine v_ldc2 (v := 14) dX8_isStationWord_20 (pl 807 (by decide +kernel)) ?_
  refine v_ladd dX8_isStationWord_23 ?_
  refine l_X8_98 rfl dX8_isStationWord_24 hm ⟨Nat.le_of_ble_eq_true rfl, Nat.le_of_ble_eq_true rfl⟩ (Nat.le_of_ble_eq_true rfl) ⟨Nat.le_refl _, Nat.le_refl _⟩ (c_isWord2 hO wStat (by decide) (by decide) (by decide) (by decide) (by decide) ?_)
  exact v_zret dX8_isStationWord_27 rfl (Nat.le_refl _) (Nat.le_refl _) (by first | exact Or.inl rfl | exact Or.inr rfl | exact pI_01 _) hp

set_option maxRecDepth 100000 in
theorem c_readBands {E : Ev} {M : Mem} {Post : Option Value → Mem → Prop} {m t rd : Nat} {T : Int → Int} {L p td ln : Int} {g : Nat → Value} (hO : RO E M m t rd T L p g td ln) (hTP : TP T L) {w : Int → Int} (hrd : M[rd]? = some (ia E 0 770 w)) (hmr : m ≠ rd) (htr : t ≠ rd) (hp : RP E m t rd T L g td ln M Post (bnS (sBands T L p w) fun r => sShare T L r.1 r.2)) : Cn E rX8_readBands mX8_readBands [rr E m] M Post := by
  obtain ⟨to, fr, so, nu, wd, hm, hk, ht, pa, pb⟩ := id hO
  have hs := hk.so
  have hn := hk.nu
  refine Cn.of (L := [some (rr E m)]) (by decide) (Nat.le_of_ble_eq_true rfl) rfl ?_
  refine v_aload_0 dX8_readBands_0 ?_
  refine v_ldc2 (v := 27) dX8_readBands_1 (pl 745 (by decide +kernel)) ?_
  refine v_bipush dX8_readBands_4 (by decide) ?_
  refine v_bipush dX8_readBands_6 (by decide) ?_
  refine v_bipush dX8_readBands_8 (by decide) ?_
  refine v_bipush dX8_readBands_10 (by decide) ?_
  refine l_X8_58 rfl dX8_readBands_12 ⟨Nat.le_of_ble_eq_true rfl, Nat.le_of_ble_eq_true rfl⟩ (Nat.le_of_ble_eq_true rfl) ⟨Nat.le_refl _, Nat.le_refl _⟩ (c_four ⟨by decide, by decide⟩ ⟨by decide, by decide⟩ ⟨by decide, by decide⟩ ⟨by decide, by decide⟩ ?_)
  refine v_lmul dX8_readBands_15 ?_
  refine v_ldc2 (v := 19) dX8_readBands_16 (pl 762 (by decide +kernel)) ?_
  refine v_ladd dX8_readBands_19 ?_
  refine l_X8_98 rfl dX8_readBands_20 hm ⟨Nat.le_of_ble_eq_true rfl, Nat.le_of_ble_eq_true rfl⟩ (Nat.le_of_ble_eq_true rfl) ⟨Nat.le_refl _, Nat.le_refl _⟩ (c_isWord2 hO wBands (by decide) (by decide) (by decide) (by decide) (by decide) ?_)
  refine v_ifne_b (tgt := 32) dX8_readBands_23 rfl (fun c23 => ?_) (fun c23 => ?_)
  · unfold sBands at hp
    rw [wd_ok c23] at hp
    refine v_aload_0 dX8_readBands_32 ?_
    refine l_X8_93 rfl dX8_readBands_33 hm ⟨Nat.le_of_ble_eq_true rfl, Nat.le_of_ble_eq_true rfl⟩ (Nat.le_of_ble_eq_true rfl) ⟨Nat.le_refl _, Nat.le_refl _⟩ (c_go hO hTP (by omega) (fun M1 hO1 hf1 => ?_))
    obtain ⟨to1, fr1, so1, nu1, wd1, hm1, hk1, ht1, pa1, pb1⟩ := id hO1
    have hs1 := hk1.so
    have hn1 := hk1.nu
    have hx1 : Fx m rd M M1 := Fx.rf.tr hf1.x
    have hrd1 := (hf1.2 _ hmr.symm).trans hrd
    refine v_aload_0 dX8_readBands_36 ?_
    refine v_iconst dX8_readBands_37 ?_
    refine v_iconst dX8_readBands_38 ?_
    refine v_sipush dX8_readBands_39 (by decide) ?_
    refine l_X8_102 rfl dX8_readBands_42 hm1 ⟨Nat.le_of_ble_eq_true rfl, Nat.le_of_ble_eq_true rfl⟩ (Nat.le_of_ble_eq_true rfl) ⟨Nat.le_refl _, Nat.le_refl _⟩ (c_told hO1 hTP hrd1 hmr htr (by omega) (by omega) ⟨by omega, by omega⟩ ⟨by omega, by omega⟩ (fun z2 M2 hf2 hz2 => ?_))
    have hx2 : Fx m rd M M2 := hx1.tr hf2
    have hb2 : z2 = 0 ∨ z2 = 1 := by rcases hz2 with ⟨e, _⟩ | ⟨e, _⟩ <;> omega
    refine v_if_eq (tgt := 94) dX8_readBands_45 rfl ⟨by omega, by omega⟩ (fun c2_ => ?_) (fun c2_ => ?_)
    · obtain ⟨-, ff2, no2, hF2⟩ := hz2.resolve_left (fun q => absurd q.1 (by omega))
      rw [nm_no no2] at hp
      refine v_iconst dX8_readBands_94 ?_
      exact v_zret dX8_readBands_95 rfl (Nat.le_refl _) (Nat.le_refl _) (Or.inl rfl) (hp _ hF2 hx2)
    · obtain ⟨-, ok2, hO2, hrd2⟩ := hz2.resolve_right (fun q => absurd q.1 (by omega))
      obtain ⟨to2, fr2, so2, nu2, wd2, hm2, hk2, ht2, pa2, pb2⟩ := id hO2
      have hs2 := hk2.so
      have hn2 := hk2.nu
      rw [nm_ok ok2] at hp
      refine v_aload_0 dX8_readBands_48 ?_
      refine v_iconst dX8_readBands_49 ?_
      refine v_aload_0 dX8_readBands_50 ?_
      refine g_X8_77 rfl dX8_readBands_51 hm2 ?_
      refine v_iconst dX8_readBands_54 ?_
      refine v_iaload dX8_readBands_55 hrd2 (by omega) (by omega) (by decide) ?_
      rw [upI_s]
      have nb := ok2.2
      refine v_iconst dX8_readBands_56 ?_
      refine v_iadd dX8_readBands_57 ?_
      refine v_sipush dX8_readBands_58 (by decide) ?_
      refine l_X8_102 rfl dX8_readBands_61 hm2 ⟨Nat.le_of_ble_eq_true rfl, Nat.le_of_ble_eq_true rfl⟩ (Nat.le_of_ble_eq_true rfl) ⟨Nat.le_refl _, Nat.le_refl _⟩ (c_told hO2 hTP hrd2 hmr htr (by omega) (by omega) ⟨by omega, by omega⟩ ⟨by omega, by omega⟩ (fun z3 M3 hf3 hz3 => ?_))
      have hx3 : Fx m rd M M3 := hx2.tr hf3
      have hb3 : z3 = 0 ∨ z3 = 1 := by rcases hz3 with ⟨e, _⟩ | ⟨e, _⟩ <;> omega
      refine v_if_eq (tgt := 94) dX8_readBands_64 rfl ⟨by omega, by omega⟩ (fun c3_ => ?_) (fun c3_ => ?_)
      · obtain ⟨-, ff3, no3, hF3⟩ := hz3.resolve_left (fun q => absurd q.1 (by omega))
        rw [nm_no no3] at hp
        refine v_iconst dX8_readBands_94 ?_
        exact v_zret dX8_readBands_95 rfl (Nat.le_refl _) (Nat.le_refl _) (Or.inl rfl) (hp _ hF3 hx3)
      · obtain ⟨-, ok3, hO3, hrd3⟩ := hz3.resolve_right (fun q => absurd q.1 (by omega))
        obtain ⟨to3, fr3, so3, nu3, wd3, hm3, hk3, ht3, pa3, pb3⟩ := id hO3
        have hs3 := hk3.so
        have hn3 := hk3.nu
        rw [nm_ok ok3] at hp
        refine v_aload_0 dX8_readBands_67 ?_
        refine v_bipush dX8_readBands_68 (by decide) ?_
        refine v_aload_0 dX8_readBands_70 ?_
        refine g_X8_77 rfl dX8_readBands_71 hm3 ?_
        refine v_iconst dX8_readBands_74 ?_
        refine v_iaload dX8_readBands_75 hrd3 (by omega) (by omega) (by decide) ?_
        rw [upI_s]
        have nb := ok3.2
        refine v_iconst dX8_readBands_76 ?_
        refine v_iadd dX8_readBands_77 ?_
        refine v_sipush dX8_readBands_78 (by decide) ?_
        refine l_X8_102 rfl dX8_readBands_81 hm3 ⟨Nat.le_of_ble_eq_true rfl, Nat.le_of_ble_eq_true rfl⟩ (Nat.le_of_ble_eq_true rfl) ⟨Nat.le_refl _, Nat.le_refl _⟩ (c_told hO3 hTP hrd3 hmr htr (by omega) (by omega) ⟨by omega, by omega⟩ ⟨by omega, by omega⟩ (fun z4 M4 hf4 hz4 => ?_))
        have hx4 : Fx m rd M M4 := hx3.tr hf4
        have hb4 : z4 = 0 ∨ z4 = 1 := by rcases hz4 with ⟨e, _⟩ | ⟨e, _⟩ <;> omega
        refine v_if_eq (tgt := 94) dX8_readBands_84 rfl ⟨by omega, by omega⟩ (fun c4_ => ?_) (fun c4_ => ?_)
        · obtain ⟨-, ff4, no4, hF4⟩ := hz4.resolve_left (fun q => absurd q.1 (by omega))
          rw [nm_no no4] at hp
          refine v_iconst dX8_readBands_94 ?_
          exact v_zret dX8_readBands_95 rfl (Nat.le_refl _) (Nat.le_refl _) (Or.inl rfl) (hp _ hF4 hx4)
        · obtain ⟨-, ok4, hO4, hrd4⟩ := hz4.resolve_right (fun q => absurd q.1 (by omega))
          obtain ⟨to4, fr4, so4, nu4, wd4, hm4, hk4, ht4, pa4, pb4⟩ := id hO4
          have hs4 := hk4.so
          have hn4 := hk4.nu
          rw [nm_ok ok4] at hp
          refine v_aload_0 dX8_readBands_87 ?_
          refine l_X8_105 rfl dX8_readBands_88 hm4 ⟨Nat.le_of_ble_eq_true rfl, Nat.le_of_ble_eq_true rfl⟩ (Nat.le_of_ble_eq_true rfl) ⟨Nat.le_refl _, Nat.le_refl _⟩ (c_readEnd hO4 hTP hrd4 hmr htr (fun z5 M5 hf5 hz5 => ?_))
          have hx5 : Fx m rd M M5 := hx4.tr hf5
          have hb5 : z5 = 0 ∨ z5 = 1 := by rcases hz5 with ⟨e, _⟩ | ⟨e, _⟩ <;> omega
          refine v_if_ne (tgt := 96) dX8_readBands_91 rfl ⟨by omega, by omega⟩ (fun c5_ => ?_) (fun c5_ => ?_)
          · obtain ⟨-, ok5, hO5, hrd5⟩ := hz5.resolve_right (fun q => absurd q.1 (by omega))
            obtain ⟨to5, fr5, so5, nu5, wd5, hm5, hk5, ht5, pa5, pb5⟩ := id hO5
            have hs5 := hk5.so
            have hn5 := hk5.nu
            rw [sm_ok ok5] at hp
            refine v_aload_0 dX8_readBands_96 ?_
            refine v_bipush dX8_readBands_97 (by decide) ?_
            refine v_bipush dX8_readBands_99 (by decide) ?_
            refine v_bipush dX8_readBands_101 (by decide) ?_
            refine v_bipush dX8_readBands_103 (by decide) ?_
            refine v_bipush dX8_readBands_105 (by decide) ?_
            refine v_bipush dX8_readBands_107 (by decide) ?_
            refine l_X8_109 rfl dX8_readBands_109 ⟨Nat.le_of_ble_eq_true rfl, Nat.le_of_ble_eq_true rfl⟩ (Nat.le_of_ble_eq_true rfl) ⟨Nat.le_refl _, Nat.le_refl _⟩ (c_six ⟨by decide, by decide⟩ ⟨by decide, by decide⟩ ⟨by decide, by decide⟩ ⟨by decide, by decide⟩ ⟨by decide, by decide⟩ ⟨by decide, by decide⟩ ?_)
            refine l_X8_98 rfl dX8_readBands_112 hm5 ⟨Nat.le_of_ble_eq_true rfl, Nat.le_of_ble_eq_true rfl⟩ (Nat.le_of_ble_eq_true rfl) ⟨Nat.le_refl _, Nat.le_refl _⟩ (c_isWord2 hO5 wSmooth (by decide) (by decide) (by decide) (by decide) (by decide) ?_)
            refine v_ifne_b (tgt := 124) dX8_readBands_115 rfl (fun c115 => ?_) (fun c115 => ?_)
            · replace hp : RP E m t rd T L g td ln M Post (sShare T L _ _) := hp
              unfold sShare at hp
              rw [wd_ok c115] at hp
              refine v_aload_0 dX8_readBands_124 ?_
              refine l_X8_93 rfl dX8_readBands_125 hm5 ⟨Nat.le_of_ble_eq_true rfl, Nat.le_of_ble_eq_true rfl⟩ (Nat.le_of_ble_eq_true rfl) ⟨Nat.le_refl _, Nat.le_refl _⟩ (c_go hO5 hTP (by omega) (fun M6 hO6 hf6 => ?_))
              obtain ⟨to6, fr6, so6, nu6, wd6, hm6, hk6, ht6, pa6, pb6⟩ := id hO6
              have hs6 := hk6.so
              have hn6 := hk6.nu
              have hx6 : Fx m rd M M6 := hx5.tr hf6.x
              have hrd6 := (hf6.2 _ hmr.symm).trans hrd5
              refine v_aload_0 dX8_readBands_128 ?_
              refine v_iconst dX8_readBands_129 ?_
              refine v_iconst dX8_readBands_130 ?_
              refine v_bipush dX8_readBands_131 (by decide) ?_
              refine l_X8_102 rfl dX8_readBands_133 hm6 ⟨Nat.le_of_ble_eq_true rfl, Nat.le_of_ble_eq_true rfl⟩ (Nat.le_of_ble_eq_true rfl) ⟨Nat.le_refl _, Nat.le_refl _⟩ (c_told hO6 hTP hrd6 hmr htr (by omega) (by omega) ⟨by omega, by omega⟩ ⟨by omega, by omega⟩ (fun z7 M7 hf7 hz7 => ?_))
              have hx7 : Fx m rd M M7 := hx6.tr hf7
              have hb7 : z7 = 0 ∨ z7 = 1 := by rcases hz7 with ⟨e, _⟩ | ⟨e, _⟩ <;> omega
              refine v_if_eq (tgt := 150) dX8_readBands_136 rfl ⟨by omega, by omega⟩ (fun c7_ => ?_) (fun c7_ => ?_)
              · obtain ⟨-, ff7, no7, hF7⟩ := hz7.resolve_left (fun q => absurd q.1 (by omega))
                rw [nm_no no7] at hp
                refine v_iconst dX8_readBands_150 ?_
                exact v_zret dX8_readBands_151 rfl (Nat.le_refl _) (Nat.le_refl _) (Or.inl rfl) (hp _ hF7 hx7)
              · obtain ⟨-, ok7, hO7, hrd7⟩ := hz7.resolve_right (fun q => absurd q.1 (by omega))
                obtain ⟨to7, fr7, so7, nu7, wd7, hm7, hk7, ht7, pa7, pb7⟩ := id hO7
                have hs7 := hk7.so
                have hn7 := hk7.nu
                rw [nm_ok ok7] at hp
                refine v_aload_0 dX8_readBands_139 ?_
                refine l_X8_105 rfl dX8_readBands_140 hm7 ⟨Nat.le_of_ble_eq_true rfl, Nat.le_of_ble_eq_true rfl⟩ (Nat.le_of_ble_eq_true rfl) ⟨Nat.le_refl _, Nat.le_refl _⟩ (c_readEnd hO7 hTP hrd7 hmr htr (fun z8 M8 hf8 hz8 => ?_))
                have hx8 : Fx m rd M M8 := hx7.tr hf8
                have hb8 : z8 = 0 ∨ z8 = 1 := by rcases hz8 with ⟨e, _⟩ | ⟨e, _⟩ <;> omega
                refine v_if_eq (tgt := 150) dX8_readBands_143 rfl ⟨by omega, by omega⟩ (fun c8_ => ?_) (fun c8_ => ?_)
                · obtain ⟨-, no8, hF8⟩ := hz8.resolve_left (fun q => absurd q.1 (by omega))
                  rw [sm_no no8] at hp
                  refine v_iconst dX8_readBands_150 ?_
                  exact v_zret dX8_readBands_151 rfl (Nat.le_refl _) (Nat.le_refl _) (Or.inl rfl) (hp _ hF8 hx8)
                · obtain ⟨-, ok8, hO8, hrd8⟩ := hz8.resolve_right (fun q => absurd q.1 (by omega))
                  obtain ⟨to8, fr8, so8, nu8, wd8, hm8, hk8, ht8, pa8, pb8⟩ := id hO8
                  have hs8 := hk8.so
                  have hn8 := hk8.nu
                  rw [sm_ok ok8] at hp
                  refine v_iconst dX8_readBands_146 ?_
                  refine v_goto (tgt := 151) dX8_readBands_147 rfl ?_
                  exact v_zret dX8_readBands_151 rfl (Nat.le_refl _) (Nat.le_refl _) (Or.inr rfl) (hp _ hO8 hrd8 hx8)
            · replace hp : RP E m t rd T L g td ln M Post (sShare T L _ _) := hp
              unfold sShare at hp
              rw [wd_no c115] at hp
              refine v_aload_0 dX8_readBands_118 ?_
              refine v_iconst dX8_readBands_119 ?_
              refine l_X8_86 rfl dX8_readBands_120 hm5 ⟨Nat.le_of_ble_eq_true rfl, Nat.le_of_ble_eq_true rfl⟩ (Nat.le_of_ble_eq_true rfl) ⟨Nat.le_refl _, Nat.le_refl _⟩ (c_bad hO5 hrd5 hmr (fun Mb hFb hfb => ?_))
              exact v_zret dX8_readBands_123 rfl (Nat.le_refl _) (Nat.le_refl _) (Or.inl rfl) (hp _ (by rw [ite_self] at hFb; exact hFb) (hx5.tr hfb.x))
          · obtain ⟨-, no5, hF5⟩ := hz5.resolve_left (fun q => absurd q.1 (by omega))
            rw [sm_no no5] at hp
            refine v_iconst dX8_readBands_94 ?_
            exact v_zret dX8_readBands_95 rfl (Nat.le_refl _) (Nat.le_refl _) (Or.inl rfl) (hp _ hF5 hx5)
  · unfold sBands at hp
    rw [wd_no c23] at hp
    refine v_aload_0 dX8_readBands_26 ?_
    refine v_iconst dX8_readBands_27 ?_
    refine l_X8_86 rfl dX8_readBands_28 hm ⟨Nat.le_of_ble_eq_true rfl, Nat.le_of_ble_eq_true rfl⟩ (Nat.le_of_ble_eq_true rfl) ⟨Nat.le_refl _, Nat.le_refl _⟩ (c_bad hO hrd hmr (fun Mb hFb hfb => ?_))
    exact v_zret dX8_readBands_31 rfl (Nat.le_refl _) (Nat.le_refl _) (Or.inl rfl) (hp _ (by rw [ite_self] at hFb; exact hFb) (Fx.rf.tr hfb.x))

theorem rd_fin {E : Ev} {M M2 : Mem} {Post : Option Value → Mem → Prop} {m t rd : Nat} {T : Int → Int} {L p td ln z : Int} {g : Nat → Value} {w : Int → Int} (hz : (z = 1 ∧ tkK T L p = 3 ∧ RO E M2 m t rd T L (tkB T L p) g td ln ∧ M2[rd]? = some (ia E 0 770 w)) ∨ (z = 0 ∧ ¬ tkK T L p = 3 ∧ RFl E M2 m t rd T L g 1 (tkS T L p))) (hx : Fx m rd M M2) (hp : RP E m t rd T L g td ln M Post (smS T L p fun p => .inr (p, w))) : Post (some (iv z)) M2 := by
  rcases hz with ⟨e, q1, q2, q3⟩ | ⟨e, q1, q2⟩
  · subst e
    rw [sm_ok q1] at hp
    exact hp _ q2 q3 hx
  · subst e
    rw [sm_no q1] at hp
    exact hp _ q2 hx

set_option maxRecDepth 100000 in
theorem c_readStation {E : Ev} {M : Mem} {Post : Option Value → Mem → Prop} {m t rd : Nat} {T : Int → Int} {L p td ln : Int} {g : Nat → Value} (hO : RO E M m t rd T L p g td ln) (hTP : TP T L) {w : Int → Int} (hrd : M[rd]? = some (ia E 0 770 w)) (hmr : m ≠ rd) (htr : t ≠ rd) (w0 : 0 ≤ w 2) (w1 : w 2 < 4) (hp : RP E m t rd T L g td ln M Post (sSta T L p w)) : Cn E rX8_readStation mX8_readStation [rr E m] M Post := by
  obtain ⟨to, fr, so, nu, wd, hm, hk, ht, pa, pb⟩ := id hO
  have hs := hk.so
  have hn := hk.nu
  refine Cn.of (L := [some (rr E m)]) (by decide) (Nat.le_of_ble_eq_true rfl) rfl ?_
  refine v_aload_0 dX8_readStation_0 ?_
  refine l_X8_125 rfl dX8_readStation_1 hm ⟨Nat.le_of_ble_eq_true rfl, Nat.le_of_ble_eq_true rfl⟩ (Nat.le_of_ble_eq_true rfl) ⟨Nat.le_refl _, Nat.le_refl _⟩ (c_isStat hO ?_)
  refine v_ifne_b (tgt := 13) dX8_readStation_4 rfl (fun c4 => ?_) (fun c4 => ?_)
  · unfold sSta at hp
    rw [wd_ok c4] at hp
    refine v_aload_0 dX8_readStation_13 ?_
    refine g_X8_77 rfl dX8_readStation_14 hm ?_
    refine v_iconst dX8_readStation_17 ?_
    refine v_iaload dX8_readStation_18 hrd (by omega) (by omega) (by decide) ?_
    refine v_iconst dX8_readStation_19 ?_
    refine v_icmp_ne (tgt := 29) dX8_readStation_20 rfl ⟨by omega, by omega⟩ ⟨by omega, by omega⟩ (fun c20 => ?_) (fun c20 => absurd c20 (by omega))
    refine v_aload_0 dX8_readStation_29 ?_
    refine l_X8_93 rfl dX8_readStation_30 hm ⟨Nat.le_of_ble_eq_true rfl, Nat.le_of_ble_eq_true rfl⟩ (Nat.le_of_ble_eq_true rfl) ⟨Nat.le_refl _, Nat.le_refl _⟩ (c_go hO hTP (by omega) (fun M1 hO1 hf1 => ?_))
    obtain ⟨to1, fr1, so1, nu1, wd1, hm1, hk1, ht1, pa1, pb1⟩ := id hO1
    have hs1 := hk1.so
    have hn1 := hk1.nu
    have hx1 : Fx m rd M M1 := Fx.rf.tr hf1.x
    have hrd1 := (hf1.2 _ hmr.symm).trans hrd
    refine v_aload_0 dX8_readStation_33 ?_
    refine v_bipush dX8_readStation_34 (by decide) ?_
    refine v_aload_0 dX8_readStation_36 ?_
    refine g_X8_77 rfl dX8_readStation_37 hm1 ?_
    refine v_iconst dX8_readStation_40 ?_
    refine v_iaload dX8_readStation_41 hrd1 (by omega) (by omega) (by decide) ?_
    refine v_iadd dX8_readStation_42 ?_
    refine v_iconst dX8_readStation_43 ?_
    refine v_iconst dX8_readStation_44 ?_
    refine l_X8_102 rfl dX8_readStation_45 hm1 ⟨Nat.le_of_ble_eq_true rfl, Nat.le_of_ble_eq_true rfl⟩ (Nat.le_of_ble_eq_true rfl) ⟨Nat.le_refl _, Nat.le_refl _⟩ (c_told hO1 hTP hrd1 hmr htr (by omega) (by omega) ⟨by omega, by omega⟩ ⟨by omega, by omega⟩ (fun z2 M2 hf2 hz2 => ?_))
    have hx2 : Fx m rd M M2 := hx1.tr hf2
    have hb2 : z2 = 0 ∨ z2 = 1 := by rcases hz2 with ⟨e, _⟩ | ⟨e, _⟩ <;> omega
    refine v_if_ne (tgt := 53) dX8_readStation_48 rfl ⟨by omega, by omega⟩ (fun c2_ => ?_) (fun c2_ => ?_)
    · obtain ⟨-, ok2, hO2, hrd2⟩ := hz2.resolve_right (fun q => absurd q.1 (by omega))
      obtain ⟨to2, fr2, so2, nu2, wd2, hm2, hk2, ht2, pa2, pb2⟩ := id hO2
      have hs2 := hk2.so
      have hn2 := hk2.nu
      rw [nm_ok ok2] at hp
      refine v_aload_0 dX8_readStation_53 ?_
      refine g_X8_77 rfl dX8_readStation_54 hm2 ?_
      refine v_iconst dX8_readStation_57 ?_
      refine v_dup2ir dX8_readStation_58 ?_
      refine v_iaload dX8_readStation_59 hrd2 (by omega) (by omega) (by decide) ?_
      refine v_iconst dX8_readStation_60 ?_
      refine v_iadd dX8_readStation_61 ?_
      refine v_iastore dX8_readStation_62 hrd2 (by omega) (by omega) (by decide) ?_
      rw [upI_n _ _ (show (2 : Int) ≠ 46 + w 2 by omega)]
      have hO3 := hO2.rd (e := ia E 0 770 (upI (upI w (46 + w 2) (tkN T L (tkB T L p))) 2 (w 2 + 1))) htr hmr
      obtain ⟨to3, fr3, so3, nu3, wd3, hm3, hk3, ht3, pa3, pb3⟩ := id hO3
      have hs3 := hk3.so
      have hn3 := hk3.nu
      have hrd3 := gs_eq (c := ia E 0 770 (upI (upI w (46 + w 2) (tkN T L (tkB T L p))) 2 (w 2 + 1))) hrd2
      have hx3 : Fx m rd M _ := hx2.tr (Fx.sr (e := ia E 0 770 (upI (upI w (46 + w 2) (tkN T L (tkB T L p))) 2 (w 2 + 1))))
      refine v_aload_0 dX8_readStation_63 ?_
      refine l_X8_105 rfl dX8_readStation_64 hm3 ⟨Nat.le_of_ble_eq_true rfl, Nat.le_of_ble_eq_true rfl⟩ (Nat.le_of_ble_eq_true rfl) ⟨Nat.le_refl _, Nat.le_refl _⟩ (c_readEnd hO3 hTP hrd3 hmr htr (fun z4 M4 hf4 hz4 => ?_))
      have hx4 : Fx m rd M M4 := hx3.tr hf4
      have hb4 : z4 = 0 ∨ z4 = 1 := by rcases hz4 with ⟨e, _⟩ | ⟨e, _⟩ <;> omega
      exact v_zret dX8_readStation_67 rfl (Nat.le_refl _) (Nat.le_refl _) hb4 (rd_fin hz4 hx4 hp)
    · obtain ⟨-, ff2, no2, hF2⟩ := hz2.resolve_left (fun q => absurd q.1 (by omega))
      rw [nm_no no2] at hp
      refine v_iconst dX8_readStation_51 ?_
      exact v_zret dX8_readStation_52 rfl (Nat.le_refl _) (Nat.le_refl _) (Or.inl rfl) (hp _ hF2 hx2)
  · unfold sSta at hp
    rw [wd_no c4] at hp
    refine v_aload_0 dX8_readStation_7 ?_
    refine v_iconst dX8_readStation_8 ?_
    refine l_X8_86 rfl dX8_readStation_9 hm ⟨Nat.le_of_ble_eq_true rfl, Nat.le_of_ble_eq_true rfl⟩ (Nat.le_of_ble_eq_true rfl) ⟨Nat.le_refl _, Nat.le_refl _⟩ (c_bad hO hrd hmr (fun Mb hFb hfb => ?_))
    exact v_zret dX8_readStation_12 rfl (Nat.le_refl _) (Nat.le_refl _) (Or.inl rfl) (hp _ (by rw [ite_self] at hFb; exact hFb) (Fx.rf.tr hfb.x))

set_option maxRecDepth 100000 in
theorem c_readStation_4 {E : Ev} {M : Mem} {Post : Option Value → Mem → Prop} {m t rd : Nat} {T : Int → Int} {L p td ln : Int} {g : Nat → Value} (hO : RO E M m t rd T L p g td ln) {w : Int → Int} (hrd : M[rd]? = some (ia E 0 770 w)) (hmr : m ≠ rd) (htr : t ≠ rd) (w4 : w 2 = 4) (hW : isW T L wStat p) (hp : RP E m t rd T L g td ln M Post (.inl (3, tkS T L p))) : Cn E rX8_readStation mX8_readStation [rr E m] M Post := by
  obtain ⟨to, fr, so, nu, wd, hm, hk, ht, pa, pb⟩ := id hO
  have hs := hk.so
  have hn := hk.nu
  refine Cn.of (L := [some (rr E m)]) (by decide) (Nat.le_of_ble_eq_true rfl) rfl ?_
  refine v_aload_0 dX8_readStation_0 ?_
  refine l_X8_125 rfl dX8_readStation_1 hm ⟨Nat.le_of_ble_eq_true rfl, Nat.le_of_ble_eq_true rfl⟩ (Nat.le_of_ble_eq_true rfl) ⟨Nat.le_refl _, Nat.le_refl _⟩ (c_isStat hO ?_)
  refine v_ifne_b (tgt := 13) dX8_readStation_4 rfl (fun c4 => ?_) (fun c4 => ?_)
  · refine v_aload_0 dX8_readStation_13 ?_
    refine g_X8_77 rfl dX8_readStation_14 hm ?_
    refine v_iconst dX8_readStation_17 ?_
    refine v_iaload dX8_readStation_18 hrd (by omega) (by omega) (by decide) ?_
    refine v_iconst dX8_readStation_19 ?_
    refine v_icmp_ne (tgt := 29) dX8_readStation_20 rfl ⟨by omega, by omega⟩ ⟨by omega, by omega⟩ (fun c20 => absurd c20 (by omega)) (fun c20 => ?_)
    refine v_aload_0 dX8_readStation_23 ?_
    refine v_iconst dX8_readStation_24 ?_
    refine l_X8_86 rfl dX8_readStation_25 hm ⟨Nat.le_of_ble_eq_true rfl, Nat.le_of_ble_eq_true rfl⟩ (Nat.le_of_ble_eq_true rfl) ⟨Nat.le_refl _, Nat.le_refl _⟩ (c_bad hO hrd hmr (fun Mb hFb hfb => ?_))
    exact v_zret dX8_readStation_28 rfl (Nat.le_refl _) (Nat.le_refl _) (Or.inl rfl) (hp _ (by rw [if_neg (by have := hW.1; omega)] at hFb; exact hFb) (Fx.rf.tr hfb.x))
  · exact absurd hW c4
