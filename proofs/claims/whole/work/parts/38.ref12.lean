theorem pt_inv {T : Int → Int} {L k i p p2 : Int} {w w2 : Int → Int} (h : ptS T L k i p w = .inr (p2, w2)) : ∃ a b, 0 ≤ a ∧ a ≤ 999 ∧ llW w k i ≤ a ∧ 0 ≤ b ∧ b ≤ 500 ∧ liW w k i ≤ b ∧ i ≠ 5 ∧ w2 = ptW w k i a b := by
  unfold ptS nmS at h
  split at h
  · next k1 =>
    split at h
    · next k2 =>
      dsimp only at h
      split at h
      · cases h
      · next k5 =>
        split at h
        · next k3 =>
          split at h
          · next k4 =>
            cases h
            have b1 := tkN_bd k1
            have b2 := tkN_bd k3
            exact ⟨_, _, b1.1, b1.2, k2.1, b2.1, k4.2, k4.1, k5, rfl⟩
          · cases h
        · cases h
    · cases h
  · cases h

theorem c_readPoint {E : Ev} {M : Mem} {Post : Option Value → Mem → Prop} {m t rd : Nat} {T : Int → Int} {L p td ln : Int} {g : Nat → Value} (hO : RO E M m t rd T L p g td ln) (hTP : TP T L) {ws : Int → Int} {k i : Int} (hrd : M[rd]? = some (ia E 0 770 (upI ws 1 k))) (hmr : m ≠ rd) (htr : t ≠ rd) (k0 : 0 ≤ k) (k3 : k < 3) (hi : ws (9 + 13 * k) = i) (i0 : 0 ≤ i) (i5 : i ≤ 5) (hlb : 1 ≤ i → 0 ≤ ws (10 + 13 * k + 2 * (i - 1)) ∧ ws (10 + 13 * k + 2 * (i - 1)) ≤ 999 ∧ 0 ≤ ws (11 + 13 * k + 2 * (i - 1)) ∧ ws (11 + 13 * k + 2 * (i - 1)) ≤ 500) (hp : ∀ (z : Int) (M2 : Mem), Fx m rd M M2 → ((z = 1 ∧ ∃ p2 w2, ptS T L k i p ws = .inr (p2, w2) ∧ RO E M2 m t rd T L p2 g td ln ∧ M2[rd]? = some (ia E 0 770 (upI w2 1 k)) ∧ w2 (9 + 13 * k) = i + 1 ∧ w2 1 = ws 1 ∧ i < 5) ∨ (z = 0 ∧ ∃ f pl, ptS T L k i p ws = .inl (f, pl) ∧ RFl E M2 m t rd T L g f pl)) → Post (some (iv z)) M2) : Cn E rX8_readPoint mX8_readPoint [rr E m, iv (7 + 13 * k)] M Post := by
  by_cases c : i = 0
  · exact c_readPoint_0 hO hTP hrd hmr htr k0 k3 hi c hp
  · exact c_readPoint_p hO hTP hrd hmr htr k0 k3 hi (by omega) i5 (hlb (by omega)) hp

theorem pt_a (w : Int → Int) {k i a b : Int} (h : 0 ≤ i) : ptW w k i a b (10 + 13 * k + 2 * i) = a := by
  unfold ptW
  rw [upI_n _ _ (by omega), upI_n _ _ (by omega), upI_s]
theorem pt_b (w : Int → Int) {k i a b : Int} (h : 0 ≤ i) : ptW w k i a b (11 + 13 * k + 2 * i) = b := by
  unfold ptW
  rw [upI_n _ _ (by omega), upI_s]

set_option maxRecDepth 100000 in
theorem lp_readSub {E : Ev} {M0 : Mem} {Post : Option Value → Mem → Prop} {m t rd : Nat} {T : Int → Int} {L td ln : Int} {g : Nat → Value} (hTP : TP T L) (hmr : m ≠ rd) (htr : t ≠ rd) {k : Int} (k0 : 0 ≤ k) (k3 : k < 3) : ∀ (i p : Int) (ws : Int → Int) (M : Mem), RO E M m t rd T L p g td ln → M[rd]? = some (ia E 0 770 (upI ws 1 k)) → ws (9 + 13 * k) = i → 0 ≤ i → i ≤ 5 → (1 ≤ i → 0 ≤ ws (10 + 13 * k + 2 * (i - 1)) ∧ ws (10 + 13 * k + 2 * (i - 1)) ≤ 999 ∧ 0 ≤ ws (11 + 13 * k + 2 * (i - 1)) ∧ ws (11 + 13 * k + 2 * (i - 1)) ≤ 500) → ws 1 = k + 1 → Fx m rd M0 M → RP E m t rd T L g td ln M0 Post (bnS (sPts T L k (5 - i).toNat i (llW ws k i) (liW ws k i) p ws) (fun r => smS T L r.1 fun p => .inr (p, r.2))) → V E rX8_readSubstance mX8_readSubstance (finM E rX8_readSubstance Post) 0 0 M 80 [some (rr E m), some (iv (7 + 13 * k))] [] := by
  have lp : ∀ (r : Nat) (i p : Int) (ws : Int → Int) (M : Mem), (RO E M m t rd T L p g td ln) → (M[rd]? = some (ia E 0 770 (upI ws 1 k))) → (ws (9 + 13 * k) = i) → (0 ≤ i) → (i ≤ 5) → (1 ≤ i → 0 ≤ ws (10 + 13 * k + 2 * (i - 1)) ∧ ws (10 + 13 * k + 2 * (i - 1)) ≤ 999 ∧ 0 ≤ ws (11 + 13 * k + 2 * (i - 1)) ∧ ws (11 + 13 * k + 2 * (i - 1)) ≤ 500) → (ws 1 = k + 1) → (Fx m rd M0 M) → (RP E m t rd T L g td ln M0 Post (bnS (sPts T L k (5 - i).toNat i (llW ws k i) (liW ws k i) p ws) (fun r => smS T L r.1 fun p => .inr (p, r.2)))) → 5 - i < (r : Int) → V E rX8_readSubstance mX8_readSubstance (finM E rX8_readSubstance Post) 0 0 M 80 [some (rr E m), some (iv (7 + 13 * k))] [] := by
    intro r
    induction r with
    | zero => intro i p ws M h_0 h_1 h_2 h_3 h_4 h_5 h_6 h_7 h_8 hz; exact absurd hz (by omega)
    | succ r ih =>
      intro i p ws M hO hrd h_2 h_3 h_4 h_5 h_6 h_7 hp hz
      obtain ⟨to, fr, so, nu, wd, hm, hk, ht, pa, pb⟩ := id hO
      have hs := hk.so
      have hn := hk.nu
      rw [pts_st h_3 h_4] at hp
      refine v_aload_0 dX8_readSubstance_80 ?_
      refine g_X8_77 rfl dX8_readSubstance_81 hm ?_
      refine v_iload_1 dX8_readSubstance_84 ?_
      refine v_iconst dX8_readSubstance_85 ?_
      refine v_iadd dX8_readSubstance_86 ?_
      refine v_iaload dX8_readSubstance_87 hrd (by omega) (by omega) (by decide) ?_
      rw [show upI ws 1 k (7 + 13 * k + 2) = i by rw [upI_n _ _ (by omega), show 7 + 13 * k + 2 = 9 + 13 * k by omega]; exact h_2]
      refine v_iconst dX8_readSubstance_88 ?_
      refine v_icmp_lt (tgt := 100) dX8_readSubstance_89 rfl ⟨by omega, by omega⟩ ⟨by omega, by omega⟩ (fun c89 => ?_) (fun c89 => ?_)
      · refine v_aload_0 dX8_readSubstance_100 ?_
        refine v_iload_1 dX8_readSubstance_101 ?_
        rw [if_neg (by omega)] at hp
        refine l_X8_122 rfl dX8_readSubstance_102 hm ⟨Nat.le_of_ble_eq_true rfl, Nat.le_of_ble_eq_true rfl⟩ (Nat.le_of_ble_eq_true rfl) ⟨Nat.le_refl _, Nat.le_refl _⟩ (c_readPoint hO hTP hrd hmr htr k0 k3 h_2 h_3 h_4 h_5 (fun z M2 hf2 hz => ?_))
        have hb : z = 0 ∨ z = 1 := by rcases hz with ⟨e, _⟩ | ⟨e, _⟩ <;> omega
        refine v_if_ne (tgt := 80) dX8_readSubstance_105 rfl ⟨by omega, by omega⟩ (fun c105 => ?_) (fun c105 => ?_)
        · obtain ⟨-, p2, w2, e1, hO2, hrd2, e2, e3, e4⟩ := hz.resolve_right (fun q => absurd q.1 (by omega))
          rw [e1] at hp
          obtain ⟨a, b, a0, a1, -, b0, b1, -, -, e5⟩ := pt_inv e1
          exact ih (i + 1) p2 w2 M2 hO2 hrd2 e2 (by omega) (by omega) (fun _ => by rw [e5, show i + 1 - 1 = i by omega, pt_a ws h_3, pt_b ws h_3]; exact ⟨a0, a1, b0, b1⟩) (by omega) (h_7.tr hf2) hp (by omega)
        · obtain ⟨-, f, pl, e1, hF⟩ := hz.resolve_left (fun q => absurd q.1 (by omega))
          rw [e1] at hp
          refine v_iconst dX8_readSubstance_108 ?_
          exact v_zret dX8_readSubstance_109 rfl (Nat.le_refl _) (Nat.le_refl _) (Or.inl rfl) (hp _ hF (h_7.tr hf2))
      · refine v_aload_0 dX8_readSubstance_92 ?_
        refine g_X8_27 rfl dX8_readSubstance_93 hm ?_
        refine v_iconst dX8_readSubstance_96 ?_
        refine v_icmp_ne (tgt := 110) dX8_readSubstance_97 rfl ⟨by omega, by omega⟩ ⟨by omega, by omega⟩ (fun c97 => ?_) (fun c97 => ?_)
        · refine v_aload_0 dX8_readSubstance_110 ?_
          refine g_X8_77 rfl dX8_readSubstance_111 hm ?_
          refine v_iconst dX8_readSubstance_114 ?_
          refine v_dup2ir dX8_readSubstance_115 ?_
          refine v_iaload dX8_readSubstance_116 hrd (by omega) (by omega) (by decide) ?_
          rw [upI_s]
          refine v_iconst dX8_readSubstance_117 ?_
          refine v_iadd dX8_readSubstance_118 ?_
          refine v_iastore dX8_readSubstance_119 hrd (by omega) (by omega) (by decide) ?_
          rw [upI_up, show upI ws 1 (k + 1) = ws by rw [← h_6]; exact upI_id ws 1]
          have hO3 := hO.rd (e := ia E 0 770 ws) htr hmr
          obtain ⟨to3, fr3, so3, nu3, wd3, hm3, hk3, ht3, pa3, pb3⟩ := id hO3
          have hs3 := hk3.so
          have hn3 := hk3.nu
          have hp2 : RP E m t rd T L g td ln M0 Post (smS T L p fun p => .inr (p, ws)) := by
            by_cases c : tkK T L p = 3
            · rw [if_pos ⟨by omega, c⟩] at hp; exact hp
            · rw [if_neg (fun q => c q.2)] at hp
              unfold ptS at hp
              rw [nm_no (f := 1) (Or.inl ⟨by omega, rfl⟩)] at hp
              rw [sm_no c]; exact hp
          refine v_aload_0 dX8_readSubstance_120 ?_
          refine l_X8_105 rfl dX8_readSubstance_121 hm3 ⟨Nat.le_of_ble_eq_true rfl, Nat.le_of_ble_eq_true rfl⟩ (Nat.le_of_ble_eq_true rfl) ⟨Nat.le_refl _, Nat.le_refl _⟩ (c_readEnd hO3 hTP (gs_eq hrd) hmr htr (fun z M4 hf4 hz => ?_))
          have hb : z = 0 ∨ z = 1 := by rcases hz with ⟨e, _⟩ | ⟨e, _⟩ <;> omega
          exact v_zret dX8_readSubstance_124 rfl (Nat.le_refl _) (Nat.le_refl _) hb (rd_fin hz ((h_7.tr Fx.sr).tr hf4) hp2)
        · refine v_aload_0 dX8_readSubstance_100 ?_
          refine v_iload_1 dX8_readSubstance_101 ?_
          rw [if_neg (by omega)] at hp
          refine l_X8_122 rfl dX8_readSubstance_102 hm ⟨Nat.le_of_ble_eq_true rfl, Nat.le_of_ble_eq_true rfl⟩ (Nat.le_of_ble_eq_true rfl) ⟨Nat.le_refl _, Nat.le_refl _⟩ (c_readPoint hO hTP hrd hmr htr k0 k3 h_2 h_3 h_4 h_5 (fun z M2 hf2 hz => ?_))
          have hb : z = 0 ∨ z = 1 := by rcases hz with ⟨e, _⟩ | ⟨e, _⟩ <;> omega
          refine v_if_ne (tgt := 80) dX8_readSubstance_105 rfl ⟨by omega, by omega⟩ (fun c105 => ?_) (fun c105 => ?_)
          · obtain ⟨-, p2, w2, e1, hO2, hrd2, e2, e3, e4⟩ := hz.resolve_right (fun q => absurd q.1 (by omega))
            rw [e1] at hp
            obtain ⟨a, b, a0, a1, -, b0, b1, -, -, e5⟩ := pt_inv e1
            exact ih (i + 1) p2 w2 M2 hO2 hrd2 e2 (by omega) (by omega) (fun _ => by rw [e5, show i + 1 - 1 = i by omega, pt_a ws h_3, pt_b ws h_3]; exact ⟨a0, a1, b0, b1⟩) (by omega) (h_7.tr hf2) hp (by omega)
          · obtain ⟨-, f, pl, e1, hF⟩ := hz.resolve_left (fun q => absurd q.1 (by omega))
            rw [e1] at hp
            refine v_iconst dX8_readSubstance_108 ?_
            exact v_zret dX8_readSubstance_109 rfl (Nat.le_refl _) (Nat.le_refl _) (Or.inl rfl) (hp _ hF (h_7.tr hf2))
  intro i p ws M a b c d e f h j l
  exact lp 7 i p ws M a b c d e f h j l (by omega)

theorem sb_row (w : Int → Int) (w0 : 0 ≤ w 1) (hz : w (9 + 13 * w 1) = 0) (a b : Int) : upI (upI w (7 + 13 * w 1 + 0) a) (7 + 13 * w 1 + 1) b = upI (sbR w a b) 1 (w 1) := by
  funext j
  unfold sbR
  generalize hk : w 1 = k at *
  rw [show 7 + 13 * k + 0 = 7 + 13 * k by omega, show 7 + 13 * k + 1 = 8 + 13 * k by omega]
  by_cases e : j = 8 + 13 * k
  · rw [e, upI_s, upI_n _ _ (by omega), upI_n _ _ (by omega), upI_s]
  · by_cases e1 : j = 7 + 13 * k
    · rw [e1, upI_n _ _ (by omega), upI_s, upI_n _ _ (by omega), upI_n _ _ (by omega), upI_n _ _ (by omega), upI_s]
    · rw [upI_n _ _ e, upI_n _ _ e1]
      by_cases e2 : j = 1
      · rw [e2, upI_s, hk]
      · rw [upI_n _ _ e2]
        by_cases e3 : j = 9 + 13 * k
        · rw [e3, upI_s, hz]
        · rw [upI_n _ _ e3, upI_n _ _ e, upI_n _ _ e1, upI_n _ _ e2]
theorem sb_1 (w : Int → Int) (w0 : 0 ≤ w 1) (a b : Int) : sbR w a b 1 = w 1 + 1 := by
  unfold sbR
  rw [upI_n _ _ (by omega), upI_n _ _ (by omega), upI_n _ _ (by omega), upI_s]

set_option maxRecDepth 100000 in
theorem c_readSubstance {E : Ev} {M : Mem} {Post : Option Value → Mem → Prop} {m t rd : Nat} {T : Int → Int} {L p td ln : Int} {g : Nat → Value} (hO : RO E M m t rd T L p g td ln) (hTP : TP T L) {w : Int → Int} (hrd : M[rd]? = some (ia E 0 770 w)) (hmr : m ≠ rd) (htr : t ≠ rd) (w0 : 0 ≤ w 1) (w1 : w 1 < 3) (wz : w (9 + 13 * w 1) = 0) (hp : RP E m t rd T L g td ln M Post (sSub T L p w)) : Cn E rX8_readSubstance mX8_readSubstance [rr E m] M Post := by
  obtain ⟨to, fr, so, nu, wd, hm, hk, ht, pa, pb⟩ := id hO
  have hs := hk.so
  have hn := hk.nu
  refine Cn.of (L := [some (rr E m), none]) (by decide) (Nat.le_of_ble_eq_true rfl) rfl ?_
  refine v_aload_0 dX8_readSubstance_0 ?_
  refine l_X8_119 rfl dX8_readSubstance_1 hm ⟨Nat.le_of_ble_eq_true rfl, Nat.le_of_ble_eq_true rfl⟩ (Nat.le_of_ble_eq_true rfl) ⟨Nat.le_refl _, Nat.le_refl _⟩ (c_isSubst hO ?_)
  refine v_ifne_b (tgt := 13) dX8_readSubstance_4 rfl (fun c4 => ?_) (fun c4 => ?_)
  · unfold sSub at hp
    rw [wd_ok c4] at hp
    refine v_aload_0 dX8_readSubstance_13 ?_
    refine g_X8_77 rfl dX8_readSubstance_14 hm ?_
    refine v_iconst dX8_readSubstance_17 ?_
    refine v_iaload dX8_readSubstance_18 hrd (by omega) (by omega) (by decide) ?_
    refine v_iconst dX8_readSubstance_19 ?_
    refine v_icmp_ne (tgt := 29) dX8_readSubstance_20 rfl ⟨by omega, by omega⟩ ⟨by omega, by omega⟩ (fun c20 => ?_) (fun c20 => absurd c20 (by omega))
    refine v_aload_0 dX8_readSubstance_29 ?_
    refine l_X8_93 rfl dX8_readSubstance_30 hm ⟨Nat.le_of_ble_eq_true rfl, Nat.le_of_ble_eq_true rfl⟩ (Nat.le_of_ble_eq_true rfl) ⟨Nat.le_refl _, Nat.le_refl _⟩ (c_go hO hTP (by omega) (fun M1 hO1 hf1 => ?_))
    obtain ⟨to1, fr1, so1, nu1, wd1, hm1, hk1, ht1, pa1, pb1⟩ := id hO1
    have hs1 := hk1.so
    have hn1 := hk1.nu
    have hx1 : Fx m rd M M1 := Fx.rf.tr hf1.x
    have hrd1 := (hf1.2 _ hmr.symm).trans hrd
    refine v_bipush dX8_readSubstance_33 (by decide) ?_
    refine v_bipush dX8_readSubstance_35 (by decide) ?_
    refine v_aload_0 dX8_readSubstance_37 ?_
    refine g_X8_77 rfl dX8_readSubstance_38 hm1 ?_
    refine v_iconst dX8_readSubstance_41 ?_
    refine v_iaload dX8_readSubstance_42 hrd1 (by omega) (by omega) (by decide) ?_
    refine v_imul dX8_readSubstance_43 ?_
    refine v_iadd dX8_readSubstance_44 ?_
    refine v_istore_1 dX8_readSubstance_45 (Nat.le_of_ble_eq_true rfl) rfl ?_
    refine v_aload_0 dX8_readSubstance_46 ?_
    refine v_iload_1 dX8_readSubstance_47 ?_
    refine v_iconst dX8_readSubstance_48 ?_
    refine v_iadd dX8_readSubstance_49 ?_
    refine v_iconst dX8_readSubstance_50 ?_
    refine v_bipush dX8_readSubstance_51 (by decide) ?_
    refine l_X8_102 rfl dX8_readSubstance_53 hm1 ⟨Nat.le_of_ble_eq_true rfl, Nat.le_of_ble_eq_true rfl⟩ (Nat.le_of_ble_eq_true rfl) ⟨Nat.le_refl _, Nat.le_refl _⟩ (c_told hO1 hTP hrd1 hmr htr (by omega) (by omega) ⟨by omega, by omega⟩ ⟨by omega, by omega⟩ (fun z2 M2 hf2 hz2 => ?_))
    have hx2 : Fx m rd M M2 := hx1.tr hf2
    have hb2 : z2 = 0 ∨ z2 = 1 := by rcases hz2 with ⟨e, _⟩ | ⟨e, _⟩ <;> omega
    refine v_if_eq (tgt := 78) dX8_readSubstance_56 rfl ⟨by omega, by omega⟩ (fun c2_ => ?_) (fun c2_ => ?_)
    · obtain ⟨-, ff2, no2, hF2⟩ := hz2.resolve_left (fun q => absurd q.1 (by omega))
      rw [nm_no no2] at hp
      refine v_iconst dX8_readSubstance_78 ?_
      exact v_zret dX8_readSubstance_79 rfl (Nat.le_refl _) (Nat.le_refl _) (Or.inl rfl) (hp _ hF2 hx2)
    · obtain ⟨-, ok2, hO2, hrd2⟩ := hz2.resolve_right (fun q => absurd q.1 (by omega))
      obtain ⟨to2, fr2, so2, nu2, wd2, hm2, hk2, ht2, pa2, pb2⟩ := id hO2
      have hs2 := hk2.so
      have hn2 := hk2.nu
      rw [nm_ok ok2] at hp
      have nb := ok2.2
      refine v_aload_0 dX8_readSubstance_59 ?_
      refine v_iload_1 dX8_readSubstance_60 ?_
      refine v_iconst dX8_readSubstance_61 ?_
      refine v_iadd dX8_readSubstance_62 ?_
      refine v_iconst dX8_readSubstance_63 ?_
      refine v_aload_0 dX8_readSubstance_64 ?_
      refine g_X8_77 rfl dX8_readSubstance_65 hm2 ?_
      refine v_iload_1 dX8_readSubstance_68 ?_
      refine v_iconst dX8_readSubstance_69 ?_
      refine v_iadd dX8_readSubstance_70 ?_
      refine v_iaload dX8_readSubstance_71 hrd2 (by omega) (by omega) (by decide) ?_
      rw [upI_s]
      refine l_X8_102 rfl dX8_readSubstance_72 hm2 ⟨Nat.le_of_ble_eq_true rfl, Nat.le_of_ble_eq_true rfl⟩ (Nat.le_of_ble_eq_true rfl) ⟨Nat.le_refl _, Nat.le_refl _⟩ (c_told hO2 hTP hrd2 hmr htr (by omega) (by omega) ⟨by omega, by omega⟩ ⟨by omega, by omega⟩ (fun z3 M3 hf3 hz3 => ?_))
      have hx3 : Fx m rd M M3 := hx2.tr hf3
      have hb3 : z3 = 0 ∨ z3 = 1 := by rcases hz3 with ⟨e, _⟩ | ⟨e, _⟩ <;> omega
      refine v_if_ne (tgt := 80) dX8_readSubstance_75 rfl ⟨by omega, by omega⟩ (fun c3_ => ?_) (fun c3_ => ?_)
      · obtain ⟨-, ok3, hO3, hrd3⟩ := hz3.resolve_right (fun q => absurd q.1 (by omega))
        obtain ⟨to3, fr3, so3, nu3, wd3, hm3, hk3, ht3, pa3, pb3⟩ := id hO3
        have hs3 := hk3.so
        have hn3 := hk3.nu
        rw [nm_ok ok3] at hp
        have er : upI (upI w (7 + 13 * w 1 + 0) (tkN T L (tkB T L p))) (7 + 13 * w 1 + 1) (tkN T L (tkB T L (tkB T L p))) = upI (sbR w (tkN T L (tkB T L p)) (tkN T L (tkB T L (tkB T L p)))) 1 (w 1) := sb_row w w0 wz _ _
        rw [er] at hrd3
        exact lp_readSub hTP hmr htr w0 (by omega) 0 _ (sbR w (tkN T L (tkB T L p)) (tkN T L (tkB T L (tkB T L p)))) _ hO3 hrd3 (by unfold sbR; rw [upI_s]) (by omega) (by omega) (fun q => by omega) (sb_1 w w0 _ _) hx3 hp
      · obtain ⟨-, ff3, no3, hF3⟩ := hz3.resolve_left (fun q => absurd q.1 (by omega))
        rw [nm_no no3] at hp
        refine v_iconst dX8_readSubstance_78 ?_
        exact v_zret dX8_readSubstance_79 rfl (Nat.le_refl _) (Nat.le_refl _) (Or.inl rfl) (hp _ hF3 hx3)
  · unfold sSub at hp
    rw [wd_no c4] at hp
    refine v_aload_0 dX8_readSubstance_7 ?_
    refine v_iconst dX8_readSubstance_8 ?_
    refine l_X8_86 rfl dX8_readSubstance_9 hm ⟨Nat.le_of_ble_eq_true rfl, Nat.le_of_ble_eq_true rfl⟩ (Nat.le_of_ble_eq_true rfl) ⟨Nat.le_refl _, Nat.le_refl _⟩ (c_bad hO hrd hmr (fun Mb hFb hfb => ?_))
    exact v_zret dX8_readSubstance_12 rfl (Nat.le_refl _) (Nat.le_refl _) (Or.inl rfl) (hp _ (by rw [ite_self] at hFb; exact hFb) (Fx.rf.tr hfb.x))

set_option maxRecDepth 100000 in
theorem c_readSubstance_4 {E : Ev} {M : Mem} {Post : Option Value → Mem → Prop} {m t rd : Nat} {T : Int → Int} {L p td ln : Int} {g : Nat → Value} (hO : RO E M m t rd T L p g td ln) {w : Int → Int} (hrd : M[rd]? = some (ia E 0 770 w)) (hmr : m ≠ rd) (htr : t ≠ rd) (w4 : w 1 = 3) (hW : isW T L wSubst p) (hp : RP E m t rd T L g td ln M Post (.inl (3, tkS T L p))) : Cn E rX8_readSubstance mX8_readSubstance [rr E m] M Post := by
  obtain ⟨to, fr, so, nu, wd, hm, hk, ht, pa, pb⟩ := id hO
  have hs := hk.so
  have hn := hk.nu
  refine Cn.of (L := [some (rr E m), none]) (by decide) (Nat.le_of_ble_eq_true rfl) rfl ?_
  refine v_aload_0 dX8_readSubstance_0 ?_
  refine l_X8_119 rfl dX8_readSubstance_1 hm ⟨Nat.le_of_ble_eq_true rfl, Nat.le_of_ble_eq_true rfl⟩ (Nat.le_of_ble_eq_true rfl) ⟨Nat.le_refl _, Nat.le_refl _⟩ (c_isSubst hO ?_)
  refine v_ifne_b (tgt := 13) dX8_readSubstance_4 rfl (fun c4 => ?_) (fun c4 => ?_)
  · refine v_aload_0 dX8_readSubstance_13 ?_
    refine g_X8_77 rfl dX8_readSubstance_14 hm ?_
    refine v_iconst dX8_readSubstance_17 ?_
    refine v_iaload dX8_readSubstance_18 hrd (by omega) (by omega) (by decide) ?_
    refine v_iconst dX8_readSubstance_19 ?_
    refine v_icmp_ne (tgt := 29) dX8_readSubstance_20 rfl ⟨by omega, by omega⟩ ⟨by omega, by omega⟩ (fun c20 => absurd c20 (by omega)) (fun c20 => ?_)
    refine v_aload_0 dX8_readSubstance_23 ?_
    refine v_iconst dX8_readSubstance_24 ?_
    refine l_X8_86 rfl dX8_readSubstance_25 hm ⟨Nat.le_of_ble_eq_true rfl, Nat.le_of_ble_eq_true rfl⟩ (Nat.le_of_ble_eq_true rfl) ⟨Nat.le_refl _, Nat.le_refl _⟩ (c_bad hO hrd hmr (fun Mb hFb hfb => ?_))
    exact v_zret dX8_readSubstance_28 rfl (Nat.le_refl _) (Nat.le_refl _) (Or.inl rfl) (hp _ (by rw [if_neg (by have := hW.1; omega)] at hFb; exact hFb) (Fx.rf.tr hfb.x))
  · exact absurd hW c4
