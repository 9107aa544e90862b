theorem ts_tb (P : Int → Bool) (j : Nat) : (tsN P 12).toNat.testBit j = (decide (j < 12) && P j) := by
  have tb := ts_bd P 12
  have tp : (2 : Int) ^ 12 = 4096 := rfl
  by_cases h : j < 12
  · rw [decide_eq_true h, Bool.true_and, Nat.testBit_eq_decide_div_mod_eq]
    have b := ts_bit P 12 j h
    have e : ((tsN P 12).toNat / 2 ^ j % 2 : Nat) = (if P j = true then 1 else 0 : Nat) := by
      have q : (((tsN P 12).toNat / 2 ^ j % 2 : Nat) : Int) = if P j = true then 1 else 0 := by
        rw [← b, Int.natCast_emod, Int.natCast_ediv, Int.toNat_of_nonneg tb.1]
        simp
      by_cases c : P j = true
      · rw [if_pos c] at q ⊢; omega
      · rw [if_neg c] at q ⊢; omega
    rw [e]
    cases P j <;> simp
  · rw [decide_eq_false h, Bool.false_and]
    refine Nat.testBit_lt_two_pow (Nat.lt_of_lt_of_le (m := 2 ^ 12) (by omega) (Nat.pow_le_pow_right (by decide) (by omega)))
theorem or_ts (td : Int → Bool) (i : Nat) (hi : i < 12) : (tsN td 12).toNat ||| 2 ^ i = (tsN (upB td i) 12).toNat := by
  apply Nat.eq_of_testBit_eq
  intro j
  rw [Nat.testBit_or, ts_tb, ts_tb, Nat.testBit_two_pow]
  unfold upB
  by_cases e : i = j
  · subst e
    simp [hi]
  · rw [decide_eq_false e, Bool.or_false, if_neg (by omega)]
theorem or_td (td : Int → Bool) {i : Int} (h0 : 0 ≤ i) (hi : i < 12) : Int32.ofInt (tsN td 12) ||| Int32.ofInt (2 ^ i.toNat) = Int32.ofInt (tsN (upB td i) 12) := by
  have hp := pow_le i.toNat (by omega)
  have t1 := ts_bd td 12
  have t2 := ts_bd (upB td i) 12
  have tp : (2 : Int) ^ 12 = 4096 := rfl
  have e1 : ((2 : Int) ^ i.toNat).toNat = 2 ^ i.toNat := by
    have : (2 : Int) ^ i.toNat = ((2 ^ i.toNat : Nat) : Int) := by simp
    rw [this, Int.toNat_natCast]
  have ep : (0 : Int) < 2 ^ i.toNat := by have := Nat.two_pow_pos i.toNat; omega
  apply Int32.toBitVec_inj.mp
  apply BitVec.eq_of_toNat_eq
  rw [Int32.toBitVec_or, BitVec.toNat_or, i_toNat (by omega) (by omega), i_toNat (by omega) (by omega), i_toNat (by omega) (by omega), e1, or_ts td i.toNat (by omega), toNat_cast h0]
def RPt (E : Ev) (m t rd : Nat) (T : Int → Int) (L : Int) (g : Nat → Value) (ln : Int) (M : Mem) (Post : Option Value → Mem → Prop) : Rs (RW × (Int → Bool)) → Prop
  | .inl (f, pl) => ∀ M2, RFl E M2 m t rd T L g f pl → Fx m rd M M2 → Post (some (iv 0)) M2
  | .inr ((p, w), td) => ∀ M2, RO E M2 m t rd T L p g (tsN td 12) ln → M2[rd]? = some (ia E 0 770 w) → Fx m rd M M2 → Post (some (iv 1)) M2
theorem rds_st {β : Type} {T : Int → Int} {L s k h p : Int} {w : Int → Int} (h0 : 0 ≤ h) (h5 : h ≤ 24) (K : RW → Rs β) : bnS (sRds T L s k (24 - h).toNat h p w) K = if 0 < h ∧ tkK T L p = 3 then K (p, w) else if isW T L wX p then (if h = 24 then .inl (3, tkS T L p) else bnS (sRds T L s k (24 - (h + 1)).toNat (h + 1) (tkB T L p) (rdW w s k h (-1))) K) else nmS T L p 0 999 fun v p2 => if h = 24 then .inl (3, tkS T L p) else bnS (sRds T L s k (24 - (h + 1)).toNat (h + 1) p2 (rdW w s k h v)) K := by
  by_cases e : h = 24
  · subst e
    rw [show (24 - 24 : Int).toNat = 0 from rfl, sRds]
    by_cases c : tkK T L p = 3
    · rw [if_pos c, if_pos ⟨by omega, c⟩]; rfl
    · rw [if_neg c, if_neg (show ¬ (0 < (24 : Int) ∧ tkK T L p = 3) from fun q => c q.2)]
      by_cases c2 : isW T L wX p
      · rw [if_pos c2, if_pos c2, if_pos rfl]; rfl
      · rw [if_neg c2, if_neg c2]
        unfold nmS
        split
        · split
          · dsimp only
            rw [if_pos rfl]; rfl
          · rfl
        · rfl
  · rw [show (24 - h).toNat = (24 - (h + 1)).toNat + 1 by omega, sRds]
    by_cases c : 0 < h ∧ tkK T L p = 3
    · rw [if_pos c, if_pos c]; rfl
    · rw [if_neg c, if_neg c]
      by_cases c2 : isW T L wX p
      · rw [if_pos c2, if_pos c2, if_neg e]
      · rw [if_neg c2, if_neg c2]
        unfold nmS
        split
        · split
          · dsimp only
            try rw [if_neg e]
          · rfl
        · rfl
theorem rd_row (ws : Int → Int) {s k h : Int} (h0 : 0 < atW s k h) (v z : Int) : upI (upI ws 0 z) (atW s k h) (v + 1) = upI (rdW ws s k h v) 0 z := by
  funext j
  unfold rdW
  by_cases e : j = 0
  · rw [e, upI_s, upI_n _ _ (by omega), upI_s]
  · rw [upI_n (upI (upI ws 0 _) _ _) _ e]
    by_cases e2 : j = atW s k h
    · rw [e2, upI_s, upI_s]
    · rw [upI_n _ _ e2, upI_n _ _ e2, upI_n _ _ e, upI_n _ _ e]
theorem rdW_0 (w : Int → Int) {s k h v : Int} (h0 : 0 < atW s k h) : rdW w s k h v 0 = max (w 0) (h + 1) := by
  unfold rdW
  rw [upI_n _ _ (by omega), upI_s]

set_option maxRecDepth 100000 in
theorem lp_readSer {E : Ev} {M0 : Mem} {Post : Option Value → Mem → Prop} {m t rd : Nat} {T : Int → Int} {L ln : Int} {g : Nat → Value} (hTP : TP T L) (hmr : m ≠ rd) (htr : t ≠ rd) {s k w0 : Int} {td2 : Int → Bool} (s0 : 0 ≤ s) (s4 : s < 4) (k0 : 0 ≤ k) (k3 : k < 3) (hw0 : 0 ≤ w0) (hw1 : w0 ≤ 60) : ∀ (h p : Int) (ws : Int → Int) (M : Mem), RO E M m t rd T L p g (tsN td2 12) ln → M[rd]? = some (ia E 0 770 (upI ws 0 w0)) → 0 ≤ h → h ≤ 24 → ws 0 = max w0 h → Fx m rd M0 M → RPt E m t rd T L g ln M0 Post (bnS (sRds T L s k (24 - h).toNat h p ws) (fun r => smS T L r.1 fun p => .inr ((p, r.2), td2))) → V E rX8_readSeries mX8_readSeries (finM E rX8_readSeries Post) 0 0 M 124 [some (rr E m), some (iv s), some (iv (3 * s + k)), some (iv k), some (iv h), none] [] := by
  have lp : ∀ (r : Nat) (h p : Int) (ws : Int → Int) (M : Mem), (RO E M m t rd T L p g (tsN td2 12) ln) → (M[rd]? = some (ia E 0 770 (upI ws 0 w0))) → (0 ≤ h) → (h ≤ 24) → (ws 0 = max w0 h) → (Fx m rd M0 M) → (RPt E m t rd T L g ln M0 Post (bnS (sRds T L s k (24 - h).toNat h p ws) (fun r => smS T L r.1 fun p => .inr ((p, r.2), td2)))) → 24 - h < (r : Int) → V E rX8_readSeries mX8_readSeries (finM E rX8_readSeries Post) 0 0 M 124 [some (rr E m), some (iv s), some (iv (3 * s + k)), some (iv k), some (iv h), none] [] := by
    intro r
    induction r with
    | zero => intro h p ws M h_0 h_1 h_2 h_3 h_4 h_5 h_6 hz; exact absurd hz (by omega)
    | succ r ih =>
      intro h p ws M hO hrd h_2 h_3 h_4 h_5 hp hz
      obtain ⟨to, fr, so, nu, wd, hm, hk, ht, pa, pb⟩ := id hO
      have hs := hk.so
      have hn := hk.nu
      have hat : 0 < atW s k h ∧ atW s k h < 770 := by unfold atW; omega
      rw [rds_st h_2 h_3] at hp
      refine v_iload_4 dX8_readSeries_124 ?_
      refine v_if_eq (tgt := 137) dX8_readSeries_126 rfl ⟨by omega, by omega⟩ (fun c126 => ?_) (fun c126 => ?_)
      · rw [if_neg (by omega)] at hp
        refine v_aload_0 dX8_readSeries_137 ?_
        refine v_ldc2 (v := 24) dX8_readSeries_138 (pl 812 (by decide +kernel)) ?_
        refine l_X8_98 rfl dX8_readSeries_141 hm ⟨Nat.le_of_ble_eq_true rfl, Nat.le_of_ble_eq_true rfl⟩ (Nat.le_of_ble_eq_true rfl) ⟨Nat.le_refl _, Nat.le_refl _⟩ (c_isWord2 hO wX (by decide) (by decide) (by decide) (by decide) (by decide) ?_)
        refine v_istore_5 dX8_readSeries_144 (Nat.le_of_ble_eq_true rfl) rfl ?_
        refine v_iload_5 dX8_readSeries_146 ?_
        refine v_ifne_b (tgt := 165) dX8_readSeries_148 rfl (fun cW => ?_) (fun cW => ?_)
        · rw [if_pos cW] at hp
          have k1 := cW.1
          refine v_iload_4 dX8_readSeries_165 ?_
          refine v_bipush dX8_readSeries_167 (by decide) ?_
          refine v_icmp_ne (tgt := 178) dX8_readSeries_169 rfl ⟨by omega, by omega⟩ ⟨by omega, by omega⟩ (fun c169 => ?_) (fun c169 => ?_)
          · refine v_aload_0 dX8_readSeries_178 ?_
            refine g_X8_77 rfl dX8_readSeries_179 hm ?_
            refine v_iload_1 dX8_readSeries_182 ?_
            refine v_iload_3 dX8_readSeries_183 ?_
            refine v_iload_4 dX8_readSeries_184 ?_
            refine l_X8_132 rfl dX8_readSeries_186 ⟨Nat.le_of_ble_eq_true rfl, Nat.le_of_ble_eq_true rfl⟩ (Nat.le_of_ble_eq_true rfl) ⟨Nat.le_refl _, Nat.le_refl _⟩ (c_X8_at ?_)
            rw [show 50 + 60 * (3 * s + k) + h = atW s k h from rfl]
            refine v_iload_5 dX8_readSeries_189 ?_
            refine v_ifeq_b (tgt := 198) dX8_readSeries_191 rfl (fun c191 => absurd c191 (by exact fun q => q cW)) (fun c191 => ?_)
            refine v_iconst dX8_readSeries_194 ?_
            refine v_goto (tgt := 204) dX8_readSeries_195 rfl ?_
            refine v_iastore dX8_readSeries_204 hrd (by omega) (by omega) (by decide) ?_
            have er := rd_row ws hat.1 (-1) w0
            rw [show (-1 : Int) + 1 = 0 from rfl] at er
            rw [er]
            rw [if_neg (by omega)] at hp
            have hO3 := hO.rd (e := ia E 0 770 (upI (rdW ws s k h (-1)) 0 w0)) htr hmr
            obtain ⟨to3, fr3, so3, nu3, wd3, hm3, hk3, ht3, pa3, pb3⟩ := id hO3
            have hs3 := hk3.so
            have hn3 := hk3.nu
            refine v_iinc_4 dX8_readSeries_205 (Nat.le_of_ble_eq_true rfl) rfl ?_
            refine v_aload_0 dX8_readSeries_208 ?_
            refine l_X8_93 rfl dX8_readSeries_209 hm3 ⟨Nat.le_of_ble_eq_true rfl, Nat.le_of_ble_eq_true rfl⟩ (Nat.le_of_ble_eq_true rfl) ⟨Nat.le_refl _, Nat.le_refl _⟩ (c_go hO3 hTP (by omega) (fun M4 hO4 hf4 => ?_))
            refine v_goto (tgt := 124) dX8_readSeries_212 rfl ?_
            exact v_weak [some (rr E m), some (iv s), some (iv (3 * s + k)), some (iv k), some (iv (h + 1)), none] ⟨rfl, rfl, rfl, rfl, rfl, trivial⟩ (ih (h + 1) _ (rdW ws s k h (-1)) M4 hO4 ((hf4.2 _ hmr.symm).trans (gs_eq hrd)) (by omega) (by omega) (by rw [rdW_0 ws hat.1]; omega) ((h_5.tr Fx.sr).tr hf4.x) hp (by omega))
          · refine v_aload_0 dX8_readSeries_172 ?_
            refine v_iconst dX8_readSeries_173 ?_
            refine l_X8_86 rfl dX8_readSeries_174 hm ⟨Nat.le_of_ble_eq_true rfl, Nat.le_of_ble_eq_true rfl⟩ (Nat.le_of_ble_eq_true rfl) ⟨Nat.le_refl _, Nat.le_refl _⟩ (c_bad hO hrd hmr (fun Mb hFb hfb => ?_))
            exact v_zret dX8_readSeries_177 rfl (Nat.le_refl _) (Nat.le_refl _) (Or.inl rfl) (by rw [if_pos (by omega)] at hp; exact hp _ (by rw [if_neg (by omega)] at hFb; exact hFb) (h_5.tr hfb.x))
        · rw [if_neg cW] at hp
          refine v_aload_0 dX8_readSeries_151 ?_
          refine g_X8_27 rfl dX8_readSeries_152 hm ?_
          refine v_iconst dX8_readSeries_155 ?_
          refine v_icmp_eq (tgt := 165) dX8_readSeries_156 rfl ⟨by omega, by omega⟩ ⟨by omega, by omega⟩ (fun c156 => ?_) (fun c156 => ?_)
          · refine v_iload_4 dX8_readSeries_165 ?_
            refine v_bipush dX8_readSeries_167 (by decide) ?_
            refine v_icmp_ne (tgt := 178) dX8_readSeries_169 rfl ⟨by omega, by omega⟩ ⟨by omega, by omega⟩ (fun c169 => ?_) (fun c169 => ?_)
            · refine v_aload_0 dX8_readSeries_178 ?_
              refine g_X8_77 rfl dX8_readSeries_179 hm ?_
              refine v_iload_1 dX8_readSeries_182 ?_
              refine v_iload_3 dX8_readSeries_183 ?_
              refine v_iload_4 dX8_readSeries_184 ?_
              refine l_X8_132 rfl dX8_readSeries_186 ⟨Nat.le_of_ble_eq_true rfl, Nat.le_of_ble_eq_true rfl⟩ (Nat.le_of_ble_eq_true rfl) ⟨Nat.le_refl _, Nat.le_refl _⟩ (c_X8_at ?_)
              rw [show 50 + 60 * (3 * s + k) + h = atW s k h from rfl]
              refine v_iload_5 dX8_readSeries_189 ?_
              refine v_ifeq_b (tgt := 198) dX8_readSeries_191 rfl (fun c191 => ?_) (fun c191 => absurd c191 cW)
              refine v_aload_0 dX8_readSeries_198 ?_
              refine g_X8_41 rfl dX8_readSeries_199 hm ?_
              refine v_iconst dX8_readSeries_202 ?_
              refine v_iadd dX8_readSeries_203 ?_
              refine v_iastore dX8_readSeries_204 hrd (by omega) (by omega) (by decide) ?_
              have n2 := hn (by omega)
              rw [n2.1, rd_row ws hat.1 (tkN T L p) w0]
              rw [nm_ok ⟨by omega, by omega, by omega⟩, if_neg (by omega)] at hp
              have hO3 := hO.rd (e := ia E 0 770 (upI (rdW ws s k h (tkN T L p)) 0 w0)) htr hmr
              obtain ⟨to3, fr3, so3, nu3, wd3, hm3, hk3, ht3, pa3, pb3⟩ := id hO3
              have hs3 := hk3.so
              have hn3 := hk3.nu
              refine v_iinc_4 dX8_readSeries_205 (Nat.le_of_ble_eq_true rfl) rfl ?_
              refine v_aload_0 dX8_readSeries_208 ?_
              refine l_X8_93 rfl dX8_readSeries_209 hm3 ⟨Nat.le_of_ble_eq_true rfl, Nat.le_of_ble_eq_true rfl⟩ (Nat.le_of_ble_eq_true rfl) ⟨Nat.le_refl _, Nat.le_refl _⟩ (c_go hO3 hTP (by omega) (fun M4 hO4 hf4 => ?_))
              refine v_goto (tgt := 124) dX8_readSeries_212 rfl ?_
              exact v_weak [some (rr E m), some (iv s), some (iv (3 * s + k)), some (iv k), some (iv (h + 1)), none] ⟨rfl, rfl, rfl, rfl, rfl, trivial⟩ (ih (h + 1) _ (rdW ws s k h (tkN T L p)) M4 hO4 ((hf4.2 _ hmr.symm).trans (gs_eq hrd)) (by omega) (by omega) (by rw [rdW_0 ws hat.1]; omega) ((h_5.tr Fx.sr).tr hf4.x) hp (by omega))
            · refine v_aload_0 dX8_readSeries_172 ?_
              refine v_iconst dX8_readSeries_173 ?_
              refine l_X8_86 rfl dX8_readSeries_174 hm ⟨Nat.le_of_ble_eq_true rfl, Nat.le_of_ble_eq_true rfl⟩ (Nat.le_of_ble_eq_true rfl) ⟨Nat.le_refl _, Nat.le_refl _⟩ (c_bad hO hrd hmr (fun Mb hFb hfb => ?_))
              exact v_zret dX8_readSeries_177 rfl (Nat.le_refl _) (Nat.le_refl _) (Or.inl rfl) (by rw [nm_ok ⟨by omega, by omega, by omega⟩, if_pos (by omega)] at hp; exact hp _ (by rw [if_neg (by omega)] at hFb; exact hFb) (h_5.tr hfb.x))
          · refine v_aload_0 dX8_readSeries_159 ?_
            refine v_iconst dX8_readSeries_160 ?_
            refine l_X8_86 rfl dX8_readSeries_161 hm ⟨Nat.le_of_ble_eq_true rfl, Nat.le_of_ble_eq_true rfl⟩ (Nat.le_of_ble_eq_true rfl) ⟨Nat.le_refl _, Nat.le_refl _⟩ (c_bad hO hrd hmr (fun Mb hFb hfb => ?_))
            exact v_zret dX8_readSeries_164 rfl (Nat.le_refl _) (Nat.le_refl _) (Or.inl rfl) (by rw [nm_no (f := 1) (Or.inl ⟨by omega, rfl⟩)] at hp; exact hp _ (by rw [ite_self] at hFb; exact hFb) (h_5.tr hfb.x))
      · refine v_aload_0 dX8_readSeries_129 ?_
        refine g_X8_27 rfl dX8_readSeries_130 hm ?_
        refine v_iconst dX8_readSeries_133 ?_
        refine v_icmp_eq (tgt := 215) dX8_readSeries_134 rfl ⟨by omega, by omega⟩ ⟨by omega, by omega⟩ (fun c134 => ?_) (fun c134 => ?_)
        · rw [if_pos ⟨by omega, by omega⟩] at hp
          dsimp only at hp
          rw [sm_ok (by omega)] at hp
          refine v_iload_4 dX8_readSeries_215 ?_
          refine v_aload_0 dX8_readSeries_217 ?_
          refine g_X8_77 rfl dX8_readSeries_218 hm ?_
          refine v_iconst dX8_readSeries_221 ?_
          refine v_iaload dX8_readSeries_222 hrd (by omega) (by omega) (by decide) ?_
          rw [upI_s]
          refine v_icmp_le (tgt := 234) dX8_readSeries_223 rfl ⟨by omega, by omega⟩ ⟨by omega, by omega⟩ (fun c223 => ?_) (fun c223 => ?_)
          · have ew : upI ws 0 w0 = ws := by rw [show w0 = ws 0 by omega]; exact upI_id ws 0
            rw [ew] at hrd
            have hO3 := hO
            have hm3 := hm
            have hrd3 := hrd
            have hx3 := h_5
            refine v_aload_0 dX8_readSeries_234 ?_
            refine l_X8_93 rfl dX8_readSeries_235 hm3 ⟨Nat.le_of_ble_eq_true rfl, Nat.le_of_ble_eq_true rfl⟩ (Nat.le_of_ble_eq_true rfl) ⟨Nat.le_refl _, Nat.le_refl _⟩ (c_go hO3 hTP (by omega) (fun M4 hO4 hf4 => ?_))
            refine v_iconst dX8_readSeries_238 ?_
            exact v_zret dX8_readSeries_239 rfl (Nat.le_refl _) (Nat.le_refl _) (Or.inr rfl) (hp _ hO4 ((hf4.2 _ hmr.symm).trans hrd3) (hx3.tr hf4.x))
          · refine v_aload_0 dX8_readSeries_226 ?_
            refine g_X8_77 rfl dX8_readSeries_227 hm ?_
            refine v_iconst dX8_readSeries_230 ?_
            refine v_iload_4 dX8_readSeries_231 ?_
            refine v_iastore dX8_readSeries_233 hrd (by omega) (by omega) (by decide) ?_
            rw [upI_up, show upI ws 0 h = ws by rw [show h = ws 0 by omega]; exact upI_id ws 0]
            have hO3 := hO.rd (e := ia E 0 770 ws) htr hmr
            obtain ⟨to3, fr3, so3, nu3, wd3, hm3, hk3, ht3, pa3, pb3⟩ := id hO3
            have hs3 := hk3.so
            have hn3 := hk3.nu
            have hrd3 := gs_eq (c := ia E 0 770 ws) hrd
            have hx3 : Fx m rd M0 _ := h_5.tr (Fx.sr (e := ia E 0 770 ws))
            refine v_aload_0 dX8_readSeries_234 ?_
            refine l_X8_93 rfl dX8_readSeries_235 hm3 ⟨Nat.le_of_ble_eq_true rfl, Nat.le_of_ble_eq_true rfl⟩ (Nat.le_of_ble_eq_true rfl) ⟨Nat.le_refl _, Nat.le_refl _⟩ (c_go hO3 hTP (by omega) (fun M4 hO4 hf4 => ?_))
            refine v_iconst dX8_readSeries_238 ?_
            exact v_zret dX8_readSeries_239 rfl (Nat.le_refl _) (Nat.le_refl _) (Or.inr rfl) (hp _ hO4 ((hf4.2 _ hmr.symm).trans hrd3) (hx3.tr hf4.x))
        · rw [if_neg (by omega)] at hp
          refine v_aload_0 dX8_readSeries_137 ?_
          refine v_ldc2 (v := 24) dX8_readSeries_138 (pl 812 (by decide +kernel)) ?_
          refine l_X8_98 rfl dX8_readSeries_141 hm ⟨Nat.le_of_ble_eq_true rfl, Nat.le_of_ble_eq_true rfl⟩ (Nat.le_of_ble_eq_true rfl) ⟨Nat.le_refl _, Nat.le_refl _⟩ (c_isWord2 hO wX (by decide) (by decide) (by decide) (by decide) (by decide) ?_)
          refine v_istore_5 dX8_readSeries_144 (Nat.le_of_ble_eq_true rfl) rfl ?_
          refine v_iload_5 dX8_readSeries_146 ?_
          refine v_ifne_b (tgt := 165) dX8_readSeries_148 rfl (fun cW => ?_) (fun cW => ?_)
          · rw [if_pos cW] at hp
            have k1 := cW.1
            refine v_iload_4 dX8_readSeries_165 ?_
            refine v_bipush dX8_readSeries_167 (by decide) ?_
            refine v_icmp_ne (tgt := 178) dX8_readSeries_169 rfl ⟨by omega, by omega⟩ ⟨by omega, by omega⟩ (fun c169 => ?_) (fun c169 => ?_)
            · refine v_aload_0 dX8_readSeries_178 ?_
              refine g_X8_77 rfl dX8_readSeries_179 hm ?_
              refine v_iload_1 dX8_readSeries_182 ?_
              refine v_iload_3 dX8_readSeries_183 ?_
              refine v_iload_4 dX8_readSeries_184 ?_
              refine l_X8_132 rfl dX8_readSeries_186 ⟨Nat.le_of_ble_eq_true rfl, Nat.le_of_ble_eq_true rfl⟩ (Nat.le_of_ble_eq_true rfl) ⟨Nat.le_refl _, Nat.le_refl _⟩ (c_X8_at ?_)
              rw [show 50 + 60 * (3 * s + k) + h = atW s k h from rfl]
              refine v_iload_5 dX8_readSeries_189 ?_
              refine v_ifeq_b (tgt := 198) dX8_readSeries_191 rfl (fun c191 => absurd c191 (by exact fun q => q cW)) (fun c191 => ?_)
              refine v_iconst dX8_readSeries_194 ?_
              refine v_goto (tgt := 204) dX8_readSeries_195 rfl ?_
              refine v_iastore dX8_readSeries_204 hrd (by omega) (by omega) (by decide) ?_
              have er := rd_row ws hat.1 (-1) w0
              rw [show (-1 : Int) + 1 = 0 from rfl] at er
              rw [er]
              rw [if_neg (by omega)] at hp
              have hO3 := hO.rd (e := ia E 0 770 (upI (rdW ws s k h (-1)) 0 w0)) htr hmr
              obtain ⟨to3, fr3, so3, nu3, wd3, hm3, hk3, ht3, pa3, pb3⟩ := id hO3
              have hs3 := hk3.so
              have hn3 := hk3.nu
              refine v_iinc_4 dX8_readSeries_205 (Nat.le_of_ble_eq_true rfl) rfl ?_
              refine v_aload_0 dX8_readSeries_208 ?_
              refine l_X8_93 rfl dX8_readSeries_209 hm3 ⟨Nat.le_of_ble_eq_true rfl, Nat.le_of_ble_eq_true rfl⟩ (Nat.le_of_ble_eq_true rfl) ⟨Nat.le_refl _, Nat.le_refl _⟩ (c_go hO3 hTP (by omega) (fun M4 hO4 hf4 => ?_))
              refine v_goto (tgt := 124) dX8_readSeries_212 rfl ?_
              exact v_weak [some (rr E m), some (iv s), some (iv (3 * s + k)), some (iv k), some (iv (h + 1)), none] ⟨rfl, rfl, rfl, rfl, rfl, trivial⟩ (ih (h + 1) _ (rdW ws s k h (-1)) M4 hO4 ((hf4.2 _ hmr.symm).trans (gs_eq hrd)) (by omega) (by omega) (by rw [rdW_0 ws hat.1]; omega) ((h_5.tr Fx.sr).tr hf4.x) hp (by omega))
            · refine v_aload_0 dX8_readSeries_172 ?_
              refine v_iconst dX8_readSeries_173 ?_
              refine l_X8_86 rfl dX8_readSeries_174 hm ⟨Nat.le_of_ble_eq_true rfl, Nat.le_of_ble_eq_true rfl⟩ (Nat.le_of_ble_eq_true rfl) ⟨Nat.le_refl _, Nat.le_refl _⟩ (c_bad hO hrd hmr (fun Mb hFb hfb => ?_))
              exact v_zret dX8_readSeries_177 rfl (Nat.le_refl _) (Nat.le_refl _) (Or.inl rfl) (by rw [if_pos (by omega)] at hp; exact hp _ (by rw [if_neg (by omega)] at hFb; exact hFb) (h_5.tr hfb.x))
          · rw [if_neg cW] at hp
            refine v_aload_0 dX8_readSeries_151 ?_
            refine g_X8_27 rfl dX8_readSeries_152 hm ?_
            refine v_iconst dX8_readSeries_155 ?_
            refine v_icmp_eq (tgt := 165) dX8_readSeries_156 rfl ⟨by omega, by omega⟩ ⟨by omega, by omega⟩ (fun c156 => ?_) (fun c156 => ?_)
            · refine v_iload_4 dX8_readSeries_165 ?_
              refine v_bipush dX8_readSeries_167 (by decide) ?_
              refine v_icmp_ne (tgt := 178) dX8_readSeries_169 rfl ⟨by omega, by omega⟩ ⟨by omega, by omega⟩ (fun c169 => ?_) (fun c169 => ?_)
              · refine v_aload_0 dX8_readSeries_178 ?_
                refine g_X8_77 rfl dX8_readSeries_179 hm ?_
                refine v_iload_1 dX8_readSeries_182 ?_
                refine v_iload_3 dX8_readSeries_183 ?_
                refine v_iload_4 dX8_readSeries_184 ?_
                refine l_X8_132 rfl dX8_readSeries_186 ⟨Nat.le_of_ble_eq_true rfl, Nat.le_of_ble_eq_true rfl⟩ (Nat.le_of_ble_eq_true rfl) ⟨Nat.le_refl _, Nat.le_refl _⟩ (c_X8_at ?_)
                rw [show 50 + 60 * (3 * s + k) + h = atW s k h from rfl]
                refine v_iload_5 dX8_readSeries_189 ?_
                refine v_ifeq_b (tgt := 198) dX8_readSeries_191 rfl (fun c191 => ?_) (fun c191 => absurd c191 cW)
                refine v_aload_0 dX8_readSeries_198 ?_
                refine g_X8_41 rfl dX8_readSeries_199 hm ?_
                refine v_iconst dX8_readSeries_202 ?_
                refine v_iadd dX8_readSeries_203 ?_
                refine v_iastore dX8_readSeries_204 hrd (by omega) (by omega) (by decide) ?_
                have n2 := hn (by omega)
                rw [n2.1, rd_row ws hat.1 (tkN T L p) w0]
                rw [nm_ok ⟨by omega, by omega, by omega⟩, if_neg (by omega)] at hp
                have hO3 := hO.rd (e := ia E 0 770 (upI (rdW ws s k h (tkN T L p)) 0 w0)) htr hmr
                obtain ⟨to3, fr3, so3, nu3, wd3, hm3, hk3, ht3, pa3, pb3⟩ := id hO3
                have hs3 := hk3.so
                have hn3 := hk3.nu
                refine v_iinc_4 dX8_readSeries_205 (Nat.le_of_ble_eq_true rfl) rfl ?_
                refine v_aload_0 dX8_readSeries_208 ?_
                refine l_X8_93 rfl dX8_readSeries_209 hm3 ⟨Nat.le_of_ble_eq_true rfl, Nat.le_of_ble_eq_true rfl⟩ (Nat.le_of_ble_eq_true rfl) ⟨Nat.le_refl _, Nat.le_refl _⟩ (c_go hO3 hTP (by omega) (fun M4 hO4 hf4 => ?_))
                refine v_goto (tgt := 124) dX8_readSeries_212 rfl ?_
                exact v_weak [some (rr E m), some (iv s), some (iv (3 * s + k)), some (iv k), some (iv (h + 1)), none] ⟨rfl, rfl, rfl, rfl, rfl, trivial⟩ (ih (h + 1) _ (rdW ws s k h (tkN T L p)) M4 hO4 ((hf4.2 _ hmr.symm).trans (gs_eq hrd)) (by omega) (by omega) (by rw [rdW_0 ws hat.1]; omega) ((h_5.tr Fx.sr).tr hf4.x) hp (by omega))
              · refine v_aload_0 dX8_readSeries_172 ?_
                refine v_iconst dX8_readSeries_173 ?_
                refine l_X8_86 rfl dX8_readSeries_174 hm ⟨Nat.le_of_ble_eq_true rfl, Nat.le_of_ble_eq_true rfl⟩ (Nat.le_of_ble_eq_true rfl) ⟨Nat.le_refl _, Nat.le_refl _⟩ (c_bad hO hrd hmr (fun Mb hFb hfb => ?_))
                exact v_zret dX8_readSeries_177 rfl (Nat.le_refl _) (Nat.le_refl _) (Or.inl rfl) (by rw [nm_ok ⟨by omega, by omega, by omega⟩, if_pos (by omega)] at hp; exact hp _ (by rw [if_neg (by omega)] at hFb; exact hFb) (h_5.tr hfb.x))
            · refine v_aload_0 dX8_readSeries_159 ?_
              refine v_iconst dX8_readSeries_160 ?_
              refine l_X8_86 rfl dX8_readSeries_161 hm ⟨Nat.le_of_ble_eq_true rfl, Nat.le_of_ble_eq_true rfl⟩ (Nat.le_of_ble_eq_true rfl) ⟨Nat.le_refl _, Nat.le_refl _⟩ (c_bad hO hrd hmr (fun Mb hFb hfb => ?_))
              exact v_zret dX8_readSeries_164 rfl (Nat.le_refl _) (Nat.le_refl _) (Or.inl rfl) (by rw [nm_no (f := 1) (Or.inl ⟨by omega, rfl⟩)] at hp; exact hp _ (by rw [ite_self] at hFb; exact hFb) (h_5.tr hfb.x))
  intro i p ws M a b c d e f h
  exact lp 26 i p ws M a b c d e f h (by omega)
