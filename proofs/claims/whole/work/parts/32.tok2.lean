/-! the reference's tokens -/
def srt (k : Int) : Int := if k = 4 then 0 else k + 1
def wdF (T : Int → Int) (q : Int) : Nat → Int
  | 0 => 0
  | n + 1 => 27 * wdF T q n + T (q + n) - 96
def n3F (T : Int → Int) (q : Int) : Nat → Int
  | 0 => 0
  | n + 1 => 10 * n3F T q n + T (q + n) - 48
def RK (T : Int → Int) (L p to fr so nu wd : Int) : Prop := fr = tkS T L p ∧ so = srt (tkK T L p) ∧ (tkK T L p = 1 ∨ tkK T L p = 2 ∨ tkK T L p = 3 → to = tkB T L p) ∧ (tkK T L p = 2 → nu = tkN T L p) ∧ (tkK T L p = 1 → wd = wdF T (tkS T L p) (min (tkB T L p - tkS T L p) 10).toNat)
theorem wd_st (T : Int → Int) {q s : Int} (h : q ≤ s) (h2 : s - q < 10) : wdF T q (min (s + 1 - q) 10).toNat = 27 * wdF T q (min (s - q) 10).toNat + T s - 96 := by
  rw [show (min (s + 1 - q) 10).toNat = (min (s - q) 10).toNat + 1 by omega, wdF, show q + ((min (s - q) 10).toNat : Int) = s by omega]
theorem wd_sm (T : Int → Int) {q s : Int} (h2 : ¬ s - q < 10) : wdF T q (min (s + 1 - q) 10).toNat = wdF T q (min (s - q) 10).toNat := by
  rw [show (min (s + 1 - q) 10).toNat = (min (s - q) 10).toNat by omega]
theorem n3_st (T : Int → Int) {q s : Int} (h : q ≤ s) (h2 : s - q < 3) : n3F T q (min (s + 1 - q) 3).toNat = 10 * n3F T q (min (s - q) 3).toNat + T s - 48 := by
  rw [show (min (s + 1 - q) 3).toNat = (min (s - q) 3).toNat + 1 by omega, n3F, show q + ((min (s - q) 3).toNat : Int) = s by omega]
theorem n3_sm (T : Int → Int) {q s : Int} (h2 : ¬ s - q < 3) : n3F T q (min (s + 1 - q) 3).toNat = n3F T q (min (s - q) 3).toNat := by
  rw [show (min (s + 1 - q) 3).toNat = (min (s - q) 3).toNat by omega]
theorem n3_nm {T : Int → Int} {q : Int} : ∀ n : Nat, (∀ j, q ≤ j → j < q + n → Dg (T j)) → n3F T q n = nmF T q n
  | 0, _ => rfl
  | n + 1, h => by
    rw [n3F, nmF, if_pos (h _ (by omega) (by omega)), n3_nm n (fun j a b => h j a (by omega))]
    omega
theorem l_first {T : Int → Int} {q : Int} (h : Lt (T q)) : ∀ n : Nat, 1 ≤ lC T q (n + 1)
  | 0 => by unfold lC; simp only [sm, Int.add_zero, Int.zero_add, Int.ofNat_zero, Int.natCast_zero]; rw [if_pos (by first | exact h | simpa using h)]; omega
  | n + 1 => by
    have := l_first h n
    unfold lC at *
    rw [sm]
    split <;> omega
theorem d_first {T : Int → Int} {q : Int} (h : Dg (T q)) : ∀ n : Nat, 1 ≤ dC T q (n + 1)
  | 0 => by unfold dC; simp only [sm, Int.add_zero, Int.zero_add, Int.ofNat_zero, Int.natCast_zero]; rw [if_pos (by first | exact h | simpa using h)]; omega
  | n + 1 => by
    have := d_first h n
    unfold dC at *
    rw [sm]
    split <;> omega
/-- all signs so far are of the first one's sort -/
abbrev Gd (T : Int → Int) (q s : Int) : Prop := (Lt (T q) ∧ dC T q (s - q).toNat = 0) ∨ (¬ Lt (T q) ∧ lC T q (s - q).toNat = 0)
theorem Gd_st {T : Int → Int} {q s : Int} (h : q ≤ s) (ha : Dg (T s) ∨ Lt (T s)) : Gd T q (s + 1) ↔ Gd T q s ∧ (Lt (T s) ↔ Lt (T q)) := by
  have b1 := dC_bd T q (s - q).toNat
  have b2 := lC_bd T q (s - q).toNat
  unfold Gd
  rw [dC_st T h, lC_st T h]
  split <;> split <;> omega
/-- a run's kind -/
theorem run_k {T : Int → Int} {q s : Int} (h : q < s) (hal : ∀ j, q ≤ j → j < s → Dg (T j) ∨ Lt (T j)) : (¬ Gd T q s → rnK T q (s - q).toNat = 0) ∧ (Gd T q s → Lt (T q) → rnK T q (s - q).toNat = 1) ∧ (Gd T q s → ¬ Lt (T q) → s - q ≤ 3 → rnK T q (s - q).toNat = 2) ∧ (¬ Lt (T q) → ¬ s - q ≤ 3 → rnK T q (s - q).toNat = 0) := by
  have hld := ld_n T q (s - q).toNat (fun j a b => hal j a (by omega))
  have b1 := dC_bd T q (s - q).toNat
  have b2 := lC_bd T q (s - q).toNat
  have h0 := hal q (by omega) (by omega)
  have f1 : Lt (T q) → 1 ≤ lC T q (s - q).toNat := fun c => by have := l_first c ((s - q).toNat - 1); rwa [show (s - q).toNat - 1 + 1 = (s - q).toNat by omega] at this
  have f2 : Dg (T q) → 1 ≤ dC T q (s - q).toNat := fun c => by have := d_first c ((s - q).toNat - 1); rwa [show (s - q).toNat - 1 + 1 = (s - q).toNat by omega] at this
  unfold Gd rnK
  refine ⟨fun c => ?_, fun c d => ?_, fun c d e => ?_, fun c d => ?_⟩
  · rw [if_neg (by omega), if_neg (by omega)]
  · rw [if_pos (by omega)]
  · rw [if_neg (by omega), if_pos (by omega)]
  · rw [if_neg (by omega), if_neg (by omega)]
theorem rnK_0 (T : Int → Int) (q : Int) : rnK T q 0 = 0 := by
  have b1 := dC_bd T q 0
  have b2 := lC_bd T q 0
  unfold rnK
  rw [if_neg (by omega), if_neg (by omega)]

set_option maxRecDepth 100000 in
theorem c_X8_isDigit {E : Ev} {M : Mem} {Post : Option Value → Mem → Prop} {c : Int} (hc : I32 c) (hp : Post (some (iv (pI (Dg c)))) M) : Cn E rX8_isDigit mX8_isDigit [iv c] M Post := by
  refine Cn.of (L := [some (iv c)]) (by decide) (Nat.le_of_ble_eq_true rfl) rfl ?_
  refine v_iload_0 dX8_isDigit_0 ?_
  refine v_bipush dX8_isDigit_1 (by decide) ?_
  refine v_icmp_lt (tgt := 16) dX8_isDigit_3 rfl hc ⟨by omega, by omega⟩ (fun c3 => ?_) (fun c3 => ?_)
  · refine v_iconst dX8_isDigit_16 ?_
    exact v_zret dX8_isDigit_17 rfl (Nat.le_refl _) (Nat.le_refl _) (by first | exact Or.inl rfl | exact Or.inr rfl | exact pI_01 _) (by first | exact ret_t (by omega) hp | exact ret_f (by omega) hp)
  · refine v_iload_0 dX8_isDigit_6 ?_
    refine v_bipush dX8_isDigit_7 (by decide) ?_
    refine v_icmp_gt (tgt := 16) dX8_isDigit_9 rfl hc ⟨by omega, by omega⟩ (fun c9 => ?_) (fun c9 => ?_)
    · refine v_iconst dX8_isDigit_16 ?_
      exact v_zret dX8_isDigit_17 rfl (Nat.le_refl _) (Nat.le_refl _) (by first | exact Or.inl rfl | exact Or.inr rfl | exact pI_01 _) (by first | exact ret_t (by omega) hp | exact ret_f (by omega) hp)
    · refine v_iconst dX8_isDigit_12 ?_
      refine v_goto (tgt := 17) dX8_isDigit_13 rfl ?_
      exact v_zret dX8_isDigit_17 rfl (Nat.le_refl _) (Nat.le_refl _) (by first | exact Or.inl rfl | exact Or.inr rfl | exact pI_01 _) (by first | exact ret_t (by omega) hp | exact ret_f (by omega) hp)

set_option maxRecDepth 100000 in
theorem c_X8_isLetter {E : Ev} {M : Mem} {Post : Option Value → Mem → Prop} {c : Int} (hc : I32 c) (hp : Post (some (iv (pI (Lt c)))) M) : Cn E rX8_isLetter mX8_isLetter [iv c] M Post := by
  refine Cn.of (L := [some (iv c)]) (by decide) (Nat.le_of_ble_eq_true rfl) rfl ?_
  refine v_iload_0 dX8_isLetter_0 ?_
  refine v_bipush dX8_isLetter_1 (by decide) ?_
  refine v_icmp_lt (tgt := 16) dX8_isLetter_3 rfl hc ⟨by omega, by omega⟩ (fun c3 => ?_) (fun c3 => ?_)
  · refine v_iconst dX8_isLetter_16 ?_
    exact v_zret dX8_isLetter_17 rfl (Nat.le_refl _) (Nat.le_refl _) (by first | exact Or.inl rfl | exact Or.inr rfl | exact pI_01 _) (by first | exact ret_t (by omega) hp | exact ret_f (by omega) hp)
  · refine v_iload_0 dX8_isLetter_6 ?_
    refine v_bipush dX8_isLetter_7 (by decide) ?_
    refine v_icmp_gt (tgt := 16) dX8_isLetter_9 rfl hc ⟨by omega, by omega⟩ (fun c9 => ?_) (fun c9 => ?_)
    · refine v_iconst dX8_isLetter_16 ?_
      exact v_zret dX8_isLetter_17 rfl (Nat.le_refl _) (Nat.le_refl _) (by first | exact Or.inl rfl | exact Or.inr rfl | exact pI_01 _) (by first | exact ret_t (by omega) hp | exact ret_f (by omega) hp)
    · refine v_iconst dX8_isLetter_12 ?_
      refine v_goto (tgt := 17) dX8_isLetter_13 rfl ?_
      exact v_zret dX8_isLetter_17 rfl (Nat.le_refl _) (Nat.le_refl _) (by first | exact Or.inl rfl | exact Or.inr rfl | exact pI_01 _) (by first | exact ret_t (by omega) hp | exact ret_f (by omega) hp)

set_option maxRecDepth 100000 in
theorem c_X8_tapeAt {E : Ev} {M : Mem} {Post : Option Value → Mem → Prop} {m t : Nat} {f0 f2 f4 f5 f6 f7 f8 f9 f10 f11 f12 f13 f14 f15 f16 f17 : Value} {T : Int → Int} {L : Int} (hm : M[m]? = some (ob 8 [f0, rr E t, f2, iv L, f4, f5, f6, f7, f8, f9, f10, f11, f12, f13, f14, f15, f16, f17])) (ht : M[t]? = some (ia E 0 640 T)) {p : Int} (p0 : 0 ≤ p) (p1 : p ≤ L) (L1 : L ≤ 640) (hp : Post (some (iv (if p < L then T p else 0))) M) : Cn E rX8_tapeAt mX8_tapeAt [rr E m, iv p] M Post := by
  refine Cn.of (L := [some (rr E m), some (iv p)]) (by decide) (Nat.le_of_ble_eq_true rfl) rfl ?_
  refine v_iload_1 dX8_tapeAt_0 ?_
  refine v_aload_0 dX8_tapeAt_1 ?_
  refine g_X8_18 rfl dX8_tapeAt_2 hm ?_
  refine v_icmp_ge (tgt := 17) dX8_tapeAt_5 rfl ⟨by omega, by omega⟩ ⟨by omega, by omega⟩ (fun c5 => ?_) (fun c5 => ?_)
  · refine v_iconst dX8_tapeAt_17 ?_
    exact v_iret dX8_tapeAt_18 rfl (Nat.le_refl _) (Nat.le_refl _) (by rw [if_neg (by omega)] at hp; exact hp)
  · refine v_aload_0 dX8_tapeAt_8 ?_
    refine g_X8_7 rfl dX8_tapeAt_9 hm ?_
    refine v_iload_1 dX8_tapeAt_12 ?_
    refine v_iaload dX8_tapeAt_13 ht (by omega) (by omega) (by decide) ?_
    refine v_goto (tgt := 18) dX8_tapeAt_14 rfl ?_
    exact v_iret dX8_tapeAt_18 rfl (Nat.le_refl _) (Nat.le_refl _) (by rw [if_pos (by omega)] at hp; exact hp)

set_option maxRecDepth 100000 in
theorem tl_X8_go {E : Ev} {M : Mem} {Post : Option Value → Mem → Prop} {m t : Nat} {f0 f2 f4 f5 f6 f7 f8 f9 f10 f11 f12 f13 f14 f15 f16 f17 : Value} {T : Int → Int} {L : Int} (hm : M[m]? = some (ob 8 [f0, rr E t, f2, iv L, f4, f5, f6, f7, f8, f9, f10, f11, f12, f13, f14, f15, f16, f17])) (ht : M[t]? = some (ia E 0 640 T)) {q s c : Int} (hqs : q < s) (hsL : s - q ≤ 700) (q0 : 0 ≤ q) (s1 : s ≤ 700) (hal : ∀ j, q ≤ j → j < s → Dg (T j) ∨ Lt (T j)) (hp : ∀ so, so = srt (rnK T q (s - q).toNat) → Post none (M.set m (ob 8 [f0, rr E t, f2, iv L, iv s, iv q, iv so, iv (n3F T q (min (s - q) 3).toNat), f8, f9, jv (wdF T q (min (s - q) 10).toNat), f11, f12, f13, f14, f15, f16, f17]))) : V E rX8_go mX8_go (finM E rX8_go Post) 0 0  (M.set m (ob 8 [f0, rr E t, f2, iv L, iv s, iv q, f6, iv (n3F T q (min (s - q) 3).toNat), f8, f9, jv (wdF T q (min (s - q) 10).toNat), f11, f12, f13, f14, f15, f16, f17])) 312 [some (rr E m), some (iv c), some (iv (pI (Lt (T q)))), some (iv (pI (Gd T q s))), none] [] := by
  have hk := run_k hqs hal
  refine v_aload_0 dX8_go_312 ?_
  refine v_iload_3 dX8_go_313 ?_
  refine v_ifeq_b (tgt := 334) dX8_go_314 rfl (fun c314 => ?_) (fun c314 => ?_)
  · refine v_iconst dX8_go_334 ?_
    refine v_goto (tgt := 347) dX8_go_335 rfl ?_
    refine p_X8_27 rfl dX8_go_347 (gs_eq hm) ?_
    rw [gs_gs]
    exact v_vret dX8_go_350 rfl (Nat.le_refl _) (Nat.le_refl _) (hp 1 (by rw [hk.1 c314]; rfl))
  · refine v_iload_2 dX8_go_317 ?_
    refine v_ifne_b (tgt := 338) dX8_go_318 rfl (fun c318 => ?_) (fun c318 => ?_)
    · refine v_iload_2 dX8_go_338 ?_
      refine v_ifeq_b (tgt := 346) dX8_go_339 rfl (fun c339 => ?_) (fun c339 => ?_)
      · refine v_iconst dX8_go_346 ?_
        refine p_X8_27 rfl dX8_go_347 (gs_eq hm) ?_
        rw [gs_gs]
        exact v_vret dX8_go_350 rfl (Nat.le_refl _) (Nat.le_refl _) (hp 3 (absurd c318 c339))
      · refine v_iconst dX8_go_342 ?_
        refine v_goto (tgt := 347) dX8_go_343 rfl ?_
        refine p_X8_27 rfl dX8_go_347 (gs_eq hm) ?_
        rw [gs_gs]
        exact v_vret dX8_go_350 rfl (Nat.le_refl _) (Nat.le_refl _) (hp 2 (by rw [hk.2.1 c314 c318]; rfl))
    · refine v_aload_0 dX8_go_321 ?_
      refine g_X8_21 rfl dX8_go_322 (gs_eq hm) ?_
      refine v_aload_0 dX8_go_325 ?_
      refine g_X8_24 rfl dX8_go_326 (gs_eq hm) ?_
      refine v_isub dX8_go_329 ?_
      refine v_iconst dX8_go_330 ?_
      refine v_icmp_le (tgt := 338) dX8_go_331 rfl ⟨by omega, by omega⟩ ⟨by omega, by omega⟩ (fun c331 => ?_) (fun c331 => ?_)
      · refine v_iload_2 dX8_go_338 ?_
        refine v_ifeq_b (tgt := 346) dX8_go_339 rfl (fun c339 => ?_) (fun c339 => ?_)
        · refine v_iconst dX8_go_346 ?_
          refine p_X8_27 rfl dX8_go_347 (gs_eq hm) ?_
          rw [gs_gs]
          exact v_vret dX8_go_350 rfl (Nat.le_refl _) (Nat.le_refl _) (hp 3 (by rw [hk.2.2.1 c314 c318 (by omega)]; rfl))
        · refine v_iconst dX8_go_342 ?_
          refine v_goto (tgt := 347) dX8_go_343 rfl ?_
          refine p_X8_27 rfl dX8_go_347 (gs_eq hm) ?_
          rw [gs_gs]
          exact v_vret dX8_go_350 rfl (Nat.le_refl _) (Nat.le_refl _) (hp 2 (absurd c339 c318))
      · refine v_iconst dX8_go_334 ?_
        refine v_goto (tgt := 347) dX8_go_335 rfl ?_
        refine p_X8_27 rfl dX8_go_347 (gs_eq hm) ?_
        rw [gs_gs]
        exact v_vret dX8_go_350 rfl (Nat.le_refl _) (Nat.le_refl _) (hp 1 (by rw [hk.2.2.2 c318 (by omega)]; rfl))

theorem Gd_0 (T : Int → Int) (q : Int) : Gd T q q := by
  have b1 := dC_bd T q (q - q).toNat
  have b2 := lC_bd T q (q - q).toNat
  unfold Gd
  omega
theorem pI_i (P : Prop) [Decidable P] : I32 (pI P) := by
  rcases pI_01 P with h | h <;> rw [h] <;> exact ⟨by decide, by decide⟩
theorem pI_q {P Q : Prop} [Decidable P] [Decidable Q] (h : pI P = pI Q) : P ↔ Q := by
  by_cases p : P <;> by_cases q : Q
  · exact ⟨fun _ => q, fun _ => p⟩
  · rw [pI_t p, pI_f q] at h; omega
  · rw [pI_f p, pI_t q] at h; omega
  · exact ⟨fun x => absurd x p, fun x => absurd x q⟩
theorem pI_nq {P Q : Prop} [Decidable P] [Decidable Q] (h : pI P ≠ pI Q) : ¬ (P ↔ Q) := by
  intro e
  by_cases p : P
  · exact h (by rw [pI_t p, pI_t (e.mp p)])
  · exact h (by rw [pI_f p, pI_f (fun q => p (e.mpr q))])
theorem RK_far {T : Int → Int} {L p to nu wd : Int} (h : min L 600 ≤ skB T L p) (h6 : 600 < L) : RK T L p to 600 1 nu wd := by
  have k : tkK T L p = 0 := by unfold tkK; rw [if_pos h, if_pos h6]
  refine ⟨by unfold tkS; rw [if_pos h]; omega, by rw [k]; rfl, fun c => by omega, fun c => by omega, fun c => by omega⟩
theorem RK_end {T : Int → Int} {L p to nu wd : Int} (h : min L 600 ≤ skB T L p) (h6 : ¬ 600 < L) (hq : skB T L p ≤ L) : RK T L p to (skB T L p) 0 nu wd := by
  have k : tkK T L p = 4 := by unfold tkK; rw [if_pos h, if_neg h6]
  refine ⟨by unfold tkS; rw [if_pos h]; omega, by rw [k]; rfl, fun c => by omega, fun c => by omega, fun c => by omega⟩
theorem RK_sign {T : Int → Int} {L p nu wd : Int} (h : ¬ min L 600 ≤ skB T L p) (h2 : T (skB T L p) = 59) : RK T L p (skB T L p + 1) (skB T L p) 4 nu wd := by
  have k : tkK T L p = 3 := by unfold tkK; rw [if_neg h, if_pos h2]
  refine ⟨by unfold tkS; rw [if_neg h], by rw [k]; rfl, fun c => by unfold tkB; rw [if_neg h, if_pos h2], fun c => by omega, fun c => by omega⟩
theorem RK_bad {T : Int → Int} {L p to nu wd : Int} (h : ¬ min L 600 ≤ skB T L p) (h2 : ¬ T (skB T L p) = 59) (h3 : ¬ (Dg (T (skB T L p)) ∨ Lt (T (skB T L p)))) : RK T L p to (skB T L p) 1 nu wd := by
  have k : tkK T L p = 0 := by unfold tkK; rw [if_neg h, if_neg h2, rn_no (fun c => h3 c.2), Int.sub_self]; exact rnK_0 _ _
  refine ⟨by unfold tkS; rw [if_neg h], by rw [k]; rfl, fun c => by omega, fun c => by omega, fun c => by omega⟩
theorem RK_run {T : Int → Int} {L p : Int} (h : ¬ min L 600 ≤ skB T L p) (h2 : Dg (T (skB T L p)) ∨ Lt (T (skB T L p))) : RK T L p (rnB T L (skB T L p)) (skB T L p) (srt (rnK T (skB T L p) (rnB T L (skB T L p) - skB T L p).toNat)) (n3F T (skB T L p) (min (rnB T L (skB T L p) - skB T L p) 3).toNat) (wdF T (skB T L p) (min (rnB T L (skB T L p) - skB T L p) 10).toNat) := by
  have h3 : ¬ T (skB T L p) = 59 := by omega
  have k : tkK T L p = rnK T (skB T L p) (rnB T L (skB T L p) - skB T L p).toNat := by unfold tkK; rw [if_neg h, if_neg h3]
  have e1 : tkS T L p = skB T L p := by unfold tkS; rw [if_neg h]
  have e2 : tkB T L p = rnB T L (skB T L p) := by unfold tkB; rw [if_neg h, if_neg h3]
  refine ⟨e1.symm, by rw [k], fun _ => e2.symm, fun c => ?_, fun c => by rw [e1, e2]⟩
  obtain ⟨a1, a2, a3, a4, -, -⟩ := tk_num c
  unfold tkN
  rw [show (min (rnB T L (skB T L p) - skB T L p) 3).toNat = (rnB T L (skB T L p) - skB T L p).toNat by omega]
  exact n3_nm _ (fun j x y => a2 j x (by omega))

set_option maxRecDepth 100000 in
theorem lp_X8_go {E : Ev} {M : Mem} {Post : Option Value → Mem → Prop} {m t : Nat} {f0 f2 f4 f5 f6 f7 f8 f9 f10 f11 f12 f13 f14 f15 f16 f17 : Value} {T : Int → Int} {L : Int} (hm : M[m]? = some (ob 8 [f0, rr E t, f2, iv L, f4, f5, f6, f7, f8, f9, f10, f11, f12, f13, f14, f15, f16, f17])) (ht : M[t]? = some (ia E 0 640 T)) (L0 : 0 ≤ L) (L1 : L ≤ 640) (hT8 : ∀ j, 0 ≤ j → j < L → 0 ≤ T j ∧ T j < 256) {q c : Int} (q0 : 0 ≤ q) (q1 : q ≤ L) (hr : q < rnB T L q) (hp : Post none (M.set m (ob 8 [f0, rr E t, f2, iv L, iv (rnB T L q), iv q, iv (srt (rnK T q ((rnB T L q) - q).toNat)), iv (n3F T q (min ((rnB T L q) - q) 3).toNat), f8, f9, jv (wdF T q (min ((rnB T L q) - q) 10).toNat), f11, f12, f13, f14, f15, f16, f17]))) : V E rX8_go mX8_go (finM E rX8_go Post) 0 0  (M.set m (ob 8 [f0, rr E t, f2, iv L, iv q, iv q, f6, iv 0, f8, f9, jv 0, f11, f12, f13, f14, f15, f16, f17])) 177 [some (rr E m), some (iv c), some (iv (pI (Lt (T q)))), some (iv 1), none] [] := by
  have hmt : m ≠ t := (ob_ia hm ht).symm
  have lp : ∀ (r : Nat) (s : Int), (q ≤ s) → (s ≤ L) → (rnB T L q = rnB T L s) → L - s < (r : Int) → V E rX8_go mX8_go (finM E rX8_go Post) 0 0 (M.set m (ob 8 [f0, rr E t, f2, iv L, iv s, iv q, f6, iv (n3F T q (min (s - q) 3).toNat), f8, f9, jv (wdF T q (min (s - q) 10).toNat), f11, f12, f13, f14, f15, f16, f17])) 177 [some (rr E m), some (iv c), some (iv (pI (Lt (T q)))), some (iv (pI (Gd T q s))), none] [] := by
    intro r
    induction r with
    | zero => intro s h_0 h_1 h_2 hz; exact absurd hz (by omega)
    | succ r ih =>
      intro s h_0 h_1 h_2 hz
      have h8s : s < L → 0 ≤ T s ∧ T s < 256 := fun q => hT8 s (by omega) q
      refine v_aload_0 dX8_go_177 ?_
      refine v_aload_0 dX8_go_178 ?_
      refine g_X8_21 rfl dX8_go_179 (gs_eq hm) ?_
      refine l_X8_44 rfl dX8_go_182 (gs_eq hm) ⟨Nat.le_of_ble_eq_true rfl, Nat.le_of_ble_eq_true rfl⟩ (Nat.le_of_ble_eq_true rfl) ⟨Nat.le_refl _, Nat.le_refl _⟩ (c_X8_tapeAt (gs_eq hm) (gs_ne hmt ht) (by omega) (by omega) L1 ?_)
      generalize hy : (if s < L then T s else 0) = y
      have gy : (y = T s ∧ s < L) ∨ (y = 0 ∧ s = L) := by split at hy <;> omega
      have h8 := h8s
      refine l_X8_30 rfl dX8_go_185 ⟨Nat.le_of_ble_eq_true rfl, Nat.le_of_ble_eq_true rfl⟩ (Nat.le_of_ble_eq_true rfl) ⟨Nat.le_refl _, Nat.le_refl _⟩ (c_X8_isLetter ⟨by omega, by omega⟩ ?_)
      refine v_ifne_b (tgt := 205) dX8_go_188 rfl (fun c188 => ?_) (fun c188 => ?_)
      · refine v_aload_0 dX8_go_205 ?_
        refine g_X8_7 rfl dX8_go_206 (gs_eq hm) ?_
        refine v_aload_0 dX8_go_209 ?_
        refine g_X8_21 rfl dX8_go_210 (gs_eq hm) ?_
        have hA : s < L ∧ (Dg (T s) ∨ Lt (T s)) := by omega
        have hsp := Gd_st h_0 hA.2
        refine v_iaload dX8_go_213 (gs_ne hmt ht) (by omega) (by omega) (by decide) ?_
        refine v_istore_4 dX8_go_214 (Nat.le_of_ble_eq_true rfl) rfl ?_
        refine v_iload_3 dX8_go_216 ?_
        refine v_ifeq_b (tgt := 233) dX8_go_217 rfl (fun c217 => ?_) (fun c217 => ?_)
        · refine v_iconst dX8_go_233 ?_
          refine v_istore_3 dX8_go_234 (Nat.le_of_ble_eq_true rfl) rfl ?_
          refine v_aload_0 dX8_go_235 ?_
          refine g_X8_21 rfl dX8_go_236 (gs_eq hm) ?_
          refine v_aload_0 dX8_go_239 ?_
          refine g_X8_24 rfl dX8_go_240 (gs_eq hm) ?_
          refine v_isub dX8_go_243 ?_
          refine v_bipush dX8_go_244 (by decide) ?_
          refine v_icmp_ge (tgt := 269) dX8_go_246 rfl ⟨by omega, by omega⟩ ⟨by omega, by omega⟩ (fun c246 => ?_) (fun c246 => ?_)
          · refine v_aload_0 dX8_go_269 ?_
            refine g_X8_21 rfl dX8_go_270 (gs_eq hm) ?_
            refine v_aload_0 dX8_go_273 ?_
            refine g_X8_24 rfl dX8_go_274 (gs_eq hm) ?_
            refine v_isub dX8_go_277 ?_
            refine v_iconst dX8_go_278 ?_
            refine v_icmp_ge (tgt := 299) dX8_go_279 rfl ⟨by omega, by omega⟩ ⟨by omega, by omega⟩ (fun c279 => ?_) (fun c279 => absurd c279 (by omega))
            refine v_aload_0 dX8_go_299 ?_
            refine v_dupr dX8_go_300 ?_
            refine g_X8_21 rfl dX8_go_301 (gs_eq hm) ?_
            refine v_iconst dX8_go_304 ?_
            refine v_iadd dX8_go_305 ?_
            refine p_X8_21 rfl dX8_go_306 (gs_eq hm) ?_
            rw [gs_gs]
            refine v_goto (tgt := 177) dX8_go_309 rfl ?_
            have tt := ih (s + 1) (by omega) (by omega) (by rw [h_2]; exact rn_st (by omega) (by omega)) (by omega)
            rw [wd_sm T (by omega), n3_sm T (by omega)] at tt
            exact v_weak [some (rr E m), some (iv c), some (iv (pI (Lt (T q)))), some (iv (pI (Gd T q (s + 1)))), none] ⟨rfl, rfl, rfl, by rw [pI_f (fun q => c217 (hsp.mp q).1)], trivial⟩ tt
          · refine v_aload_0 dX8_go_249 ?_
            refine v_ldc2 (v := 27) dX8_go_250 (pl 745 (by decide +kernel)) ?_
            refine v_aload_0 dX8_go_253 ?_
            refine g_X8_37 rfl dX8_go_254 (gs_eq hm) ?_
            refine v_lmul dX8_go_257 ?_
            refine v_iload_4 dX8_go_258 ?_
            refine v_i2l dX8_go_260 ⟨by omega, by omega⟩ ?_
            refine v_ladd dX8_go_261 ?_
            refine v_ldc2 (v := 96) dX8_go_262 (pl 746 (by decide +kernel)) ?_
            refine v_lsub dX8_go_265 ?_
            refine p_X8_37 rfl dX8_go_266 (gs_eq hm) ?_
            rw [gs_gs]
            refine v_aload_0 dX8_go_269 ?_
            refine g_X8_21 rfl dX8_go_270 (gs_eq hm) ?_
            refine v_aload_0 dX8_go_273 ?_
            refine g_X8_24 rfl dX8_go_274 (gs_eq hm) ?_
            refine v_isub dX8_go_277 ?_
            refine v_iconst dX8_go_278 ?_
            refine v_icmp_ge (tgt := 299) dX8_go_279 rfl ⟨by omega, by omega⟩ ⟨by omega, by omega⟩ (fun c279 => ?_) (fun c279 => ?_)
            · refine v_aload_0 dX8_go_299 ?_
              refine v_dupr dX8_go_300 ?_
              refine g_X8_21 rfl dX8_go_301 (gs_eq hm) ?_
              refine v_iconst dX8_go_304 ?_
              refine v_iadd dX8_go_305 ?_
              refine p_X8_21 rfl dX8_go_306 (gs_eq hm) ?_
              rw [gs_gs]
              refine v_goto (tgt := 177) dX8_go_309 rfl ?_
              have tt := ih (s + 1) (by omega) (by omega) (by rw [h_2]; exact rn_st (by omega) (by omega)) (by omega)
              rw [wd_st T h_0 (by omega), n3_sm T (by omega)] at tt
              exact v_weak [some (rr E m), some (iv c), some (iv (pI (Lt (T q)))), some (iv (pI (Gd T q (s + 1)))), none] ⟨rfl, rfl, rfl, by rw [pI_f (fun q => c217 (hsp.mp q).1)], trivial⟩ tt
            · refine v_aload_0 dX8_go_282 ?_
              refine v_bipush dX8_go_283 (by decide) ?_
              refine v_aload_0 dX8_go_285 ?_
              refine g_X8_41 rfl dX8_go_286 (gs_eq hm) ?_
              refine v_imul dX8_go_289 ?_
              refine v_iload_4 dX8_go_290 ?_
              refine v_iadd dX8_go_292 ?_
              refine v_bipush dX8_go_293 (by decide) ?_
              refine v_isub dX8_go_295 ?_
              refine p_X8_41 rfl dX8_go_296 (gs_eq hm) ?_
              rw [gs_gs]
              refine v_aload_0 dX8_go_299 ?_
              refine v_dupr dX8_go_300 ?_
              refine g_X8_21 rfl dX8_go_301 (gs_eq hm) ?_
              refine v_iconst dX8_go_304 ?_
              refine v_iadd dX8_go_305 ?_
              refine p_X8_21 rfl dX8_go_306 (gs_eq hm) ?_
              rw [gs_gs]
              refine v_goto (tgt := 177) dX8_go_309 rfl ?_
              have tt := ih (s + 1) (by omega) (by omega) (by rw [h_2]; exact rn_st (by omega) (by omega)) (by omega)
              rw [wd_st T h_0 (by omega), n3_st T h_0 (by omega)] at tt
              exact v_weak [some (rr E m), some (iv c), some (iv (pI (Lt (T q)))), some (iv (pI (Gd T q (s + 1)))), none] ⟨rfl, rfl, rfl, by rw [pI_f (fun q => c217 (hsp.mp q).1)], trivial⟩ tt
        · refine v_iload_4 dX8_go_220 ?_
          refine l_X8_30 rfl dX8_go_222 ⟨Nat.le_of_ble_eq_true rfl, Nat.le_of_ble_eq_true rfl⟩ (Nat.le_of_ble_eq_true rfl) ⟨Nat.le_refl _, Nat.le_refl _⟩ (c_X8_isLetter ⟨by omega, by omega⟩ ?_)
          refine v_iload_2 dX8_go_225 ?_
          refine v_icmp_ne (tgt := 233) dX8_go_226 rfl (pI_i _) (pI_i _) (fun c226 => ?_) (fun c226 => ?_)
          · refine v_iconst dX8_go_233 ?_
            refine v_istore_3 dX8_go_234 (Nat.le_of_ble_eq_true rfl) rfl ?_
            refine v_aload_0 dX8_go_235 ?_
            refine g_X8_21 rfl dX8_go_236 (gs_eq hm) ?_
            refine v_aload_0 dX8_go_239 ?_
            refine g_X8_24 rfl dX8_go_240 (gs_eq hm) ?_
            refine v_isub dX8_go_243 ?_
            refine v_bipush dX8_go_244 (by decide) ?_
            refine v_icmp_ge (tgt := 269) dX8_go_246 rfl ⟨by omega, by omega⟩ ⟨by omega, by omega⟩ (fun c246 => ?_) (fun c246 => ?_)
            · refine v_aload_0 dX8_go_269 ?_
              refine g_X8_21 rfl dX8_go_270 (gs_eq hm) ?_
              refine v_aload_0 dX8_go_273 ?_
              refine g_X8_24 rfl dX8_go_274 (gs_eq hm) ?_
              refine v_isub dX8_go_277 ?_
              refine v_iconst dX8_go_278 ?_
              refine v_icmp_ge (tgt := 299) dX8_go_279 rfl ⟨by omega, by omega⟩ ⟨by omega, by omega⟩ (fun c279 => ?_) (fun c279 => absurd c279 (by omega))
              refine v_aload_0 dX8_go_299 ?_
              refine v_dupr dX8_go_300 ?_
              refine g_X8_21 rfl dX8_go_301 (gs_eq hm) ?_
              refine v_iconst dX8_go_304 ?_
              refine v_iadd dX8_go_305 ?_
              refine p_X8_21 rfl dX8_go_306 (gs_eq hm) ?_
              rw [gs_gs]
              refine v_goto (tgt := 177) dX8_go_309 rfl ?_
              have tt := ih (s + 1) (by omega) (by omega) (by rw [h_2]; exact rn_st (by omega) (by omega)) (by omega)
              rw [wd_sm T (by omega), n3_sm T (by omega)] at tt
              exact v_weak [some (rr E m), some (iv c), some (iv (pI (Lt (T q)))), some (iv (pI (Gd T q (s + 1)))), none] ⟨rfl, rfl, rfl, by rw [pI_f (fun q => pI_nq c226 (hsp.mp q).2)], trivial⟩ tt
            · refine v_aload_0 dX8_go_249 ?_
              refine v_ldc2 (v := 27) dX8_go_250 (pl 745 (by decide +kernel)) ?_
              refine v_aload_0 dX8_go_253 ?_
              refine g_X8_37 rfl dX8_go_254 (gs_eq hm) ?_
              refine v_lmul dX8_go_257 ?_
              refine v_iload_4 dX8_go_258 ?_
              refine v_i2l dX8_go_260 ⟨by omega, by omega⟩ ?_
              refine v_ladd dX8_go_261 ?_
              refine v_ldc2 (v := 96) dX8_go_262 (pl 746 (by decide +kernel)) ?_
              refine v_lsub dX8_go_265 ?_
              refine p_X8_37 rfl dX8_go_266 (gs_eq hm) ?_
              rw [gs_gs]
              refine v_aload_0 dX8_go_269 ?_
              refine g_X8_21 rfl dX8_go_270 (gs_eq hm) ?_
              refine v_aload_0 dX8_go_273 ?_
              refine g_X8_24 rfl dX8_go_274 (gs_eq hm) ?_
              refine v_isub dX8_go_277 ?_
              refine v_iconst dX8_go_278 ?_
              refine v_icmp_ge (tgt := 299) dX8_go_279 rfl ⟨by omega, by omega⟩ ⟨by omega, by omega⟩ (fun c279 => ?_) (fun c279 => ?_)
              · refine v_aload_0 dX8_go_299 ?_
                refine v_dupr dX8_go_300 ?_
                refine g_X8_21 rfl dX8_go_301 (gs_eq hm) ?_
                refine v_iconst dX8_go_304 ?_
                refine v_iadd dX8_go_305 ?_
                refine p_X8_21 rfl dX8_go_306 (gs_eq hm) ?_
                rw [gs_gs]
                refine v_goto (tgt := 177) dX8_go_309 rfl ?_
                have tt := ih (s + 1) (by omega) (by omega) (by rw [h_2]; exact rn_st (by omega) (by omega)) (by omega)
                rw [wd_st T h_0 (by omega), n3_sm T (by omega)] at tt
                exact v_weak [some (rr E m), some (iv c), some (iv (pI (Lt (T q)))), some (iv (pI (Gd T q (s + 1)))), none] ⟨rfl, rfl, rfl, by rw [pI_f (fun q => pI_nq c226 (hsp.mp q).2)], trivial⟩ tt
              · refine v_aload_0 dX8_go_282 ?_
                refine v_bipush dX8_go_283 (by decide) ?_
                refine v_aload_0 dX8_go_285 ?_
                refine g_X8_41 rfl dX8_go_286 (gs_eq hm) ?_
                refine v_imul dX8_go_289 ?_
                refine v_iload_4 dX8_go_290 ?_
                refine v_iadd dX8_go_292 ?_
                refine v_bipush dX8_go_293 (by decide) ?_
                refine v_isub dX8_go_295 ?_
                refine p_X8_41 rfl dX8_go_296 (gs_eq hm) ?_
                rw [gs_gs]
                refine v_aload_0 dX8_go_299 ?_
                refine v_dupr dX8_go_300 ?_
                refine g_X8_21 rfl dX8_go_301 (gs_eq hm) ?_
                refine v_iconst dX8_go_304 ?_
                refine v_iadd dX8_go_305 ?_
                refine p_X8_21 rfl dX8_go_306 (gs_eq hm) ?_
                rw [gs_gs]
                refine v_goto (tgt := 177) dX8_go_309 rfl ?_
                have tt := ih (s + 1) (by omega) (by omega) (by rw [h_2]; exact rn_st (by omega) (by omega)) (by omega)
                rw [wd_st T h_0 (by omega), n3_st T h_0 (by omega)] at tt
                exact v_weak [some (rr E m), some (iv c), some (iv (pI (Lt (T q)))), some (iv (pI (Gd T q (s + 1)))), none] ⟨rfl, rfl, rfl, by rw [pI_f (fun q => pI_nq c226 (hsp.mp q).2)], trivial⟩ tt
          · refine v_iconst dX8_go_229 ?_
            refine v_goto (tgt := 234) dX8_go_230 rfl ?_
            refine v_istore_3 dX8_go_234 (Nat.le_of_ble_eq_true rfl) rfl ?_
            refine v_aload_0 dX8_go_235 ?_
            refine g_X8_21 rfl dX8_go_236 (gs_eq hm) ?_
            refine v_aload_0 dX8_go_239 ?_
            refine g_X8_24 rfl dX8_go_240 (gs_eq hm) ?_
            refine v_isub dX8_go_243 ?_
            refine v_bipush dX8_go_244 (by decide) ?_
            refine v_icmp_ge (tgt := 269) dX8_go_246 rfl ⟨by omega, by omega⟩ ⟨by omega, by omega⟩ (fun c246 => ?_) (fun c246 => ?_)
            · refine v_aload_0 dX8_go_269 ?_
              refine g_X8_21 rfl dX8_go_270 (gs_eq hm) ?_
              refine v_aload_0 dX8_go_273 ?_
              refine g_X8_24 rfl dX8_go_274 (gs_eq hm) ?_
              refine v_isub dX8_go_277 ?_
              refine v_iconst dX8_go_278 ?_
              refine v_icmp_ge (tgt := 299) dX8_go_279 rfl ⟨by omega, by omega⟩ ⟨by omega, by omega⟩ (fun c279 => ?_) (fun c279 => absurd c279 (by omega))
              refine v_aload_0 dX8_go_299 ?_
              refine v_dupr dX8_go_300 ?_
              refine g_X8_21 rfl dX8_go_301 (gs_eq hm) ?_
              refine v_iconst dX8_go_304 ?_
              refine v_iadd dX8_go_305 ?_
              refine p_X8_21 rfl dX8_go_306 (gs_eq hm) ?_
              rw [gs_gs]
              refine v_goto (tgt := 177) dX8_go_309 rfl ?_
              have tt := ih (s + 1) (by omega) (by omega) (by rw [h_2]; exact rn_st (by omega) (by omega)) (by omega)
              rw [wd_sm T (by omega), n3_sm T (by omega)] at tt
              exact v_weak [some (rr E m), some (iv c), some (iv (pI (Lt (T q)))), some (iv (pI (Gd T q (s + 1)))), none] ⟨rfl, rfl, rfl, by rw [pI_t (hsp.mpr ⟨c217, pI_q c226⟩)], trivial⟩ tt
            · refine v_aload_0 dX8_go_249 ?_
              refine v_ldc2 (v := 27) dX8_go_250 (pl 745 (by decide +kernel)) ?_
              refine v_aload_0 dX8_go_253 ?_
              refine g_X8_37 rfl dX8_go_254 (gs_eq hm) ?_
              refine v_lmul dX8_go_257 ?_
              refine v_iload_4 dX8_go_258 ?_
              refine v_i2l dX8_go_260 ⟨by omega, by omega⟩ ?_
              refine v_ladd dX8_go_261 ?_
              refine v_ldc2 (v := 96) dX8_go_262 (pl 746 (by decide +kernel)) ?_
              refine v_lsub dX8_go_265 ?_
              refine p_X8_37 rfl dX8_go_266 (gs_eq hm) ?_
              rw [gs_gs]
              refine v_aload_0 dX8_go_269 ?_
              refine g_X8_21 rfl dX8_go_270 (gs_eq hm) ?_
              refine v_aload_0 dX8_go_273 ?_
              refine g_X8_24 rfl dX8_go_274 (gs_eq hm) ?_
              refine v_isub dX8_go_277 ?_
              refine v_iconst dX8_go_278 ?_
              refine v_icmp_ge (tgt := 299) dX8_go_279 rfl ⟨by omega, by omega⟩ ⟨by omega, by omega⟩ (fun c279 => ?_) (fun c279 => ?_)
              · refine v_aload_0 dX8_go_299 ?_
                refine v_dupr dX8_go_300 ?_
                refine g_X8_21 rfl dX8_go_301 (gs_eq hm) ?_
                refine v_iconst dX8_go_304 ?_
                refine v_iadd dX8_go_305 ?_
                refine p_X8_21 rfl dX8_go_306 (gs_eq hm) ?_
                rw [gs_gs]
                refine v_goto (tgt := 177) dX8_go_309 rfl ?_
                have tt := ih (s + 1) (by omega) (by omega) (by rw [h_2]; exact rn_st (by omega) (by omega)) (by omega)
                rw [wd_st T h_0 (by omega), n3_sm T (by omega)] at tt
                exact v_weak [some (rr E m), some (iv c), some (iv (pI (Lt (T q)))), some (iv (pI (Gd T q (s + 1)))), none] ⟨rfl, rfl, rfl, by rw [pI_t (hsp.mpr ⟨c217, pI_q c226⟩)], trivial⟩ tt
              · refine v_aload_0 dX8_go_282 ?_
                refine v_bipush dX8_go_283 (by decide) ?_
                refine v_aload_0 dX8_go_285 ?_
                refine g_X8_41 rfl dX8_go_286 (gs_eq hm) ?_
                refine v_imul dX8_go_289 ?_
                refine v_iload_4 dX8_go_290 ?_
                refine v_iadd dX8_go_292 ?_
                refine v_bipush dX8_go_293 (by decide) ?_
                refine v_isub dX8_go_295 ?_
                refine p_X8_41 rfl dX8_go_296 (gs_eq hm) ?_
                rw [gs_gs]
                refine v_aload_0 dX8_go_299 ?_
                refine v_dupr dX8_go_300 ?_
                refine g_X8_21 rfl dX8_go_301 (gs_eq hm) ?_
                refine v_iconst dX8_go_304 ?_
                refine v_iadd dX8_go_305 ?_
                refine p_X8_21 rfl dX8_go_306 (gs_eq hm) ?_
                rw [gs_gs]
                refine v_goto (tgt := 177) dX8_go_309 rfl ?_
                have tt := ih (s + 1) (by omega) (by omega) (by rw [h_2]; exact rn_st (by omega) (by omega)) (by omega)
                rw [wd_st T h_0 (by omega), n3_st T h_0 (by omega)] at tt
                exact v_weak [some (rr E m), some (iv c), some (iv (pI (Lt (T q)))), some (iv (pI (Gd T q (s + 1)))), none] ⟨rfl, rfl, rfl, by rw [pI_t (hsp.mpr ⟨c217, pI_q c226⟩)], trivial⟩ tt
      · refine v_aload_0 dX8_go_191 ?_
        refine v_aload_0 dX8_go_192 ?_
        refine g_X8_21 rfl dX8_go_193 (gs_eq hm) ?_
        refine l_X8_44 rfl dX8_go_196 (gs_eq hm) ⟨Nat.le_of_ble_eq_true rfl, Nat.le_of_ble_eq_true rfl⟩ (Nat.le_of_ble_eq_true rfl) ⟨Nat.le_refl _, Nat.le_refl _⟩ (c_X8_tapeAt (gs_eq hm) (gs_ne hmt ht) (by omega) (by omega) L1 ?_)
        generalize hz : (if s < L then T s else 0) = z
        have gz : (z = T s ∧ s < L) ∨ (z = 0 ∧ s = L) := by split at hz <;> omega
        have h8 := h8s
        refine l_X8_34 rfl dX8_go_199 ⟨Nat.le_of_ble_eq_true rfl, Nat.le_of_ble_eq_true rfl⟩ (Nat.le_of_ble_eq_true rfl) ⟨Nat.le_refl _, Nat.le_refl _⟩ (c_X8_isDigit ⟨by omega, by omega⟩ ?_)
        refine v_ifeq_b (tgt := 312) dX8_go_202 rfl (fun c202 => ?_) (fun c202 => ?_)
        · have he : rnB T L q = s := h_2.trans (rn_no (by omega))
          exact v_weak [some (rr E m), some (iv c), some (iv (pI (Lt (T q)))), some (iv (pI (Gd T q s))), none] ⟨rfl, rfl, rfl, rfl, trivial⟩ (tl_X8_go hm ht (by omega) (by omega) q0 (by omega) (fun j j0 j1 => rn_all (L := L) j0 (by omega)) (fun so e => by subst e; rw [he] at hp; exact hp))
        · refine v_aload_0 dX8_go_205 ?_
          refine g_X8_7 rfl dX8_go_206 (gs_eq hm) ?_
          refine v_aload_0 dX8_go_209 ?_
          refine g_X8_21 rfl dX8_go_210 (gs_eq hm) ?_
          have hA : s < L ∧ (Dg (T s) ∨ Lt (T s)) := by omega
          have hsp := Gd_st h_0 hA.2
          refine v_iaload dX8_go_213 (gs_ne hmt ht) (by omega) (by omega) (by decide) ?_
          refine v_istore_4 dX8_go_214 (Nat.le_of_ble_eq_true rfl) rfl ?_
          refine v_iload_3 dX8_go_216 ?_
          refine v_ifeq_b (tgt := 233) dX8_go_217 rfl (fun c217 => ?_) (fun c217 => ?_)
          · refine v_iconst dX8_go_233 ?_
            refine v_istore_3 dX8_go_234 (Nat.le_of_ble_eq_true rfl) rfl ?_
            refine v_aload_0 dX8_go_235 ?_
            refine g_X8_21 rfl dX8_go_236 (gs_eq hm) ?_
            refine v_aload_0 dX8_go_239 ?_
            refine g_X8_24 rfl dX8_go_240 (gs_eq hm) ?_
            refine v_isub dX8_go_243 ?_
            refine v_bipush dX8_go_244 (by decide) ?_
            refine v_icmp_ge (tgt := 269) dX8_go_246 rfl ⟨by omega, by omega⟩ ⟨by omega, by omega⟩ (fun c246 => ?_) (fun c246 => ?_)
            · refine v_aload_0 dX8_go_269 ?_
              refine g_X8_21 rfl dX8_go_270 (gs_eq hm) ?_
              refine v_aload_0 dX8_go_273 ?_
              refine g_X8_24 rfl dX8_go_274 (gs_eq hm) ?_
              refine v_isub dX8_go_277 ?_
              refine v_iconst dX8_go_278 ?_
              refine v_icmp_ge (tgt := 299) dX8_go_279 rfl ⟨by omega, by omega⟩ ⟨by omega, by omega⟩ (fun c279 => ?_) (fun c279 => absurd c279 (by omega))
              refine v_aload_0 dX8_go_299 ?_
              refine v_dupr dX8_go_300 ?_
              refine g_X8_21 rfl dX8_go_301 (gs_eq hm) ?_
              refine v_iconst dX8_go_304 ?_
              refine v_iadd dX8_go_305 ?_
              refine p_X8_21 rfl dX8_go_306 (gs_eq hm) ?_
              rw [gs_gs]
              refine v_goto (tgt := 177) dX8_go_309 rfl ?_
              have tt := ih (s + 1) (by omega) (by omega) (by rw [h_2]; exact rn_st (by omega) (by omega)) (by omega)
              rw [wd_sm T (by omega), n3_sm T (by omega)] at tt
              exact v_weak [some (rr E m), some (iv c), some (iv (pI (Lt (T q)))), some (iv (pI (Gd T q (s + 1)))), none] ⟨rfl, rfl, rfl, by rw [pI_f (fun q => c217 (hsp.mp q).1)], trivial⟩ tt
            · refine v_aload_0 dX8_go_249 ?_
              refine v_ldc2 (v := 27) dX8_go_250 (pl 745 (by decide +kernel)) ?_
              refine v_aload_0 dX8_go_253 ?_
              refine g_X8_37 rfl dX8_go_254 (gs_eq hm) ?_
              refine v_lmul dX8_go_257 ?_
              refine v_iload_4 dX8_go_258 ?_
              refine v_i2l dX8_go_260 ⟨by omega, by omega⟩ ?_
              refine v_ladd dX8_go_261 ?_
              refine v_ldc2 (v := 96) dX8_go_262 (pl 746 (by decide +kernel)) ?_
              refine v_lsub dX8_go_265 ?_
              refine p_X8_37 rfl dX8_go_266 (gs_eq hm) ?_
              rw [gs_gs]
              refine v_aload_0 dX8_go_269 ?_
              refine g_X8_21 rfl dX8_go_270 (gs_eq hm) ?_
              refine v_aload_0 dX8_go_273 ?_
              refine g_X8_24 rfl dX8_go_274 (gs_eq hm) ?_
              refine v_isub dX8_go_277 ?_
              refine v_iconst dX8_go_278 ?_
              refine v_icmp_ge (tgt := 299) dX8_go_279 rfl ⟨by omega, by omega⟩ ⟨by omega, by omega⟩ (fun c279 => ?_) (fun c279 => ?_)
              · refine v_aload_0 dX8_go_299 ?_
                refine v_dupr dX8_go_300 ?_
                refine g_X8_21 rfl dX8_go_301 (gs_eq hm) ?_
                refine v_iconst dX8_go_304 ?_
                refine v_iadd dX8_go_305 ?_
                refine p_X8_21 rfl dX8_go_306 (gs_eq hm) ?_
                rw [gs_gs]
                refine v_goto (tgt := 177) dX8_go_309 rfl ?_
                have tt := ih (s + 1) (by omega) (by omega) (by rw [h_2]; exact rn_st (by omega) (by omega)) (by omega)
                rw [wd_st T h_0 (by omega), n3_sm T (by omega)] at tt
                exact v_weak [some (rr E m), some (iv c), some (iv (pI (Lt (T q)))), some (iv (pI (Gd T q (s + 1)))), none] ⟨rfl, rfl, rfl, by rw [pI_f (fun q => c217 (hsp.mp q).1)], trivial⟩ tt
              · refine v_aload_0 dX8_go_282 ?_
                refine v_bipush dX8_go_283 (by decide) ?_
                refine v_aload_0 dX8_go_285 ?_
                refine g_X8_41 rfl dX8_go_286 (gs_eq hm) ?_
                refine v_imul dX8_go_289 ?_
                refine v_iload_4 dX8_go_290 ?_
                refine v_iadd dX8_go_292 ?_
                refine v_bipush dX8_go_293 (by decide) ?_
                refine v_isub dX8_go_295 ?_
                refine p_X8_41 rfl dX8_go_296 (gs_eq hm) ?_
                rw [gs_gs]
                refine v_aload_0 dX8_go_299 ?_
                refine v_dupr dX8_go_300 ?_
                refine g_X8_21 rfl dX8_go_301 (gs_eq hm) ?_
                refine v_iconst dX8_go_304 ?_
                refine v_iadd dX8_go_305 ?_
                refine p_X8_21 rfl dX8_go_306 (gs_eq hm) ?_
                rw [gs_gs]
                refine v_goto (tgt := 177) dX8_go_309 rfl ?_
                have tt := ih (s + 1) (by omega) (by omega) (by rw [h_2]; exact rn_st (by omega) (by omega)) (by omega)
                rw [wd_st T h_0 (by omega), n3_st T h_0 (by omega)] at tt
                exact v_weak [some (rr E m), some (iv c), some (iv (pI (Lt (T q)))), some (iv (pI (Gd T q (s + 1)))), none] ⟨rfl, rfl, rfl, by rw [pI_f (fun q => c217 (hsp.mp q).1)], trivial⟩ tt
          · refine v_iload_4 dX8_go_220 ?_
            refine l_X8_30 rfl dX8_go_222 ⟨Nat.le_of_ble_eq_true rfl, Nat.le_of_ble_eq_true rfl⟩ (Nat.le_of_ble_eq_true rfl) ⟨Nat.le_refl _, Nat.le_refl _⟩ (c_X8_isLetter ⟨by omega, by omega⟩ ?_)
            refine v_iload_2 dX8_go_225 ?_
            refine v_icmp_ne (tgt := 233) dX8_go_226 rfl (pI_i _) (pI_i _) (fun c226 => ?_) (fun c226 => ?_)
            · refine v_iconst dX8_go_233 ?_
              refine v_istore_3 dX8_go_234 (Nat.le_of_ble_eq_true rfl) rfl ?_
              refine v_aload_0 dX8_go_235 ?_
              refine g_X8_21 rfl dX8_go_236 (gs_eq hm) ?_
              refine v_aload_0 dX8_go_239 ?_
              refine g_X8_24 rfl dX8_go_240 (gs_eq hm) ?_
              refine v_isub dX8_go_243 ?_
              refine v_bipush dX8_go_244 (by decide) ?_
              refine v_icmp_ge (tgt := 269) dX8_go_246 rfl ⟨by omega, by omega⟩ ⟨by omega, by omega⟩ (fun c246 => ?_) (fun c246 => ?_)
              · refine v_aload_0 dX8_go_269 ?_
                refine g_X8_21 rfl dX8_go_270 (gs_eq hm) ?_
                refine v_aload_0 dX8_go_273 ?_
                refine g_X8_24 rfl dX8_go_274 (gs_eq hm) ?_
                refine v_isub dX8_go_277 ?_
                refine v_iconst dX8_go_278 ?_
                refine v_icmp_ge (tgt := 299) dX8_go_279 rfl ⟨by omega, by omega⟩ ⟨by omega, by omega⟩ (fun c279 => ?_) (fun c279 => absurd c279 (by omega))
                refine v_aload_0 dX8_go_299 ?_
                refine v_dupr dX8_go_300 ?_
                refine g_X8_21 rfl dX8_go_301 (gs_eq hm) ?_
                refine v_iconst dX8_go_304 ?_
                refine v_iadd dX8_go_305 ?_
                refine p_X8_21 rfl dX8_go_306 (gs_eq hm) ?_
                rw [gs_gs]
                refine v_goto (tgt := 177) dX8_go_309 rfl ?_
                have tt := ih (s + 1) (by omega) (by omega) (by rw [h_2]; exact rn_st (by omega) (by omega)) (by omega)
                rw [wd_sm T (by omega), n3_sm T (by omega)] at tt
                exact v_weak [some (rr E m), some (iv c), some (iv (pI (Lt (T q)))), some (iv (pI (Gd T q (s + 1)))), none] ⟨rfl, rfl, rfl, by rw [pI_f (fun q => pI_nq c226 (hsp.mp q).2)], trivial⟩ tt
              · refine v_aload_0 dX8_go_249 ?_
                refine v_ldc2 (v := 27) dX8_go_250 (pl 745 (by decide +kernel)) ?_
                refine v_aload_0 dX8_go_253 ?_
                refine g_X8_37 rfl dX8_go_254 (gs_eq hm) ?_
                refine v_lmul dX8_go_257 ?_
                refine v_iload_4 dX8_go_258 ?_
                refine v_i2l dX8_go_260 ⟨by omega, by omega⟩ ?_
                refine v_ladd dX8_go_261 ?_
                refine v_ldc2 (v := 96) dX8_go_262 (pl 746 (by decide +kernel)) ?_
                refine v_lsub dX8_go_265 ?_
                refine p_X8_37 rfl dX8_go_266 (gs_eq hm) ?_
                rw [gs_gs]
                refine v_aload_0 dX8_go_269 ?_
                refine g_X8_21 rfl dX8_go_270 (gs_eq hm) ?_
                refine v_aload_0 dX8_go_273 ?_
                refine g_X8_24 rfl dX8_go_274 (gs_eq hm) ?_
                refine v_isub dX8_go_277 ?_
                refine v_iconst dX8_go_278 ?_
                refine v_icmp_ge (tgt := 299) dX8_go_279 rfl ⟨by omega, by omega⟩ ⟨by omega, by omega⟩ (fun c279 => ?_) (fun c279 => ?_)
                · refine v_aload_0 dX8_go_299 ?_
                  refine v_dupr dX8_go_300 ?_
                  refine g_X8_21 rfl dX8_go_301 (gs_eq hm) ?_
                  refine v_iconst dX8_go_304 ?_
                  refine v_iadd dX8_go_305 ?_
                  refine p_X8_21 rfl dX8_go_306 (gs_eq hm) ?_
                  rw [gs_gs]
                  refine v_goto (tgt := 177) dX8_go_309 rfl ?_
                  have tt := ih (s + 1) (by omega) (by omega) (by rw [h_2]; exact rn_st (by omega) (by omega)) (by omega)
                  rw [wd_st T h_0 (by omega), n3_sm T (by omega)] at tt
                  exact v_weak [some (rr E m), some (iv c), some (iv (pI (Lt (T q)))), some (iv (pI (Gd T q (s + 1)))), none] ⟨rfl, rfl, rfl, by rw [pI_f (fun q => pI_nq c226 (hsp.mp q).2)], trivial⟩ tt
                · refine v_aload_0 dX8_go_282 ?_
                  refine v_bipush dX8_go_283 (by decide) ?_
                  refine v_aload_0 dX8_go_285 ?_
                  refine g_X8_41 rfl dX8_go_286 (gs_eq hm) ?_
                  refine v_imul dX8_go_289 ?_
                  refine v_iload_4 dX8_go_290 ?_
                  refine v_iadd dX8_go_292 ?_
                  refine v_bipush dX8_go_293 (by decide) ?_
                  refine v_isub dX8_go_295 ?_
                  refine p_X8_41 rfl dX8_go_296 (gs_eq hm) ?_
                  rw [gs_gs]
                  refine v_aload_0 dX8_go_299 ?_
                  refine v_dupr dX8_go_300 ?_
                  refine g_X8_21 rfl dX8_go_301 (gs_eq hm) ?_
                  refine v_iconst dX8_go_304 ?_
                  refine v_iadd dX8_go_305 ?_
                  refine p_X8_21 rfl dX8_go_306 (gs_eq hm) ?_
                  rw [gs_gs]
                  refine v_goto (tgt := 177) dX8_go_309 rfl ?_
                  have tt := ih (s + 1) (by omega) (by omega) (by rw [h_2]; exact rn_st (by omega) (by omega)) (by omega)
                  rw [wd_st T h_0 (by omega), n3_st T h_0 (by omega)] at tt
                  exact v_weak [some (rr E m), some (iv c), some (iv (pI (Lt (T q)))), some (iv (pI (Gd T q (s + 1)))), none] ⟨rfl, rfl, rfl, by rw [pI_f (fun q => pI_nq c226 (hsp.mp q).2)], trivial⟩ tt
            · refine v_iconst dX8_go_229 ?_
              refine v_goto (tgt := 234) dX8_go_230 rfl ?_
              refine v_istore_3 dX8_go_234 (Nat.le_of_ble_eq_true rfl) rfl ?_
              refine v_aload_0 dX8_go_235 ?_
              refine g_X8_21 rfl dX8_go_236 (gs_eq hm) ?_
              refine v_aload_0 dX8_go_239 ?_
              refine g_X8_24 rfl dX8_go_240 (gs_eq hm) ?_
              refine v_isub dX8_go_243 ?_
              refine v_bipush dX8_go_244 (by decide) ?_
              refine v_icmp_ge (tgt := 269) dX8_go_246 rfl ⟨by omega, by omega⟩ ⟨by omega, by omega⟩ (fun c246 => ?_) (fun c246 => ?_)
              · refine v_aload_0 dX8_go_269 ?_
                refine g_X8_21 rfl dX8_go_270 (gs_eq hm) ?_
                refine v_aload_0 dX8_go_273 ?_
                refine g_X8_24 rfl dX8_go_274 (gs_eq hm) ?_
                refine v_isub dX8_go_277 ?_
                refine v_iconst dX8_go_278 ?_
                refine v_icmp_ge (tgt := 299) dX8_go_279 rfl ⟨by omega, by omega⟩ ⟨by omega, by omega⟩ (fun c279 => ?_) (fun c279 => absurd c279 (by omega))
                refine v_aload_0 dX8_go_299 ?_
                refine v_dupr dX8_go_300 ?_
                refine g_X8_21 rfl dX8_go_301 (gs_eq hm) ?_
                refine v_iconst dX8_go_304 ?_
                refine v_iadd dX8_go_305 ?_
                refine p_X8_21 rfl dX8_go_306 (gs_eq hm) ?_
                rw [gs_gs]
                refine v_goto (tgt := 177) dX8_go_309 rfl ?_
                have tt := ih (s + 1) (by omega) (by omega) (by rw [h_2]; exact rn_st (by omega) (by omega)) (by omega)
                rw [wd_sm T (by omega), n3_sm T (by omega)] at tt
                exact v_weak [some (rr E m), some (iv c), some (iv (pI (Lt (T q)))), some (iv (pI (Gd T q (s + 1)))), none] ⟨rfl, rfl, rfl, by rw [pI_t (hsp.mpr ⟨c217, pI_q c226⟩)], trivial⟩ tt
              · refine v_aload_0 dX8_go_249 ?_
                refine v_ldc2 (v := 27) dX8_go_250 (pl 745 (by decide +kernel)) ?_
                refine v_aload_0 dX8_go_253 ?_
                refine g_X8_37 rfl dX8_go_254 (gs_eq hm) ?_
                refine v_lmul dX8_go_257 ?_
                refine v_iload_4 dX8_go_258 ?_
                refine v_i2l dX8_go_260 ⟨by omega, by omega⟩ ?_
                refine v_ladd dX8_go_261 ?_
                refine v_ldc2 (v := 96) dX8_go_262 (pl 746 (by decide +kernel)) ?_
                refine v_lsub dX8_go_265 ?_
                refine p_X8_37 rfl dX8_go_266 (gs_eq hm) ?_
                rw [gs_gs]
                refine v_aload_0 dX8_go_269 ?_
                refine g_X8_21 rfl dX8_go_270 (gs_eq hm) ?_
                refine v_aload_0 dX8_go_273 ?_
                refine g_X8_24 rfl dX8_go_274 (gs_eq hm) ?_
                refine v_isub dX8_go_277 ?_
                refine v_iconst dX8_go_278 ?_
                refine v_icmp_ge (tgt := 299) dX8_go_279 rfl ⟨by omega, by omega⟩ ⟨by omega, by omega⟩ (fun c279 => ?_) (fun c279 => ?_)
                · refine v_aload_0 dX8_go_299 ?_
                  refine v_dupr dX8_go_300 ?_
                  refine g_X8_21 rfl dX8_go_301 (gs_eq hm) ?_
                  refine v_iconst dX8_go_304 ?_
                  refine v_iadd dX8_go_305 ?_
                  refine p_X8_21 rfl dX8_go_306 (gs_eq hm) ?_
                  rw [gs_gs]
                  refine v_goto (tgt := 177) dX8_go_309 rfl ?_
                  have tt := ih (s + 1) (by omega) (by omega) (by rw [h_2]; exact rn_st (by omega) (by omega)) (by omega)
                  rw [wd_st T h_0 (by omega), n3_sm T (by omega)] at tt
                  exact v_weak [some (rr E m), some (iv c), some (iv (pI (Lt (T q)))), some (iv (pI (Gd T q (s + 1)))), none] ⟨rfl, rfl, rfl, by rw [pI_t (hsp.mpr ⟨c217, pI_q c226⟩)], trivial⟩ tt
                · refine v_aload_0 dX8_go_282 ?_
                  refine v_bipush dX8_go_283 (by decide) ?_
                  refine v_aload_0 dX8_go_285 ?_
                  refine g_X8_41 rfl dX8_go_286 (gs_eq hm) ?_
                  refine v_imul dX8_go_289 ?_
                  refine v_iload_4 dX8_go_290 ?_
                  refine v_iadd dX8_go_292 ?_
                  refine v_bipush dX8_go_293 (by decide) ?_
                  refine v_isub dX8_go_295 ?_
                  refine p_X8_41 rfl dX8_go_296 (gs_eq hm) ?_
                  rw [gs_gs]
                  refine v_aload_0 dX8_go_299 ?_
                  refine v_dupr dX8_go_300 ?_
                  refine g_X8_21 rfl dX8_go_301 (gs_eq hm) ?_
                  refine v_iconst dX8_go_304 ?_
                  refine v_iadd dX8_go_305 ?_
                  refine p_X8_21 rfl dX8_go_306 (gs_eq hm) ?_
                  rw [gs_gs]
                  refine v_goto (tgt := 177) dX8_go_309 rfl ?_
                  have tt := ih (s + 1) (by omega) (by omega) (by rw [h_2]; exact rn_st (by omega) (by omega)) (by omega)
                  rw [wd_st T h_0 (by omega), n3_st T h_0 (by omega)] at tt
                  exact v_weak [some (rr E m), some (iv c), some (iv (pI (Lt (T q)))), some (iv (pI (Gd T q (s + 1)))), none] ⟨rfl, rfl, rfl, by rw [pI_t (hsp.mpr ⟨c217, pI_q c226⟩)], trivial⟩ tt
  have tt := lp 641 q (by omega) (by omega) rfl (by omega)
  rw [pI_t (Gd_0 T q), Int.sub_self] at tt
  exact tt
