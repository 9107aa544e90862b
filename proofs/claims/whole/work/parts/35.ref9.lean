/-! the reference reads a text -/
def TP (T : Int → Int) (L : Int) : Prop := 0 ≤ L ∧ L ≤ 640 ∧ ∀ j, 0 ≤ j → j < L → 0 ≤ T j ∧ T j < 256
def RO (E : Ev) (M : Mem) (m t rd : Nat) (T : Int → Int) (L p : Int) (g : Nat → Value) (td ln : Int) : Prop := ∃ to fr so nu wd : Int, M[m]? = some (ob 8 [g 0, rr E t, g 2, iv L, iv to, iv fr, iv so, iv nu, g 8, g 9, jv wd, g 11, rr E rd, g 13, g 14, iv td, iv ln, g 17]) ∧ RK T L p to fr so nu wd ∧ M[t]? = some (ia E 0 640 T) ∧ 0 ≤ p ∧ p ≤ L
def RFl (E : Ev) (M : Mem) (m t rd : Nat) (T : Int → Int) (L : Int) (g : Nat → Value) (f pl : Int) : Prop := ∃ to fr so nu wd td ln : Int, M[m]? = some (ob 8 [g 0, rr E t, g 2, iv L, iv to, iv fr, iv so, iv nu, iv f, iv pl, jv wd, g 11, rr E rd, g 13, g 14, iv td, iv ln, g 17]) ∧ M[t]? = some (ia E 0 640 T) ∧ ∃ w, M[rd]? = some (ia E 0 770 w)
def Fx (m rd : Nat) (M M2 : Mem) : Prop := M2.length = M.length ∧ ∀ b : Nat, b ≠ m → b ≠ rd → M2[b]? = M[b]?
def Fm (m : Nat) (M M2 : Mem) : Prop := M2.length = M.length ∧ ∀ b : Nat, b ≠ m → M2[b]? = M[b]?
theorem Fm.x {m rd : Nat} {M M2 : Mem} (h : Fm m M M2) : Fx m rd M M2 := ⟨h.1, fun b b1 _ => h.2 b b1⟩
theorem Fx.rf {m rd : Nat} {M : Mem} : Fx m rd M M := ⟨rfl, fun _ _ _ => rfl⟩
theorem Fx.tr {m rd : Nat} {M M2 M3 : Mem} (h : Fx m rd M M2) (h2 : Fx m rd M2 M3) : Fx m rd M M3 := ⟨h2.1.trans h.1, fun b b1 b2 => (h2.2 b b1 b2).trans (h.2 b b1 b2)⟩
theorem Fm.set {m : Nat} {M : Mem} {e : va_E} : Fm m M (M.set m e) := ⟨gs_len, fun b hb => List.getElem?_set_ne (fun q => hb q.symm)⟩
theorem Fx.sr {m rd : Nat} {M : Mem} {e : va_E} : Fx m rd M (M.set rd e) := ⟨gs_len, fun b _ hb => List.getElem?_set_ne (fun q => hb q.symm)⟩
def RP (E : Ev) (m t rd : Nat) (T : Int → Int) (L : Int) (g : Nat → Value) (td ln : Int) (M : Mem) (Post : Option Value → Mem → Prop) : Rs RW → Prop
  | .inl (f, pl) => ∀ M2, RFl E M2 m t rd T L g f pl → Fx m rd M M2 → Post (some (iv 0)) M2
  | .inr (p, w) => ∀ M2, RO E M2 m t rd T L p g td ln → M2[rd]? = some (ia E 0 770 w) → Fx m rd M M2 → Post (some (iv 1)) M2
theorem srt_i {k : Int} (h0 : 0 ≤ k) (h4 : k ≤ 4) : 0 ≤ srt k ∧ srt k ≤ 4 ∧ (srt k = 0 ↔ k = 4) ∧ (srt k = 1 ↔ k = 0) ∧ (srt k = 2 ↔ k = 1) ∧ (srt k = 3 ↔ k = 2) ∧ (srt k = 4 ↔ k = 3) := by unfold srt; split <;> omega
theorem RK.so {T : Int → Int} {L p to fr so nu wd : Int} (h : RK T L p to fr so nu wd) : 0 ≤ so ∧ so ≤ 4 ∧ (so = 0 ↔ tkK T L p = 4) ∧ (so = 1 ↔ tkK T L p = 0) ∧ (so = 2 ↔ tkK T L p = 1) ∧ (so = 3 ↔ tkK T L p = 2) ∧ (so = 4 ↔ tkK T L p = 3) := by
  have := tkK_bd T L p
  rw [h.2.1]
  exact srt_i this.1 this.2
theorem RK.nu {T : Int → Int} {L p to fr so nu wd : Int} (h : RK T L p to fr so nu wd) (k : tkK T L p = 2) : nu = tkN T L p ∧ 0 ≤ tkN T L p ∧ tkN T L p ≤ 999 := ⟨h.2.2.2.1 k, tkN_bd k⟩

theorem c_go {E : Ev} {M : Mem} {Post : Option Value → Mem → Prop} {m t rd : Nat} {T : Int → Int} {L p td ln : Int} {g : Nat → Value} (hO : RO E M m t rd T L p g td ln) (hTP : TP T L) (hkk : tkK T L p = 1 ∨ tkK T L p = 2 ∨ tkK T L p = 3) (hp : ∀ M2, RO E M2 m t rd T L (tkB T L p) g td ln → Fm m M M2 → Post none M2) : Cn E rX8_go mX8_go [rr E m] M Post := by
  obtain ⟨to, fr, so, nu, wd, hm, hk, ht, pa, pb⟩ := id hO
  have hs := hk.so
  have hn := hk.nu
  have e := hk.2.2.1 hkk
  subst e
  have hb := tkB_bd (T := T) pa pb
  exact c_X8_go hm ht hTP.1 hTP.2.1 hTP.2.2 hb.1 hb.2 (fun to fr so nu wd r => hp _ ⟨to, fr, so, nu, wd, gs_eq hm, r, gs_ne (ob_ia hm ht).symm ht, hb.1, hb.2⟩ Fm.set)

set_option maxRecDepth 100000 in
theorem c_bad {E : Ev} {M : Mem} {Post : Option Value → Mem → Prop} {m t rd : Nat} {T : Int → Int} {L p td ln : Int} {g : Nat → Value} (hO : RO E M m t rd T L p g td ln) {w : Int → Int} (hrd : M[rd]? = some (ia E 0 770 w)) (hmr : m ≠ rd) {x : Int} (hp : ∀ M2, RFl E M2 m t rd T L g (if tkK T L p = 0 then 1 else x) (tkS T L p) → Fm m M M2 → Post (some (iv 0)) M2) : Cn E rX8_bad mX8_bad [rr E m, iv x] M Post := by
  obtain ⟨to, fr, so, nu, wd, hm, hk, ht, pa, pb⟩ := id hO
  have hs := hk.so
  have hn := hk.nu
  refine Cn.of (L := [some (rr E m), some (iv x)]) (by decide) (Nat.le_of_ble_eq_true rfl) rfl ?_
  refine v_aload_0 dX8_bad_0 ?_
  refine v_aload_0 dX8_bad_1 ?_
  refine g_X8_27 rfl dX8_bad_2 hm ?_
  refine v_iconst dX8_bad_5 ?_
  refine v_icmp_ne (tgt := 13) dX8_bad_6 rfl ⟨by omega, by omega⟩ ⟨by omega, by omega⟩ (fun c6 => ?_) (fun c6 => ?_)
  · refine v_iload_1 dX8_bad_13 ?_
    refine p_X8_62 rfl dX8_bad_14 hm ?_
    refine v_aload_0 dX8_bad_17 ?_
    refine v_aload_0 dX8_bad_18 ?_
    refine g_X8_24 rfl dX8_bad_19 (gs_eq hm) ?_
    refine p_X8_65 rfl dX8_bad_22 (gs_eq hm) ?_
    rw [gs_gs]
    refine v_iconst dX8_bad_25 ?_
    exact v_zret dX8_bad_26 rfl (Nat.le_refl _) (Nat.le_refl _) (by first | exact Or.inl rfl | exact Or.inr rfl | exact pI_01 _) (hp _ (by rw [if_neg (by omega), ← hk.1]; exact ⟨to, fr, so, nu, wd, td, ln, gs_eq hm, gs_ne (ob_ia hm ht).symm ht, w, gs_ne hmr hrd⟩) Fm.set)
  · refine v_iconst dX8_bad_9 ?_
    refine v_goto (tgt := 14) dX8_bad_10 rfl ?_
    refine p_X8_62 rfl dX8_bad_14 hm ?_
    refine v_aload_0 dX8_bad_17 ?_
    refine v_aload_0 dX8_bad_18 ?_
    refine g_X8_24 rfl dX8_bad_19 (gs_eq hm) ?_
    refine p_X8_65 rfl dX8_bad_22 (gs_eq hm) ?_
    rw [gs_gs]
    refine v_iconst dX8_bad_25 ?_
    exact v_zret dX8_bad_26 rfl (Nat.le_refl _) (Nat.le_refl _) (by first | exact Or.inl rfl | exact Or.inr rfl | exact pI_01 _) (hp _ (by rw [if_pos (by omega), ← hk.1]; exact ⟨to, fr, so, nu, wd, td, ln, gs_eq hm, gs_ne (ob_ia hm ht).symm ht, w, gs_ne hmr hrd⟩) Fm.set)

theorem RO.rd {E : Ev} {M : Mem} {m t rd : Nat} {T : Int → Int} {L p td ln : Int} {g : Nat → Value} {e : va_E} (h : RO E M m t rd T L p g td ln) (htr : t ≠ rd) (hmr : m ≠ rd) : RO E (M.set rd e) m t rd T L p g td ln := by
  obtain ⟨to, fr, so, nu, wd, hm, hk, ht, p0, p1⟩ := h
  exact ⟨to, fr, so, nu, wd, gs_ne hmr.symm hm, hk, gs_ne htr.symm ht, p0, p1⟩

set_option maxRecDepth 100000 in
theorem c_told {E : Ev} {M : Mem} {Post : Option Value → Mem → Prop} {m t rd : Nat} {T : Int → Int} {L p td ln : Int} {g : Nat → Value} (hO : RO E M m t rd T L p g td ln) (hTP : TP T L) {w : Int → Int} (hrd : M[rd]? = some (ia E 0 770 w)) (hmr : m ≠ rd) (htr : t ≠ rd) {at_ lo hi : Int} (a0 : 0 ≤ at_) (a1 : at_ < 770) (hlo : I32 lo) (hhi : I32 hi) (hp : ∀ (z : Int) (M2 : Mem), Fx m rd M M2 → ((z = 1 ∧ nmOk T L p lo hi ∧ RO E M2 m t rd T L (tkB T L p) g td ln ∧ M2[rd]? = some (ia E 0 770 (upI w at_ (tkN T L p)))) ∨ (z = 0 ∧ ∃ f, nmNo T L p lo hi f ∧ RFl E M2 m t rd T L g f (tkS T L p))) → Post (some (iv z)) M2) : Cn E rX8_told mX8_told [rr E m, iv at_, iv lo, iv hi] M Post := by
  obtain ⟨to, fr, so, nu, wd, hm, hk, ht, pa, pb⟩ := id hO
  have hs := hk.so
  have hn := hk.nu
  refine Cn.of (L := [some (rr E m), some (iv at_), some (iv lo), some (iv hi)]) (by decide) (Nat.le_of_ble_eq_true rfl) rfl ?_
  refine v_aload_0 dX8_told_0 ?_
  refine g_X8_27 rfl dX8_told_1 hm ?_
  refine v_iconst dX8_told_4 ?_
  refine v_icmp_eq (tgt := 14) dX8_told_5 rfl ⟨by omega, by omega⟩ ⟨by omega, by omega⟩ (fun c5 => ?_) (fun c5 => ?_)
  · refine v_aload_0 dX8_told_14 ?_
    refine g_X8_41 rfl dX8_told_15 hm ?_
    refine v_iload_2 dX8_told_18 ?_
    refine v_iload_3 dX8_told_19 ?_
    refine l_X8_89 rfl dX8_told_20 ⟨Nat.le_of_ble_eq_true rfl, Nat.le_of_ble_eq_true rfl⟩ (Nat.le_of_ble_eq_true rfl) ⟨Nat.le_refl _, Nat.le_refl _⟩ (c_X8_isIn ⟨by omega, by omega⟩ hlo hhi ?_)
    refine v_ifne_b (tgt := 32) dX8_told_23 rfl (fun c23 => ?_) (fun c23 => ?_)
    · refine v_aload_0 dX8_told_32 ?_
      refine g_X8_77 rfl dX8_told_33 hm ?_
      refine v_iload_1 dX8_told_36 ?_
      refine v_aload_0 dX8_told_37 ?_
      refine g_X8_41 rfl dX8_told_38 hm ?_
      refine v_iastore dX8_told_41 hrd (by omega) (by omega) (by decide) ?_
      refine v_aload_0 dX8_told_42 ?_
      refine l_X8_93 rfl dX8_told_43 (gs_ne hmr.symm hm) ⟨Nat.le_of_ble_eq_true rfl, Nat.le_of_ble_eq_true rfl⟩ (Nat.le_of_ble_eq_true rfl) ⟨Nat.le_refl _, Nat.le_refl _⟩ (c_go (hO.rd htr hmr) hTP (by omega) (fun M2 hO2 hf => ?_))
      refine v_iconst dX8_told_46 ?_
      exact v_zret dX8_told_47 rfl (Nat.le_refl _) (Nat.le_refl _) (Or.inr rfl) (hp 1 M2 (Fx.sr.tr hf.x) (Or.inl ⟨rfl, ⟨by omega, by omega, by omega⟩, hO2, (hf.2 _ hmr.symm).trans (by rw [gs_eq hrd, (hn (by omega)).1])⟩))
    · refine v_aload_0 dX8_told_26 ?_
      refine v_iconst dX8_told_27 ?_
      refine l_X8_86 rfl dX8_told_28 hm ⟨Nat.le_of_ble_eq_true rfl, Nat.le_of_ble_eq_true rfl⟩ (Nat.le_of_ble_eq_true rfl) ⟨Nat.le_refl _, Nat.le_refl _⟩ (c_bad hO hrd hmr (fun M2 hF hf => ?_))
      exact v_zret dX8_told_31 rfl (Nat.le_refl _) (Nat.le_refl _) (Or.inl rfl) (hp 0 M2 hf.x (Or.inr ⟨rfl, 2, Or.inr ⟨by omega, by omega, rfl⟩, by rw [if_neg (by omega)] at hF; exact hF⟩))
  · refine v_aload_0 dX8_told_8 ?_
    refine v_iconst dX8_told_9 ?_
    refine l_X8_86 rfl dX8_told_10 hm ⟨Nat.le_of_ble_eq_true rfl, Nat.le_of_ble_eq_true rfl⟩ (Nat.le_of_ble_eq_true rfl) ⟨Nat.le_refl _, Nat.le_refl _⟩ (c_bad hO hrd hmr (fun M2 hF hf => ?_))
    exact v_zret dX8_told_13 rfl (Nat.le_refl _) (Nat.le_refl _) (Or.inl rfl) (hp 0 M2 hf.x (Or.inr ⟨rfl, 1, Or.inl ⟨by omega, rfl⟩, by rw [ite_self] at hF; exact hF⟩))

set_option maxRecDepth 100000 in
theorem c_readEnd {E : Ev} {M : Mem} {Post : Option Value → Mem → Prop} {m t rd : Nat} {T : Int → Int} {L p td ln : Int} {g : Nat → Value} (hO : RO E M m t rd T L p g td ln) (hTP : TP T L) {w : Int → Int} (hrd : M[rd]? = some (ia E 0 770 w)) (hmr : m ≠ rd) (htr : t ≠ rd) (hp : ∀ (z : Int) (M2 : Mem), Fx m rd M M2 → ((z = 1 ∧ tkK T L p = 3 ∧ RO E M2 m t rd T L (tkB T L p) g td ln ∧ M2[rd]? = some (ia E 0 770 w)) ∨ (z = 0 ∧ ¬ tkK T L p = 3 ∧ RFl E M2 m t rd T L g 1 (tkS T L p))) → Post (some (iv z)) M2) : Cn E rX8_readEnd mX8_readEnd [rr E m] M Post := by
  obtain ⟨to, fr, so, nu, wd, hm, hk, ht, pa, pb⟩ := id hO
  have hs := hk.so
  have hn := hk.nu
  refine Cn.of (L := [some (rr E m)]) (by decide) (Nat.le_of_ble_eq_true rfl) rfl ?_
  refine v_aload_0 dX8_readEnd_0 ?_
  refine g_X8_27 rfl dX8_readEnd_1 hm ?_
  refine v_iconst dX8_readEnd_4 ?_
  refine v_icmp_eq (tgt := 14) dX8_readEnd_5 rfl ⟨by omega, by omega⟩ ⟨by omega, by omega⟩ (fun c5 => ?_) (fun c5 => ?_)
  · refine v_aload_0 dX8_readEnd_14 ?_
    refine l_X8_93 rfl dX8_readEnd_15 hm ⟨Nat.le_of_ble_eq_true rfl, Nat.le_of_ble_eq_true rfl⟩ (Nat.le_of_ble_eq_true rfl) ⟨Nat.le_refl _, Nat.le_refl _⟩ (c_go hO hTP (by omega) (fun M2 hO2 hf => ?_))
    refine v_iconst dX8_readEnd_18 ?_
    exact v_zret dX8_readEnd_19 rfl (Nat.le_refl _) (Nat.le_refl _) (Or.inr rfl) (hp 1 M2 hf.x (Or.inl ⟨rfl, by omega, hO2, (hf.2 _ hmr.symm).trans hrd⟩))
  · refine v_aload_0 dX8_readEnd_8 ?_
    refine v_iconst dX8_readEnd_9 ?_
    refine l_X8_86 rfl dX8_readEnd_10 hm ⟨Nat.le_of_ble_eq_true rfl, Nat.le_of_ble_eq_true rfl⟩ (Nat.le_of_ble_eq_true rfl) ⟨Nat.le_refl _, Nat.le_refl _⟩ (c_bad hO hrd hmr (fun M2 hF hf => ?_))
    exact v_zret dX8_readEnd_13 rfl (Nat.le_refl _) (Nat.le_refl _) (Or.inl rfl) (hp 0 M2 hf.x (Or.inr ⟨rfl, by omega, by rw [ite_self] at hF; exact hF⟩))

set_option maxRecDepth 100000 in
theorem c_two {E : Ev} {M : Mem} {Post : Option Value → Mem → Prop} {a b : Int} (ha : I32 a) (hb : I32 b) (hp : Post (some (jv (27 * (a - 96) + b - 96))) M) : Cn E rX8_two mX8_two [iv a, iv b] M Post := by
  refine Cn.of (L := [some (iv a), some (iv b)]) (by decide) (Nat.le_of_ble_eq_true rfl) rfl ?_
  refine v_ldc2 (v := 27) dX8_two_0 (pl 745 (by decide +kernel)) ?_
  refine v_iload_0 dX8_two_3 ?_
  refine v_i2l dX8_two_4 ha ?_
  refine v_ldc2 (v := 96) dX8_two_5 (pl 746 (by decide +kernel)) ?_
  refine v_lsub dX8_two_8 ?_
  refine v_lmul dX8_two_9 ?_
  refine v_iload_1 dX8_two_10 ?_
  refine v_i2l dX8_two_11 hb ?_
  refine v_ladd dX8_two_12 ?_
  refine v_ldc2 (v := 96) dX8_two_13 (pl 746 (by decide +kernel)) ?_
  refine v_lsub dX8_two_16 ?_
  exact v_lret dX8_two_17 rfl (Nat.le_refl _) (Nat.le_refl _) hp

set_option maxRecDepth 100000 in
theorem c_four {E : Ev} {M : Mem} {Post : Option Value → Mem → Prop} {a b c d : Int} (ha : I32 a) (hb : I32 b) (hc : I32 c) (hd : I32 d) (hp : Post (some (jv (729 * (27 * (a - 96) + b - 96) + (27 * (c - 96) + d - 96)))) M) : Cn E rX8_four mX8_four [iv a, iv b, iv c, iv d] M Post := by
  refine Cn.of (L := [some (iv a), some (iv b), some (iv c), some (iv d)]) (by decide) (Nat.le_of_ble_eq_true rfl) rfl ?_
  refine v_ldc2 (v := 729) dX8_four_0 (pl 758 (by decide +kernel)) ?_
  refine v_iload_0 dX8_four_3 ?_
  refine v_iload_1 dX8_four_4 ?_
  refine l_X8_54 rfl dX8_four_5 ⟨Nat.le_of_ble_eq_true rfl, Nat.le_of_ble_eq_true rfl⟩ (Nat.le_of_ble_eq_true rfl) ⟨Nat.le_refl _, Nat.le_refl _⟩ (c_two ha hb ?_)
  refine v_lmul dX8_four_8 ?_
  refine v_iload_2 dX8_four_9 ?_
  refine v_iload_3 dX8_four_10 ?_
  refine l_X8_54 rfl dX8_four_11 ⟨Nat.le_of_ble_eq_true rfl, Nat.le_of_ble_eq_true rfl⟩ (Nat.le_of_ble_eq_true rfl) ⟨Nat.le_refl _, Nat.le_refl _⟩ (c_two hc hd ?_)
  refine v_ladd dX8_four_14 ?_
  exact v_lret dX8_four_15 rfl (Nat.le_refl _) (Nat.le_refl _) hp

set_option maxRecDepth 100000 in
theorem c_six {E : Ev} {M : Mem} {Post : Option Value → Mem → Prop} {a b c d e f : Int} (ha : I32 a) (hb : I32 b) (hc : I32 c) (hd : I32 d) (he : I32 e) (hf : I32 f) (hp : Post (some (jv (729 * (729 * (27 * (a - 96) + b - 96) + (27 * (c - 96) + d - 96)) + (27 * (e - 96) + f - 96)))) M) : Cn E rX8_six mX8_six [iv a, iv b, iv c, iv d, iv e, iv f] M Post := by
  refine Cn.of (L := [some (iv a), some (iv b), some (iv c), some (iv d), some (iv e), some (iv f)]) (by decide) (Nat.le_of_ble_eq_true rfl) rfl ?_
  refine v_ldc2 (v := 729) dX8_six_0 (pl 758 (by decide +kernel)) ?_
  refine v_iload_0 dX8_six_3 ?_
  refine v_iload_1 dX8_six_4 ?_
  refine v_iload_2 dX8_six_5 ?_
  refine v_iload_3 dX8_six_6 ?_
  refine l_X8_58 rfl dX8_six_7 ⟨Nat.le_of_ble_eq_true rfl, Nat.le_of_ble_eq_true rfl⟩ (Nat.le_of_ble_eq_true rfl) ⟨Nat.le_refl _, Nat.le_refl _⟩ (c_four ha hb hc hd ?_)
  refine v_lmul dX8_six_10 ?_
  refine v_iload_4 dX8_six_11 ?_
  refine v_iload_5 dX8_six_13 ?_
  refine l_X8_54 rfl dX8_six_15 ⟨Nat.le_of_ble_eq_true rfl, Nat.le_of_ble_eq_true rfl⟩ (Nat.le_of_ble_eq_true rfl) ⟨Nat.le_refl _, Nat.le_refl _⟩ (c_two he hf ?_)
  refine v_ladd dX8_six_18 ?_
  exact v_lret dX8_six_19 rfl (Nat.le_refl _) (Nat.le_refl _) hp

theorem lc_0 {x y : Int} : (if y < x then (1 : Int) else if x = y then 0 else -1) = 0 ↔ x = y := by
  split
  · omega
  · split <;> omega
theorem wb_i {T : Int → Int} {L p : Int} (k : tkK T L p = 1) : -9223372036854775808 ≤ wdF T (tkS T L p) (min (tkB T L p - tkS T L p) 10).toNat ∧ wdF T (tkS T L p) (min (tkB T L p - tkS T L p) 10).toNat < 9223372036854775808 := by
  obtain ⟨w1, w2, w3, w4, w5⟩ := tk_word k
  rw [← w5, ← w4] at w2 w3
  have h := wd_pos (min (tkB T L p - tkS T L p) 10).toNat (fun j a b => w2 j a (by omega))
  have hm : (27 : Int) ^ (min (tkB T L p - tkS T L p) 10).toNat ≤ 27 ^ 10 := by
    have q := Nat.pow_le_pow_right (n := 27) (by decide) (show (min (tkB T L p - tkS T L p) 10).toNat ≤ 10 by omega)
    exact_mod_cast q
  have : (27 : Int) ^ 10 = 205891132094649 := rfl
  omega

set_option maxRecDepth 100000 in
theorem c_isWord {E : Ev} {M : Mem} {Post : Option Value → Mem → Prop} {m t rd : Nat} {T : Int → Int} {L p td ln : Int} {g : Nat → Value} (hO : RO E M m t rd T L p g td ln) (cs : List Int) (hcs : ∀ i : Nat, i < cs.length → Lt (cs.getD i 0)) (hl : cs.length ≤ 9) (hz0 : -9223372036854775808 ≤ wdL cs) (hz1 : wdL cs < 9223372036854775808) (hp : Post (some (iv (pI (isW T L cs p)))) M) : Cn E rX8_isWord mX8_isWord [rr E m, jv (wdL cs)] M Post := by
  obtain ⟨to, fr, so, nu, wd, hm, hk, ht, pa, pb⟩ := id hO
  have hs := hk.so
  have hn := hk.nu
  refine Cn.of (L := [some (rr E m), some (jv (wdL cs)), none]) (by decide) (Nat.le_of_ble_eq_true rfl) rfl ?_
  refine v_aload_0 dX8_isWord_0 ?_
  refine g_X8_27 rfl dX8_isWord_1 hm ?_
  refine v_iconst dX8_isWord_4 ?_
  refine v_icmp_ne (tgt := 21) dX8_isWord_5 rfl ⟨by omega, by omega⟩ ⟨by omega, by omega⟩ (fun c5 => ?_) (fun c5 => ?_)
  · refine v_iconst dX8_isWord_21 ?_
    exact v_zret dX8_isWord_22 rfl (Nat.le_refl _) (Nat.le_refl _) (by first | exact Or.inl rfl | exact Or.inr rfl | exact pI_01 _) (ret_f (fun q => c5 (hs.2.2.2.2.1.mpr q.1)) hp)
  · refine v_aload_0 dX8_isWord_8 ?_
    refine g_X8_37 rfl dX8_isWord_9 hm ?_
    refine v_lload_1 dX8_isWord_12 ?_
    have k1 := hs.2.2.2.2.1.mp (by omega)
    have hwb := wb_i k1
    rw [← hk.2.2.2.2 k1] at hwb
    refine v_lcmp dX8_isWord_13 hwb ⟨hz0, hz1⟩ ?_
    refine v_if_ne (tgt := 21) dX8_isWord_14 rfl (by split <;> (try split) <;> exact ⟨by decide, by decide⟩) (fun c14 => ?_) (fun c14 => ?_)
    · refine v_iconst dX8_isWord_21 ?_
      exact v_zret dX8_isWord_22 rfl (Nat.le_refl _) (Nat.le_refl _) (by first | exact Or.inl rfl | exact Or.inr rfl | exact pI_01 _) (ret_f (fun q => c14 ((lc_0).mpr ((hk.2.2.2.2 (hs.2.2.2.2.1.mp c5)).trans ((wd_isW cs hcs hl (hs.2.2.2.2.1.mp c5)).mpr q)))) hp)
    · refine v_iconst dX8_isWord_17 ?_
      refine v_goto (tgt := 22) dX8_isWord_18 rfl ?_
      exact v_zret dX8_isWord_22 rfl (Nat.le_refl _) (Nat.le_refl _) (by first | exact Or.inl rfl | exact Or.inr rfl | exact pI_01 _) (ret_t ((wd_isW cs hcs hl (hs.2.2.2.2.1.mp c5)).mp ((hk.2.2.2.2 (hs.2.2.2.2.1.mp c5)).symm.trans ((lc_0).mp c14))) hp)
