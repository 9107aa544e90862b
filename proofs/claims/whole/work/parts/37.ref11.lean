def llW (w : Int → Int) (k i : Int) : Int := if i = 0 then 0 else w (10 + 13 * k + 2 * (i - 1)) + 1
def liW (w : Int → Int) (k i : Int) : Int := if i = 0 then 0 else w (11 + 13 * k + 2 * (i - 1))
/-- one point -/
def ptS (T : Int → Int) (L k i p : Int) (w : Int → Int) : Rs RW := nmS T L p (llW w k i) 999 fun a p1 => if i = 5 then .inl (3, tkS T L p) else nmS T L p1 (liW w k i) 500 fun b p2 => .inr (p2, ptW w k i a b)
theorem pt_ll (w : Int → Int) {k i : Int} (h : 0 ≤ i) (a b : Int) : llW (ptW w k i a b) k (i + 1) = a + 1 := by
  unfold llW ptW
  rw [if_neg (by omega), show i + 1 - 1 = i by omega, upI_n _ _ (by omega), upI_n _ _ (by omega), upI_s]
theorem pt_li (w : Int → Int) {k i : Int} (h : 0 ≤ i) (a b : Int) : liW (ptW w k i a b) k (i + 1) = b := by
  unfold liW ptW
  rw [if_neg (by omega), show i + 1 - 1 = i by omega, upI_n _ _ (by omega), upI_s]
theorem pts_st {β : Type} {T : Int → Int} {L k i p : Int} {w : Int → Int} (h0 : 0 ≤ i) (h5 : i ≤ 5) (K : RW → Rs β) : bnS (sPts T L k (5 - i).toNat i (llW w k i) (liW w k i) p w) K = if 2 ≤ i ∧ tkK T L p = 3 then K (p, w) else bnS (ptS T L k i p w) (fun r => bnS (sPts T L k (5 - (i + 1)).toNat (i + 1) (llW r.2 k (i + 1)) (liW r.2 k (i + 1)) r.1 r.2) K) := by
  by_cases e : i = 5
  · subst e
    rw [show (5 - 5 : Int).toNat = 0 from rfl, sPts]
    by_cases c : tkK T L p = 3
    · rw [if_pos c, if_pos ⟨by omega, c⟩]; rfl
    · rw [if_neg c, if_neg (fun q => c q.2)]
      unfold ptS nmS
      split
      · split
        · dsimp only
          rw [if_pos rfl]; rfl
        · rfl
      · rfl
  · rw [show (5 - i).toNat = (5 - (i + 1)).toNat + 1 by omega, sPts]
    by_cases c : 2 ≤ i ∧ tkK T L p = 3
    · rw [if_pos c, if_pos c]; rfl
    · rw [if_neg c, if_neg c]
      unfold ptS nmS
      split
      · split
        · dsimp only
          try rw [if_neg e]
          split
          · split
            · show bnS (sPts _ _ _ _ _ _ _ _ _) K = bnS (sPts _ _ _ _ _ (llW (ptW _ _ _ _ _) _ _) (liW (ptW _ _ _ _ _) _ _) _ (ptW _ _ _ _ _)) K
              rw [pt_ll w h0, pt_li w h0]
            · rfl
          · rfl
        · rfl
      · rfl
theorem pt_row (ws : Int → Int) {k i : Int} (h0 : 0 ≤ k) (h3 : k < 3) (i0 : 0 ≤ i) (a b : Int) : upI (upI (upI (upI ws 1 k) (10 + 13 * k + 2 * i) a) (11 + 13 * k + 2 * i) b) (9 + 13 * k) (i + 1) = upI (ptW ws k i a b) 1 k := by
  funext j
  unfold ptW
  by_cases e : j = 1
  · rw [e, upI_s, upI_n _ _ (by omega), upI_n _ _ (by omega), upI_n _ _ (by omega), upI_s]
  · rw [upI_n (upI _ _ _) _ e]
    by_cases e1 : j = 9 + 13 * k
    · rw [e1, upI_s, upI_s]
    · rw [upI_n _ _ e1, upI_n _ _ e1]
      by_cases e2 : j = 11 + 13 * k + 2 * i
      · rw [e2, upI_s, upI_s]
      · rw [upI_n _ _ e2, upI_n _ _ e2]
        by_cases e3 : j = 10 + 13 * k + 2 * i
        · rw [e3, upI_s, upI_s]
        · rw [upI_n _ _ e3, upI_n _ _ e3, upI_n _ _ e]

set_option maxRecDepth 100000 in
theorem c_readPoint_0 {E : Ev} {M : Mem} {Post : Option Value → Mem → Prop} {m t rd : Nat} {T : Int → Int} {L p td ln : Int} {g : Nat → Value} (hO : RO E M m t rd T L p g td ln) (hTP : TP T L) {ws : Int → Int} {k i : Int} (hrd : M[rd]? = some (ia E 0 770 (upI ws 1 k))) (hmr : m ≠ rd) (htr : t ≠ rd) (k0 : 0 ≤ k) (k3 : k < 3) (hi : ws (9 + 13 * k) = i) (i0 : i = 0) (hp : ∀ (z : Int) (M2 : Mem), Fx m rd M M2 → ((z = 1 ∧ ∃ p2 w2, ptS T L k i p ws = .inr (p2, w2) ∧ RO E M2 m t rd T L p2 g td ln ∧ M2[rd]? = some (ia E 0 770 (upI w2 1 k)) ∧ w2 (9 + 13 * k) = i + 1 ∧ w2 1 = ws 1 ∧ i < 5) ∨ (z = 0 ∧ ∃ f pl, ptS T L k i p ws = .inl (f, pl) ∧ RFl E M2 m t rd T L g f pl)) → Post (some (iv z)) M2) : Cn E rX8_readPoint mX8_readPoint [rr E m, iv (7 + 13 * k)] M Post := by
  obtain ⟨to, fr, so, nu, wd, hm, hk, ht, pa, pb⟩ := id hO
  have hs := hk.so
  have hn := hk.nu
  have hll : llW ws k i = 0 := if_pos i0
  have hli : liW ws k i = 0 := if_pos i0
  refine Cn.of (L := [some (rr E m), some (iv (7 + 13 * k)), none, none]) (by decide) (Nat.le_of_ble_eq_true rfl) rfl ?_
  refine v_aload_0 dX8_readPoint_0 ?_
  refine g_X8_77 rfl dX8_readPoint_1 hm ?_
  refine v_iload_1 dX8_readPoint_4 ?_
  refine v_iconst dX8_readPoint_5 ?_
  refine v_iadd dX8_readPoint_6 ?_
  refine v_iaload dX8_readPoint_7 hrd (by omega) (by omega) (by decide) ?_
  rw [show upI ws 1 k (7 + 13 * k + 2) = i by rw [upI_n _ _ (by omega), show 7 + 13 * k + 2 = 9 + 13 * k by omega]; exact hi]
  refine v_istore_2 dX8_readPoint_8 (Nat.le_of_ble_eq_true rfl) rfl ?_
  refine v_iload_1 dX8_readPoint_9 ?_
  refine v_iconst dX8_readPoint_10 ?_
  refine v_iadd dX8_readPoint_11 ?_
  refine v_iconst dX8_readPoint_12 ?_
  refine v_iload_2 dX8_readPoint_13 ?_
  refine v_imul dX8_readPoint_14 ?_
  refine v_iadd dX8_readPoint_15 ?_
  refine v_istore_3 dX8_readPoint_16 (Nat.le_of_ble_eq_true rfl) rfl ?_
  refine v_aload_0 dX8_readPoint_17 ?_
  refine g_X8_27 rfl dX8_readPoint_18 hm ?_
  refine v_iconst dX8_readPoint_21 ?_
  refine v_icmp_eq (tgt := 31) dX8_readPoint_22 rfl ⟨by omega, by omega⟩ ⟨by omega, by omega⟩ (fun c22 => ?_) (fun c22 => ?_)
  · refine v_aload_0 dX8_readPoint_31 ?_
    refine g_X8_41 rfl dX8_readPoint_32 hm ?_
    refine v_iload_2 dX8_readPoint_35 ?_
    refine v_if_ne (tgt := 43) dX8_readPoint_36 rfl ⟨by omega, by omega⟩ (fun c36 => absurd c36 (by omega)) (fun c36 => ?_)
    refine v_iconst dX8_readPoint_39 ?_
    refine v_goto (tgt := 53) dX8_readPoint_40 rfl ?_
    refine v_sipush dX8_readPoint_53 (by decide) ?_
    have n2 := hn (by omega)
    refine l_X8_89 rfl dX8_readPoint_56 ⟨Nat.le_of_ble_eq_true rfl, Nat.le_of_ble_eq_true rfl⟩ (Nat.le_of_ble_eq_true rfl) ⟨Nat.le_refl _, Nat.le_refl _⟩ (c_X8_isIn ⟨by omega, by omega⟩ ⟨by omega, by omega⟩ ⟨by omega, by omega⟩ ?_)
    refine v_ifne_b (tgt := 68) dX8_readPoint_59 rfl (fun c59 => ?_) (fun c59 => ?_)
    · refine v_iload_2 dX8_readPoint_68 ?_
      refine v_iconst dX8_readPoint_69 ?_
      refine v_icmp_ne (tgt := 79) dX8_readPoint_70 rfl ⟨by omega, by omega⟩ ⟨by omega, by omega⟩ (fun c70 => ?_) (fun c70 => absurd c70 (by omega))
      refine v_aload_0 dX8_readPoint_79 ?_
      refine g_X8_77 rfl dX8_readPoint_80 hm ?_
      refine v_iload_3 dX8_readPoint_83 ?_
      refine v_aload_0 dX8_readPoint_84 ?_
      refine g_X8_41 rfl dX8_readPoint_85 hm ?_
      refine v_iastore dX8_readPoint_88 hrd (by omega) (by omega) (by decide) ?_
      have okA : nmOk T L p (llW ws k i) 999 := ⟨by omega, by rw [hll]; omega, by omega⟩
      rw [(hn (by omega)).1, show 7 + 13 * k + 3 + 2 * i = 10 + 13 * k + 2 * i by omega]
      have hO1 := hO.rd (e := ia E 0 770 (upI (upI ws 1 k) (10 + 13 * k + 2 * i) (tkN T L p))) htr hmr
      obtain ⟨to1, fr1, so1, nu1, wd1, hm1, hk1, ht1, pa1, pb1⟩ := id hO1
      have hs1 := hk1.so
      have hn1 := hk1.nu
      have hrd1 := gs_eq (c := ia E 0 770 (upI (upI ws 1 k) (10 + 13 * k + 2 * i) (tkN T L p))) hrd
      have hx1 : Fx m rd M _ := Fx.sr (e := ia E 0 770 (upI (upI ws 1 k) (10 + 13 * k + 2 * i) (tkN T L p)))
      refine v_aload_0 dX8_readPoint_89 ?_
      refine l_X8_93 rfl dX8_readPoint_90 hm1 ⟨Nat.le_of_ble_eq_true rfl, Nat.le_of_ble_eq_true rfl⟩ (Nat.le_of_ble_eq_true rfl) ⟨Nat.le_refl _, Nat.le_refl _⟩ (c_go hO1 hTP (by omega) (fun M2 hO2 hf2 => ?_))
      obtain ⟨to2, fr2, so2, nu2, wd2, hm2, hk2, ht2, pa2, pb2⟩ := id hO2
      have hs2 := hk2.so
      have hn2 := hk2.nu
      have hx2 : Fx m rd M M2 := hx1.tr hf2.x
      have hrd2 := (hf2.2 _ hmr.symm).trans hrd1
      refine v_aload_0 dX8_readPoint_93 ?_
      refine v_iload_3 dX8_readPoint_94 ?_
      refine v_iconst dX8_readPoint_95 ?_
      refine v_iadd dX8_readPoint_96 ?_
      refine v_iload_2 dX8_readPoint_97 ?_
      refine v_if_ne (tgt := 105) dX8_readPoint_98 rfl ⟨by omega, by omega⟩ (fun c98 => absurd c98 (by omega)) (fun c98 => ?_)
      refine v_iconst dX8_readPoint_101 ?_
      refine v_goto (tgt := 113) dX8_readPoint_102 rfl ?_
      refine v_sipush dX8_readPoint_113 (by decide) ?_
      refine l_X8_102 rfl dX8_readPoint_116 hm2 ⟨Nat.le_of_ble_eq_true rfl, Nat.le_of_ble_eq_true rfl⟩ (Nat.le_of_ble_eq_true rfl) ⟨Nat.le_refl _, Nat.le_refl _⟩ (c_told hO2 hTP hrd2 hmr htr (by omega) (by omega) ⟨by omega, by omega⟩ ⟨by omega, by omega⟩ (fun z3 M3 hf3 hz3 => ?_))
      have hx3 : Fx m rd M M3 := hx2.tr hf3
      have hb3 : z3 = 0 ∨ z3 = 1 := by rcases hz3 with ⟨e, _⟩ | ⟨e, _⟩ <;> omega
      refine v_if_ne (tgt := 124) dX8_readPoint_119 rfl ⟨by omega, by omega⟩ (fun c3_ => ?_) (fun c3_ => ?_)
      · obtain ⟨-, ok3, hO3, hrd3⟩ := hz3.resolve_right (fun q => absurd q.1 (by omega))
        obtain ⟨to3, fr3, so3, nu3, wd3, hm3, hk3, ht3, pa3, pb3⟩ := id hO3
        have hs3 := hk3.so
        have hn3 := hk3.nu
        refine v_aload_0 dX8_readPoint_124 ?_
        refine g_X8_77 rfl dX8_readPoint_125 hm3 ?_
        refine v_iload_1 dX8_readPoint_128 ?_
        refine v_iconst dX8_readPoint_129 ?_
        refine v_iadd dX8_readPoint_130 ?_
        refine v_dup2ir dX8_readPoint_131 ?_
        refine v_iaload dX8_readPoint_132 hrd3 (by omega) (by omega) (by decide) ?_
        rw [show (upI (upI (upI ws 1 k) (10 + 13 * k + 2 * i) (tkN T L p)) (10 + 13 * k + 2 * i + 1) (tkN T L (tkB T L p))) (7 + 13 * k + 2) = i by rw [upI_n _ _ (by omega), upI_n _ _ (by omega), upI_n _ _ (by omega), show 7 + 13 * k + 2 = 9 + 13 * k by omega]; exact hi]
        refine v_iconst dX8_readPoint_133 ?_
        refine v_iadd dX8_readPoint_134 ?_
        refine v_iastore dX8_readPoint_135 hrd3 (by omega) (by omega) (by decide) ?_
        rw [show 10 + 13 * k + 2 * i + 1 = 11 + 13 * k + 2 * i by omega, show 7 + 13 * k + 2 = 9 + 13 * k by omega, pt_row ws k0 k3 (by omega)]
        refine v_iconst dX8_readPoint_136 ?_
        exact v_zret dX8_readPoint_137 rfl (Nat.le_refl _) (Nat.le_refl _) (Or.inr rfl) (hp 1 _ (hx3.tr Fx.sr) (Or.inl ⟨rfl, _, _, (by unfold ptS; rw [nm_ok okA, if_neg (by omega)]; exact nm_ok (by rw [hli]; exact ok3) _), hO3.rd htr hmr, gs_eq hrd3, upI_s _ _ _, (by unfold ptW; rw [upI_n _ _ (by omega), upI_n _ _ (by omega), upI_n _ _ (by omega)]), by omega⟩))
      · obtain ⟨-, ff3, no3, hF3⟩ := hz3.resolve_left (fun q => absurd q.1 (by omega))
        refine v_iconst dX8_readPoint_122 ?_
        exact v_zret dX8_readPoint_123 rfl (Nat.le_refl _) (Nat.le_refl _) (Or.inl rfl) (hp 0 _ hx3 (Or.inr ⟨rfl, _, _, (by unfold ptS; rw [nm_ok okA, if_neg (by omega)]; exact nm_no (by rw [hli]; exact no3) _), hF3⟩))
    · refine v_aload_0 dX8_readPoint_62 ?_
      refine v_iconst dX8_readPoint_63 ?_
      refine l_X8_86 rfl dX8_readPoint_64 hm ⟨Nat.le_of_ble_eq_true rfl, Nat.le_of_ble_eq_true rfl⟩ (Nat.le_of_ble_eq_true rfl) ⟨Nat.le_refl _, Nat.le_refl _⟩ (c_bad hO hrd hmr (fun Mb hFb hfb => ?_))
      exact v_zret dX8_readPoint_67 rfl (Nat.le_refl _) (Nat.le_refl _) (Or.inl rfl) (hp 0 _ (hfb.x) (Or.inr ⟨rfl, _, _, (by unfold ptS; exact nm_no (f := 2) (Or.inr ⟨by omega, by rw [hll]; omega, rfl⟩) _), (by rw [if_neg (by omega)] at hFb; exact hFb)⟩))
  · refine v_aload_0 dX8_readPoint_25 ?_
    refine v_iconst dX8_readPoint_26 ?_
    refine l_X8_86 rfl dX8_readPoint_27 hm ⟨Nat.le_of_ble_eq_true rfl, Nat.le_of_ble_eq_true rfl⟩ (Nat.le_of_ble_eq_true rfl) ⟨Nat.le_refl _, Nat.le_refl _⟩ (c_bad hO hrd hmr (fun Mb hFb hfb => ?_))
    exact v_zret dX8_readPoint_30 rfl (Nat.le_refl _) (Nat.le_refl _) (Or.inl rfl) (hp 0 _ (hfb.x) (Or.inr ⟨rfl, _, _, (by unfold ptS; exact nm_no (f := 1) (Or.inl ⟨by omega, rfl⟩) _), (by rw [ite_self] at hFb; exact hFb)⟩))

set_option maxRecDepth 100000 in
theorem c_readPoint_p {E : Ev} {M : Mem} {Post : Option Value → Mem → Prop} {m t rd : Nat} {T : Int → Int} {L p td ln : Int} {g : Nat → Value} (hO : RO E M m t rd T L p g td ln) (hTP : TP T L) {ws : Int → Int} {k i : Int} (hrd : M[rd]? = some (ia E 0 770 (upI ws 1 k))) (hmr : m ≠ rd) (htr : t ≠ rd) (k0 : 0 ≤ k) (k3 : k < 3) (hi : ws (9 + 13 * k) = i) (i0 : 1 ≤ i) (i5 : i ≤ 5) (hlb : 0 ≤ ws (10 + 13 * k + 2 * (i - 1)) ∧ ws (10 + 13 * k + 2 * (i - 1)) ≤ 999 ∧ 0 ≤ ws (11 + 13 * k + 2 * (i - 1)) ∧ ws (11 + 13 * k + 2 * (i - 1)) ≤ 500) (hp : ∀ (z : Int) (M2 : Mem), Fx m rd M M2 → ((z = 1 ∧ ∃ p2 w2, ptS T L k i p ws = .inr (p2, w2) ∧ RO E M2 m t rd T L p2 g td ln ∧ M2[rd]? = some (ia E 0 770 (upI w2 1 k)) ∧ w2 (9 + 13 * k) = i + 1 ∧ w2 1 = ws 1 ∧ i < 5) ∨ (z = 0 ∧ ∃ f pl, ptS T L k i p ws = .inl (f, pl) ∧ RFl E M2 m t rd T L g f pl)) → Post (some (iv z)) M2) : Cn E rX8_readPoint mX8_readPoint [rr E m, iv (7 + 13 * k)] M Post := by
  obtain ⟨to, fr, so, nu, wd, hm, hk, ht, pa, pb⟩ := id hO
  have hs := hk.so
  have hn := hk.nu
  have hll : llW ws k i = _ := if_neg (by omega)
  have hli : liW ws k i = _ := if_neg (by omega)
  refine Cn.of (L := [some (rr E m), some (iv (7 + 13 * k)), none, none]) (by decide) (Nat.le_of_ble_eq_true rfl) rfl ?_
  refine v_aload_0 dX8_readPoint_0 ?_
  refine g_X8_77 rfl dX8_readPoint_1 hm ?_
  refine v_iload_1 dX8_readPoint_4 ?_
  refine v_iconst dX8_readPoint_5 ?_
  refine v_iadd dX8_readPoint_6 ?_
  refine v_iaload dX8_readPoint_7 hrd (by omega) (by omega) (by decide) ?_
  rw [show upI ws 1 k (7 + 13 * k + 2) = i by rw [upI_n _ _ (by omega), show 7 + 13 * k + 2 = 9 + 13 * k by omega]; exact hi]
  refine v_istore_2 dX8_readPoint_8 (Nat.le_of_ble_eq_true rfl) rfl ?_
  refine v_iload_1 dX8_readPoint_9 ?_
  refine v_iconst dX8_readPoint_10 ?_
  refine v_iadd dX8_readPoint_11 ?_
  refine v_iconst dX8_readPoint_12 ?_
  refine v_iload_2 dX8_readPoint_13 ?_
  refine v_imul dX8_readPoint_14 ?_
  refine v_iadd dX8_readPoint_15 ?_
  refine v_istore_3 dX8_readPoint_16 (Nat.le_of_ble_eq_true rfl) rfl ?_
  refine v_aload_0 dX8_readPoint_17 ?_
  refine g_X8_27 rfl dX8_readPoint_18 hm ?_
  refine v_iconst dX8_readPoint_21 ?_
  refine v_icmp_eq (tgt := 31) dX8_readPoint_22 rfl ⟨by omega, by omega⟩ ⟨by omega, by omega⟩ (fun c22 => ?_) (fun c22 => ?_)
  · refine v_aload_0 dX8_readPoint_31 ?_
    refine g_X8_41 rfl dX8_readPoint_32 hm ?_
    refine v_iload_2 dX8_readPoint_35 ?_
    refine v_if_ne (tgt := 43) dX8_readPoint_36 rfl ⟨by omega, by omega⟩ (fun c36 => ?_) (fun c36 => absurd c36 (by omega))
    refine v_aload_0 dX8_readPoint_43 ?_
    refine g_X8_77 rfl dX8_readPoint_44 hm ?_
    refine v_iload_3 dX8_readPoint_47 ?_
    refine v_iconst dX8_readPoint_48 ?_
    refine v_isub dX8_readPoint_49 ?_
    refine v_iaload dX8_readPoint_50 hrd (by omega) (by omega) (by decide) ?_
    rw [show upI ws 1 k (7 + 13 * k + 3 + 2 * i - 2) = ws (10 + 13 * k + 2 * (i - 1)) by rw [upI_n _ _ (by omega)]; congr 1; omega]
    refine v_iconst dX8_readPoint_51 ?_
    refine v_iadd dX8_readPoint_52 ?_
    refine v_sipush dX8_readPoint_53 (by decide) ?_
    have n2 := hn (by omega)
    refine l_X8_89 rfl dX8_readPoint_56 ⟨Nat.le_of_ble_eq_true rfl, Nat.le_of_ble_eq_true rfl⟩ (Nat.le_of_ble_eq_true rfl) ⟨Nat.le_refl _, Nat.le_refl _⟩ (c_X8_isIn ⟨by omega, by omega⟩ ⟨by omega, by omega⟩ ⟨by omega, by omega⟩ ?_)
    refine v_ifne_b (tgt := 68) dX8_readPoint_59 rfl (fun c59 => ?_) (fun c59 => ?_)
    · refine v_iload_2 dX8_readPoint_68 ?_
      refine v_iconst dX8_readPoint_69 ?_
      refine v_icmp_ne (tgt := 79) dX8_readPoint_70 rfl ⟨by omega, by omega⟩ ⟨by omega, by omega⟩ (fun c70 => ?_) (fun c70 => ?_)
      · refine v_aload_0 dX8_readPoint_79 ?_
        refine g_X8_77 rfl dX8_readPoint_80 hm ?_
        refine v_iload_3 dX8_readPoint_83 ?_
        refine v_aload_0 dX8_readPoint_84 ?_
        refine g_X8_41 rfl dX8_readPoint_85 hm ?_
        refine v_iastore dX8_readPoint_88 hrd (by omega) (by omega) (by decide) ?_
        have okA : nmOk T L p (llW ws k i) 999 := ⟨by omega, by rw [hll]; omega, by omega⟩
        rw [(hn (by omega)).1, show 7 + 13 * k + 3 + 2 * i = 10 + 13 * k + 2 * i by omega]
        have hO1 := hO.rd (e := ia E 0 770 (upI (upI ws 1 k) (10 + 13 * k + 2 * i) (tkN T L p))) htr hmr
        obtain ⟨to1, fr1, so1, nu1, wd1, hm1, hk1, ht1, pa1, pb1⟩ := id hO1
        have hs1 := hk1.so
        have hn1 := hk1.nu
        have hrd1 := gs_eq (c := ia E 0 770 (upI (upI ws 1 k) (10 + 13 * k + 2 * i) (tkN T L p))) hrd
        have hx1 : Fx m rd M _ := Fx.sr (e := ia E 0 770 (upI (upI ws 1 k) (10 + 13 * k + 2 * i) (tkN T L p)))
        refine v_aload_0 dX8_readPoint_89 ?_
        refine l_X8_93 rfl dX8_readPoint_90 hm1 ⟨Nat.le_of_ble_eq_true rfl, Nat.le_of_ble_eq_true rfl⟩ (Nat.le_of_ble_eq_true rfl) ⟨Nat.le_refl _, Nat.le_refl _⟩ (c_go hO1 hTP (by omega) (fun M2 hO2 hf2 => ?_))
        obtain ⟨to2, fr2, so2, nu2, wd2, hm2, hk2, ht2, pa2, pb2⟩ := id hO2
        have hs2 := hk2.so
        have hn2 := hk2.nu
        have hx2 : Fx m rd M M2 := hx1.tr hf2.x
        have hrd2 := (hf2.2 _ hmr.symm).trans hrd1
        refine v_aload_0 dX8_readPoint_93 ?_
        refine v_iload_3 dX8_readPoint_94 ?_
        refine v_iconst dX8_readPoint_95 ?_
        refine v_iadd dX8_readPoint_96 ?_
        refine v_iload_2 dX8_readPoint_97 ?_
        refine v_if_ne (tgt := 105) dX8_readPoint_98 rfl ⟨by omega, by omega⟩ (fun c98 => ?_) (fun c98 => absurd c98 (by omega))
        refine v_aload_0 dX8_readPoint_105 ?_
        refine g_X8_77 rfl dX8_readPoint_106 hm2 ?_
        refine v_iload_3 dX8_readPoint_109 ?_
        refine v_iconst dX8_readPoint_110 ?_
        refine v_isub dX8_readPoint_111 ?_
        refine v_iaload dX8_readPoint_112 hrd2 (by omega) (by omega) (by decide) ?_
        rw [show (upI (upI ws 1 k) (10 + 13 * k + 2 * i) (tkN T L p)) (10 + 13 * k + 2 * i - 1) = ws (11 + 13 * k + 2 * (i - 1)) by rw [upI_n _ _ (by omega), upI_n _ _ (by omega)]; congr 1; omega]
        refine v_sipush dX8_readPoint_113 (by decide) ?_
        refine l_X8_102 rfl dX8_readPoint_116 hm2 ⟨Nat.le_of_ble_eq_true rfl, Nat.le_of_ble_eq_true rfl⟩ (Nat.le_of_ble_eq_true rfl) ⟨Nat.le_refl _, Nat.le_refl _⟩ (c_told hO2 hTP hrd2 hmr htr (by omega) (by omega) ⟨by omega, by omega⟩ ⟨by omega, by omega⟩ (fun z3 M3 hf3 hz3 => ?_))
        have hx3 : Fx m rd M M3 := hx2.tr hf3
        have hb3 : z3 = 0 ∨ z3 = 1 := by rcases hz3 with ⟨e, _⟩ | ⟨e, _⟩ <;> omega
        refine v_if_ne (tgt := 124) dX8_readPoint_119 rfl ⟨by omega, by omega⟩ (fun c3_ => ?_) (fun c3_ => ?_)
        · obtain ⟨-, ok3, hO3, hrd3⟩ := hz3.resolve_right (fun q => absurd q.1 (by omega))
          obtain ⟨to3, fr3, so3, nu3, wd3, hm3, hk3, ht3, pa3, pb3⟩ := id hO3
          have hs3 := hk3.so
          have hn3 := hk3.nu
          refine v_aload_0 dX8_readPoint_124 ?_
          refine g_X8_77 rfl dX8_readPoint_125 hm3 ?_
          refine v_iload_1 dX8_readPoint_128 ?_
          refine v_iconst dX8_readPoint_129 ?_
          refine v_iadd dX8_readPoint_130 ?_
          refine v_dup2ir dX8_readPoint_131 ?_
          refine v_iaload dX8_readPoint_132 hrd3 (by omega) (by omega) (by decide) ?_
          rw [show (upI (upI (upI ws 1 k) (10 + 13 * k + 2 * i) (tkN T L p)) (10 + 13 * k + 2 * i + 1) (tkN T L (tkB T L p))) (7 + 13 * k + 2) = i by rw [upI_n _ _ (by omega), upI_n _ _ (by omega), upI_n _ _ (by omega), show 7 + 13 * k + 2 = 9 + 13 * k by omega]; exact hi]
          refine v_iconst dX8_readPoint_133 ?_
          refine v_iadd dX8_readPoint_134 ?_
          refine v_iastore dX8_readPoint_135 hrd3 (by omega) (by omega) (by decide) ?_
          rw [show 10 + 13 * k + 2 * i + 1 = 11 + 13 * k + 2 * i by omega, show 7 + 13 * k + 2 = 9 + 13 * k by omega, pt_row ws k0 k3 (by omega)]
          refine v_iconst dX8_readPoint_136 ?_
          exact v_zret dX8_readPoint_137 rfl (Nat.le_refl _) (Nat.le_refl _) (Or.inr rfl) (hp 1 _ (hx3.tr Fx.sr) (Or.inl ⟨rfl, _, _, (by unfold ptS; rw [nm_ok okA, if_neg (by omega)]; exact nm_ok (by rw [hli]; exact ok3) _), hO3.rd htr hmr, gs_eq hrd3, upI_s _ _ _, (by unfold ptW; rw [upI_n _ _ (by omega), upI_n _ _ (by omega), upI_n _ _ (by omega)]), by omega⟩))
        · obtain ⟨-, ff3, no3, hF3⟩ := hz3.resolve_left (fun q => absurd q.1 (by omega))
          refine v_iconst dX8_readPoint_122 ?_
          exact v_zret dX8_readPoint_123 rfl (Nat.le_refl _) (Nat.le_refl _) (Or.inl rfl) (hp 0 _ hx3 (Or.inr ⟨rfl, _, _, (by unfold ptS; rw [nm_ok okA, if_neg (by omega)]; exact nm_no (by rw [hli]; exact no3) _), hF3⟩))
      · refine v_aload_0 dX8_readPoint_73 ?_
        refine v_iconst dX8_readPoint_74 ?_
        refine l_X8_86 rfl dX8_readPoint_75 hm ⟨Nat.le_of_ble_eq_true rfl, Nat.le_of_ble_eq_true rfl⟩ (Nat.le_of_ble_eq_true rfl) ⟨Nat.le_refl _, Nat.le_refl _⟩ (c_bad hO hrd hmr (fun Mb hFb hfb => ?_))
        exact v_zret dX8_readPoint_78 rfl (Nat.le_refl _) (Nat.le_refl _) (Or.inl rfl) (hp 0 _ (hfb.x) (Or.inr ⟨rfl, _, _, (by unfold ptS; rw [nm_ok ⟨by omega, by rw [hll]; omega, by omega⟩, if_pos (by omega)]), (by rw [if_neg (by omega)] at hFb; exact hFb)⟩))
    · refine v_aload_0 dX8_readPoint_62 ?_
      refine v_iconst dX8_readPoint_63 ?_
      refine l_X8_86 rfl dX8_readPoint_64 hm ⟨Nat.le_of_ble_eq_true rfl, Nat.le_of_ble_eq_true rfl⟩ (Nat.le_of_ble_eq_true rfl) ⟨Nat.le_refl _, Nat.le_refl _⟩ (c_bad hO hrd hmr (fun Mb hFb hfb => ?_))
      exact v_zret dX8_readPoint_67 rfl (Nat.le_refl _) (Nat.le_refl _) (Or.inl rfl) (hp 0 _ (hfb.x) (Or.inr ⟨rfl, _, _, (by unfold ptS; exact nm_no (f := 2) (Or.inr ⟨by omega, by rw [hll]; omega, rfl⟩) _), (by rw [if_neg (by omega)] at hFb; exact hFb)⟩))
  · refine v_aload_0 dX8_readPoint_25 ?_
    refine v_iconst dX8_readPoint_26 ?_
    refine l_X8_86 rfl dX8_readPoint_27 hm ⟨Nat.le_of_ble_eq_true rfl, Nat.le_of_ble_eq_true rfl⟩ (Nat.le_of_ble_eq_true rfl) ⟨Nat.le_refl _, Nat.le_refl _⟩ (c_bad hO hrd hmr (fun Mb hFb hfb => ?_))
    exact v_zret dX8_readPoint_30 rfl (Nat.le_refl _) (Nat.le_refl _) (Or.inl rfl) (hp 0 _ (hfb.x) (Or.inr ⟨rfl, _, _, (by unfold ptS; exact nm_no (f := 1) (Or.inl ⟨by omega, rfl⟩) _), (by rw [ite_self] at hFb; exact hFb)⟩))
