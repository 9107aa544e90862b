theorem puW_up {w : Int → Int} {s k h : Int} (hP : Pl w s k h) (y v : Int) : puW (upI w (atW s k h) y) s k h v = upI w (atW s k h) (v + 1) := by
  unfold puW
  rw [if_pos ((Pl_up hP y s k h).mpr hP), upI_up]
theorem puW_at {w : Int → Int} {s k h : Int} (hP : Pl w s k h) (v : Int) : puW w s k h v = upI w (atW s k h) (v + 1) := if_pos hP
theorem up_back {w : Int → Int} {s k h : Int} (hP : Pl w s k h) : upI w (atW s k h) (rdA w s k h + 1) = w := by
  rw [rd_pos' hP, Int.sub_add_cancel]
  exact upI_id w (atW s k h)

set_option maxRecDepth 100000 in
theorem c_X7_canCorrect {E : Ev} {M : Mem} {Post : Option Value → Mem → Prop} {x o : Nat} {f0 f1 f2 f4 : Value} {w : Int → Int} (hX : M[x]? = some (ob 7 [f0, f1, f2, rr E o, f4])) (hO : OffAt E M o w) (hw : WF w) {s k h : Int} (hs : I32 s) (hk : I32 k) (hh : I32 h) {v : Int} (hv : I32 v) (hp : Post (some (iv (pI (Cc w s k h v)))) M) : Cn E rX7_canCorrect mX7_canCorrect [rr E x, iv s, iv k, iv h, iv v] M Post := by
  refine Cn.of (L := [some (rr E x), some (iv s), some (iv k), some (iv h), some (iv v)]) (by decide) (Nat.le_of_ble_eq_true rfl) rfl ?_
  refine v_aload_0 dX7_canCorrect_0 ?_
  refine g_X7_35 rfl dX7_canCorrect_1 hX ?_
  refine v_iload_1 dX7_canCorrect_4 ?_
  refine v_iload_2 dX7_canCorrect_5 ?_
  refine v_iload_3 dX7_canCorrect_6 ?_
  refine l_X7_158 rfl dX7_canCorrect_7 hO.1 ⟨Nat.le_of_ble_eq_true rfl, Nat.le_of_ble_eq_true rfl⟩ (Nat.le_of_ble_eq_true rfl) ⟨Nat.le_refl _, Nat.le_refl _⟩ (c_X2_hasPlace hO hw.hr hs hk hh ?_)
  refine v_ifeq_b (tgt := 31) dX7_canCorrect_10 rfl (fun c => ?_) (fun c => ?_)
  · refine v_iconst dX7_canCorrect_31 ?_
    exact v_zret dX7_canCorrect_32 rfl (Nat.le_refl _) (Nat.le_refl _) (by first | exact Or.inl rfl | exact Or.inr rfl | exact pI_01 _) (ret_f (fun q => c q.1) hp)
  · refine v_iload_4 dX7_canCorrect_13 ?_
    refine v_iconst dX7_canCorrect_15 ?_
    refine v_icmp_lt (tgt := 31) dX7_canCorrect_16 rfl hv ⟨by omega, by omega⟩ (fun c16 => ?_) (fun c16 => ?_)
    · refine v_iconst dX7_canCorrect_31 ?_
      exact v_zret dX7_canCorrect_32 rfl (Nat.le_refl _) (Nat.le_refl _) (by first | exact Or.inl rfl | exact Or.inr rfl | exact pI_01 _) (ret_f (fun q => by omega) hp)
    · refine v_iload_4 dX7_canCorrect_19 ?_
      refine v_sipush dX7_canCorrect_21 (by decide) ?_
      refine v_icmp_gt (tgt := 31) dX7_canCorrect_24 rfl hv ⟨by omega, by omega⟩ (fun c24 => ?_) (fun c24 => ?_)
      · refine v_iconst dX7_canCorrect_31 ?_
        exact v_zret dX7_canCorrect_32 rfl (Nat.le_refl _) (Nat.le_refl _) (by first | exact Or.inl rfl | exact Or.inr rfl | exact pI_01 _) (ret_f (fun q => by omega) hp)
      · refine v_iconst dX7_canCorrect_27 ?_
        refine v_goto (tgt := 32) dX7_canCorrect_28 rfl ?_
        exact v_zret dX7_canCorrect_32 rfl (Nat.le_refl _) (Nat.le_refl _) (by first | exact Or.inl rfl | exact Or.inr rfl | exact pI_01 _) (ret_t ⟨c, by omega, by omega⟩ hp)

theorem ts_st0 (P : Int → Bool) {y : Int} (hy : 0 ≤ y) : tsN P (y + 1).toNat = tsN P y.toNat + (if P y = true then 2 ^ y.toNat else 0) := by
  have := ts_st P hy
  rwa [Int.sub_zero, Int.sub_zero] at this

set_option maxRecDepth 100000 in
theorem c_X7_touchedHours {E : Ev} {M : Mem} {Post : Option Value → Mem → Prop} {x o : Nat} {f0 f1 f2 f4 : Value} {w : Int → Int} (hX : M[x]? = some (ob 7 [f0, f1, f2, rr E o, f4])) (hO : OffAt E M o w) (hw : WF w) (hxo : x < o ∨ o + 26 ≤ x) {s k h : Int} (hs : I32 s) (hk : I32 k) (hh : I32 h) {v : Int} (hP : Pl w s k h) (v0 : -1 ≤ v) (v1 : v ≤ 999) (hp : ∀ M2, OffAt E M2 o w → Fr o (o + 26) M M2 → Post (some (iv (tcW w s k h v))) M2) : Cn E rX7_touchedHours mX7_touchedHours [rr E x, iv s, iv k, iv h, iv v] M Post := by
  have hw2 := hw.up (v := v) hP v0 v1
  have lp : ∀ (r : Nat) (y : Int) (M2 : Mem), (0 ≤ y) → (y ≤ 12) → (OffAt E M2 o w) → (Fr o (o + 26) M M2) → 12 - y < (r : Int) → V E rX7_touchedHours mX7_touchedHours (finM E rX7_touchedHours Post) 0 0 M2 18 [some (rr E x), some (iv s), some (iv k), some (iv h), some (iv v), some (iv (rdA w s k h)), some (iv (tsN (tcB w s k h v) y.toNat)), some (iv y), none, none] [] := by
    intro r
    induction r with
    | zero => intro y M2 h_0 h_1 h_2 h_3 hz; exact absurd hz (by omega)
    | succ r ih =>
      intro y M2 h_0 h_1 h_2 h_3 hz
      refine v_iload_7 dX7_touchedHours_18 ?_
      refine v_bipush dX7_touchedHours_20 (by decide) ?_
      have hO2 := h_2
      have hF2 := h_3
      have hX2 := hF2.at hX hxo
      refine v_icmp_ge (tgt := 99) dX7_touchedHours_22 rfl ⟨by omega, by omega⟩ ⟨by omega, by omega⟩ (fun c22 => ?_) (fun c22 => ?_)
      · refine v_iload_6 dX7_touchedHours_99 ?_
        exact v_iret dX7_touchedHours_101 rfl (Nat.le_refl _) (Nat.le_refl _) (by have t := hp M2 hO2 hF2; rw [show y = 12 by omega]; exact t)
      · refine v_aload_0 dX7_touchedHours_25 ?_
        refine g_X7_35 rfl dX7_touchedHours_26 hX2 ?_
        refine v_iload_1 dX7_touchedHours_29 ?_
        refine v_iload_3 dX7_touchedHours_30 ?_
        refine v_iload_7 dX7_touchedHours_31 ?_
        refine v_iadd dX7_touchedHours_33 ?_
        refine l_X7_133 rfl dX7_touchedHours_34 hO2.1 ⟨Nat.le_of_ble_eq_true rfl, Nat.le_of_ble_eq_true rfl⟩ (Nat.le_of_ble_eq_true rfl) ⟨Nat.le_refl _, Nat.le_refl _⟩ (c_X2_indexAt hO2 hw hs ⟨by omega, by omega⟩ ?_)
        refine v_istore_8 dX7_touchedHours_37 (Nat.le_of_ble_eq_true rfl) rfl ?_
        refine v_aload_0 dX7_touchedHours_39 ?_
        refine g_X7_35 rfl dX7_touchedHours_40 hX2 ?_
        refine v_iload_1 dX7_touchedHours_43 ?_
        refine v_iload_2 dX7_touchedHours_44 ?_
        refine v_iload_3 dX7_touchedHours_45 ?_
        refine v_iload_4 dX7_touchedHours_46 ?_
        refine l_X7_165 rfl dX7_touchedHours_48 hO2.1 ⟨Nat.le_of_ble_eq_true rfl, Nat.le_of_ble_eq_true rfl⟩ (Nat.le_of_ble_eq_true rfl) ⟨Nat.le_refl _, Nat.le_refl _⟩ (c_X2_putRead hO2 hw.hr hw.p5 hs hk hh (fun M3 hO3 hF3 => ?_))
        rw [puW_at hP] at hO3
        have hX3 := hF3.at hX2 hxo
        refine v_aload_0 dX7_touchedHours_51 ?_
        refine g_X7_35 rfl dX7_touchedHours_52 hX3 ?_
        refine v_iload_1 dX7_touchedHours_55 ?_
        refine v_iload_3 dX7_touchedHours_56 ?_
        refine v_iload_7 dX7_touchedHours_57 ?_
        refine v_iadd dX7_touchedHours_59 ?_
        refine l_X7_133 rfl dX7_touchedHours_60 hO3.1 ⟨Nat.le_of_ble_eq_true rfl, Nat.le_of_ble_eq_true rfl⟩ (Nat.le_of_ble_eq_true rfl) ⟨Nat.le_refl _, Nat.le_refl _⟩ (c_X2_indexAt hO3 hw2 hs ⟨by omega, by omega⟩ ?_)
        refine v_istore_9 dX7_touchedHours_63 (Nat.le_of_ble_eq_true rfl) rfl ?_
        refine v_aload_0 dX7_touchedHours_65 ?_
        refine g_X7_35 rfl dX7_touchedHours_66 hX3 ?_
        refine v_iload_1 dX7_touchedHours_69 ?_
        refine v_iload_2 dX7_touchedHours_70 ?_
        refine v_iload_3 dX7_touchedHours_71 ?_
        refine v_iload_5 dX7_touchedHours_72 ?_
        refine l_X7_165 rfl dX7_touchedHours_74 hO3.1 ⟨Nat.le_of_ble_eq_true rfl, Nat.le_of_ble_eq_true rfl⟩ (Nat.le_of_ble_eq_true rfl) ⟨Nat.le_refl _, Nat.le_refl _⟩ (c_X2_putRead hO3 hw2.hr hw2.p5 hs hk hh (fun M4 hO4 hF4 => ?_))
        rw [puW_up hP, up_back hP] at hO4
        have b1 := ix_bd hw s (h + y)
        have b2 := ix_bd hw2 s (h + y)
        refine v_iload_9 dX7_touchedHours_77 ?_
        refine v_iload_8 dX7_touchedHours_79 ?_
        refine v_icmp_eq (tgt := 93) dX7_touchedHours_81 rfl ⟨by omega, by omega⟩ ⟨by omega, by omega⟩ (fun c81 => ?_) (fun c81 => ?_)
        · refine v_iinc_7 dX7_touchedHours_93 (Nat.le_of_ble_eq_true rfl) rfl ?_
          refine v_goto (tgt := 18) dX7_touchedHours_96 rfl ?_
          exact v_weak [some (rr E x), some (iv s), some (iv k), some (iv h), some (iv v), some (iv (rdA w s k h)), some (iv (tsN (tcB w s k h v) (y + 1).toNat)), some (iv (y + 1)), none, none] ⟨rfl, rfl, rfl, rfl, rfl, rfl, by rw [ts_st0 _ h_0, if_neg (by unfold tcB; rw [c81]; simp), Int.add_zero], rfl, trivial⟩ (ih (y + 1) M4 (by omega) (by omega) hO4 (hF2.tr (hF3.tr hF4)) (by omega))
        · refine v_iload_6 dX7_touchedHours_84 ?_
          refine v_iconst dX7_touchedHours_86 ?_
          refine v_iload_7 dX7_touchedHours_87 ?_
          refine v_ishl dX7_touchedHours_89 (by have t := shl_one y.toNat (by omega); rwa [toNat_cast (by omega)] at t) ?_
          refine v_ior dX7_touchedHours_90 (by have t := ts_bd (tcB w s k h v) y.toNat; exact or_add _ (by omega) t.1 t.2) ?_
          refine v_istore_6 dX7_touchedHours_91 (Nat.le_of_ble_eq_true rfl) rfl ?_
          refine v_iinc_7 dX7_touchedHours_93 (Nat.le_of_ble_eq_true rfl) rfl ?_
          refine v_goto (tgt := 18) dX7_touchedHours_96 rfl ?_
          exact v_weak [some (rr E x), some (iv s), some (iv k), some (iv h), some (iv v), some (iv (rdA w s k h)), some (iv (tsN (tcB w s k h v) (y + 1).toNat)), some (iv (y + 1)), none, none] ⟨rfl, rfl, rfl, rfl, rfl, rfl, by rw [ts_st0 _ h_0, if_pos (by unfold tcB; exact decide_eq_true c81)], rfl, trivial⟩ (ih (y + 1) M4 (by omega) (by omega) hO4 (hF2.tr (hF3.tr hF4)) (by omega))
  refine Cn.of (L := [some (rr E x), some (iv s), some (iv k), some (iv h), some (iv v), none, none, none, none, none]) (by decide) (Nat.le_of_ble_eq_true rfl) rfl ?_
  refine v_aload_0 dX7_touchedHours_0 ?_
  refine g_X7_35 rfl dX7_touchedHours_1 hX ?_
  refine v_iload_1 dX7_touchedHours_4 ?_
  refine v_iload_2 dX7_touchedHours_5 ?_
  refine v_iload_3 dX7_touchedHours_6 ?_
  refine l_X7_113 rfl dX7_touchedHours_7 hO.1 ⟨Nat.le_of_ble_eq_true rfl, Nat.le_of_ble_eq_true rfl⟩ (Nat.le_of_ble_eq_true rfl) ⟨Nat.le_refl _, Nat.le_refl _⟩ (c_X2_readAt hO hw.hr hs hk hh ?_)
  refine v_istore_5 dX7_touchedHours_10 (Nat.le_of_ble_eq_true rfl) rfl ?_
  refine v_iconst dX7_touchedHours_12 ?_
  refine v_istore_6 dX7_touchedHours_13 (Nat.le_of_ble_eq_true rfl) rfl ?_
  refine v_iconst dX7_touchedHours_15 ?_
  refine v_istore_7 dX7_touchedHours_16 (Nat.le_of_ble_eq_true rfl) rfl ?_
  exact v_weak [some (rr E x), some (iv s), some (iv k), some (iv h), some (iv v), some (iv (rdA w s k h)), some (iv (tsN (tcB w s k h v) (0 : Int).toNat)), some (iv (0 : Int)), none, none] ⟨rfl, rfl, rfl, rfl, rfl, rfl, rfl, rfl, trivial⟩ (lp 13 0 M (by omega) (by omega) hO Fr.rf (by omega))

set_option maxRecDepth 100000 in
theorem c_X7_touches {E : Ev} {M : Mem} {Post : Option Value → Mem → Prop} {x o : Nat} {f0 f1 f2 f4 : Value} {w : Int → Int} (hX : M[x]? = some (ob 7 [f0, f1, f2, rr E o, f4])) (hO : OffAt E M o w) (hw : WF w) (hxo : x < o ∨ o + 26 ≤ x) {s k h : Int} (hs : I32 s) (hk : I32 k) (hh : I32 h) {v : Int} (hv : I32 v) (hp : ∀ M2, OffAt E M2 o w → Fr o (o + 26) M M2 → Post (some (iv (qTc w s k h v))) M2) : Cn E rX7_touches mX7_touches [rr E x, iv s, iv k, iv h, iv v] M Post := by
  refine Cn.of (L := [some (rr E x), some (iv s), some (iv k), some (iv h), some (iv v)]) (by decide) (Nat.le_of_ble_eq_true rfl) rfl ?_
  refine v_aload_0 dX7_touches_0 ?_
  refine v_iload_1 dX7_touches_1 ?_
  refine v_iload_2 dX7_touches_2 ?_
  refine v_iload_3 dX7_touches_3 ?_
  refine v_iload_4 dX7_touches_4 ?_
  refine l_X7_169 rfl dX7_touches_6 hX ⟨Nat.le_of_ble_eq_true rfl, Nat.le_of_ble_eq_true rfl⟩ (Nat.le_of_ble_eq_true rfl) ⟨Nat.le_refl _, Nat.le_refl _⟩ (c_X7_canCorrect hX hO hw hs hk hh hv ?_)
  refine v_ifne_b (tgt := 14) dX7_touches_9 rfl (fun hC => ?_) (fun hC => ?_)
  · refine v_aload_0 dX7_touches_14 ?_
    refine v_iload_1 dX7_touches_15 ?_
    refine v_iload_2 dX7_touches_16 ?_
    refine v_iload_3 dX7_touches_17 ?_
    refine v_iload_4 dX7_touches_18 ?_
    refine l_X7_173 rfl dX7_touches_20 hX ⟨Nat.le_of_ble_eq_true rfl, Nat.le_of_ble_eq_true rfl⟩ (Nat.le_of_ble_eq_true rfl) ⟨Nat.le_refl _, Nat.le_refl _⟩ (c_X7_touchedHours hX hO hw hxo hs hk hh hC.1 hC.2.1 hC.2.2 (fun M2 hO2 hF2 => ?_))
    exact v_iret dX7_touches_23 rfl (Nat.le_refl _) (Nat.le_refl _) (by have t := hp M2 hO2 hF2; unfold qTc at t; rw [if_pos hC] at t; exact t)
  · refine v_iconst dX7_touches_12 ?_
    exact v_iret dX7_touches_13 rfl (Nat.le_refl _) (Nat.le_refl _) (by have t := hp M hO Fr.rf; unfold qTc at t; rw [if_neg hC] at t; exact t)

set_option maxRecDepth 100000 in
theorem lp_X7_keeps {E : Ev} {M : Mem} {Post : Option Value → Mem → Prop} {x o : Nat} {f0 f1 f2 f4 : Value} {w : Int → Int} (hX : M[x]? = some (ob 7 [f0, f1, f2, rr E o, f4])) (hO : OffAt E M o w) (hw : WF w) (hxo : x < o ∨ o + 26 ≤ x) {s k b : Int} (hs : I32 s) (hk : I32 k) (hP : Pl w s k (w 0 - 1)) (b0 : 0 ≤ b) (b1 : b ≤ 2) (hp : ∀ M2, OffAt E M2 o w → Fr o (o + 26) M M2 → Post (some (iv (qKp w s k b))) M2) : V E rX7_keeps mX7_keeps (finM E rX7_keeps Post) 0 0 M 67 [some (rr E x), some (iv s), some (iv k), some (iv b), some (iv (w 0 - 1)), some (iv (w (4 + b))), some (iv (rdA w s k (w 0 - 1))), some (iv (-1)), some (iv 512), none, none] [] := by
  have lp : ∀ (j : Nat) (les u : Int) (M2 : Mem), j ≤ 10 → bsI (kpB w s k b) les j → -1 ≤ u → u ≤ 999 → OffAt E M2 o (upI w (atW s k (w 0 - 1)) (u + 1)) → Fr o (o + 26) M M2 → V E rX7_keeps mX7_keeps (finM E rX7_keeps Post) 0 0 M2 67 [some (rr E x), some (iv s), some (iv k), some (iv b), some (iv (w 0 - 1)), some (iv (w (4 + b))), some (iv (rdA w s k (w 0 - 1))), some (iv les), some (iv (stp j)), none, none] [] := by
    intro j
    induction j with
    | zero =>
      intro les u M2 h_0 h_1 h_2 h_3 h_4 h_5
      have hw2 := hw.up (v := u) hP h_2 h_3
      have hX2 := h_5.at hX hxo
      refine v_iload_8 dX7_keeps_67 ?_
      refine v_if_le (tgt := 141) dX7_keeps_69 rfl ⟨by decide, by decide⟩ (fun c69 => ?_) (fun c69 => absurd c69 (by decide))
      refine v_aload_0 dX7_keeps_141 ?_
      refine g_X7_35 rfl dX7_keeps_142 hX2 ?_
      refine v_iload_1 dX7_keeps_145 ?_
      refine v_iload_2 dX7_keeps_146 ?_
      refine v_iload_4 dX7_keeps_147 ?_
      refine v_iload_6 dX7_keeps_149 ?_
      refine l_X7_165 rfl dX7_keeps_151 h_4.1 ⟨Nat.le_of_ble_eq_true rfl, Nat.le_of_ble_eq_true rfl⟩ (Nat.le_of_ble_eq_true rfl) ⟨Nat.le_refl _, Nat.le_refl _⟩ (c_X2_putRead h_4 hw2.hr hw2.p5 hs hk ⟨by have := hw.1; omega, by have := hw.1; omega⟩ (fun M3 hO3 hF3 => ?_))
      rw [puW_up hP, up_back hP] at hO3
      refine v_iload_7 dX7_keeps_154 ?_
      refine v_if_ge (tgt := 164) dX7_keeps_156 rfl ⟨by have := h_1.1; omega, by have := h_1.2.1; omega⟩ (fun c156 => ?_) (fun c156 => ?_)
      · refine v_iload_7 dX7_keeps_164 ?_
        exact v_iret dX7_keeps_166 rfl (Nat.le_refl _) (Nat.le_refl _) (by have t := hp M3 hO3 (h_5.tr hF3); unfold qKp at t; rw [if_pos ⟨hP, b0, b1⟩, gl_bs (kp_dn hw hP) h_1, if_neg (by omega)] at t; exact t)
      · refine v_bipush dX7_keeps_159 (by decide) ?_
        refine v_goto (tgt := 166) dX7_keeps_161 rfl ?_
        exact v_iret dX7_keeps_166 rfl (Nat.le_refl _) (Nat.le_refl _) (by have t := hp M3 hO3 (h_5.tr hF3); unfold qKp at t; rw [if_pos ⟨hP, b0, b1⟩, gl_bs (kp_dn hw hP) h_1, if_pos (by omega)] at t; exact t)
    | succ j ih =>
      intro les u M2 h_0 h_1 h_2 h_3 h_4 h_5
      have hw2 := hw.up (v := u) hP h_2 h_3
      have hX2 := h_5.at hX hxo
      refine v_iload_8 dX7_keeps_67 ?_
      have sb := stp_bd (j + 1) h_0
      have sp := stp_pos j (by omega)
      have i1 := h_1.1
      have i2 := h_1.2.1
      refine v_if_le (tgt := 141) dX7_keeps_69 rfl ⟨by omega, by omega⟩ (fun c69 => absurd c69 (by omega)) (fun c69 => ?_)
      refine v_iload_7 dX7_keeps_72 ?_
      refine v_iload_8 dX7_keeps_74 ?_
      refine v_iadd dX7_keeps_76 ?_
      refine v_istore_9 dX7_keeps_77 (Nat.le_of_ble_eq_true rfl) rfl ?_
      refine v_iload_9 dX7_keeps_79 ?_
      refine v_sipush dX7_keeps_81 (by decide) ?_
      refine v_icmp_le (tgt := 90) dX7_keeps_84 rfl ⟨by omega, by omega⟩ ⟨by omega, by omega⟩ (fun c84 => ?_) (fun c84 => ?_)
      · refine v_aload_0 dX7_keeps_90 ?_
        refine g_X7_35 rfl dX7_keeps_91 hX2 ?_
        refine v_iload_1 dX7_keeps_94 ?_
        refine v_iload_2 dX7_keeps_95 ?_
        refine v_iload_4 dX7_keeps_96 ?_
        refine v_iload_9 dX7_keeps_98 ?_
        refine l_X7_165 rfl dX7_keeps_100 h_4.1 ⟨Nat.le_of_ble_eq_true rfl, Nat.le_of_ble_eq_true rfl⟩ (Nat.le_of_ble_eq_true rfl) ⟨Nat.le_refl _, Nat.le_refl _⟩ (c_X2_putRead h_4 hw2.hr hw2.p5 hs hk ⟨by have := hw.1; omega, by have := hw.1; omega⟩ (fun M3 hO3 hF3 => ?_))
        rw [puW_up hP] at hO3
        have hX3 := hF3.at hX2 hxo
        have hw3 := hw.up (v := (les + stp (j + 1))) hP (by omega) (by omega)
        have b3 := ix_bd hw3 s (w 0 - 1)
        refine v_aload_0 dX7_keeps_103 ?_
        refine g_X7_35 rfl dX7_keeps_104 hX3 ?_
        refine v_iload_1 dX7_keeps_107 ?_
        refine v_iload_4 dX7_keeps_108 ?_
        refine l_X7_133 rfl dX7_keeps_110 hO3.1 ⟨Nat.le_of_ble_eq_true rfl, Nat.le_of_ble_eq_true rfl⟩ (Nat.le_of_ble_eq_true rfl) ⟨Nat.le_refl _, Nat.le_refl _⟩ (c_X2_indexAt hO3 hw3 hs ⟨by have := hw.1; omega, by have := hw.1; omega⟩ ?_)
        refine v_istore_10 dX7_keeps_113 (Nat.le_of_ble_eq_true rfl) rfl ?_
        refine v_iload_10 dX7_keeps_115 ?_
        refine v_iconst dX7_keeps_117 ?_
        refine v_icmp_eq (tgt := 132) dX7_keeps_118 rfl ⟨by omega, by omega⟩ ⟨by omega, by omega⟩ (fun c118 => ?_) (fun c118 => ?_)
        · refine v_iload_8 dX7_keeps_132 ?_
          refine v_iconst dX7_keeps_134 ?_
          refine v_idiv dX7_keeps_135 (by omega) (by omega) (by omega) (by omega) ?_
          refine v_istore_8 dX7_keeps_136 (Nat.le_of_ble_eq_true rfl) rfl ?_
          refine v_goto (tgt := 67) dX7_keeps_138 rfl ?_
          exact v_weak [some (rr E x), some (iv s), some (iv k), some (iv b), some (iv (w 0 - 1)), some (iv (w (4 + b))), some (iv (rdA w s k (w 0 - 1))), some (iv les), some (iv (stp j)), none, none] ⟨rfl, rfl, rfl, rfl, rfl, rfl, rfl, rfl, by rw [stp_div j (by omega)], trivial⟩ (ih les (les + stp (j + 1)) M3 (by omega) (bs_no h_1 (Or.inr (decide_eq_false (fun q => q.1 c118)))) (by omega) (by omega) hO3 (h_5.tr hF3))
        · refine v_iload_10 dX7_keeps_121 ?_
          refine v_iload_5 dX7_keeps_123 ?_
          refine v_icmp_ge (tgt := 132) dX7_keeps_125 rfl ⟨by omega, by omega⟩ (bands_bd hw b0 (by omega)) (fun c125 => ?_) (fun c125 => ?_)
          · refine v_iload_8 dX7_keeps_132 ?_
            refine v_iconst dX7_keeps_134 ?_
            refine v_idiv dX7_keeps_135 (by omega) (by omega) (by omega) (by omega) ?_
            refine v_istore_8 dX7_keeps_136 (Nat.le_of_ble_eq_true rfl) rfl ?_
            refine v_goto (tgt := 67) dX7_keeps_138 rfl ?_
            exact v_weak [some (rr E x), some (iv s), some (iv k), some (iv b), some (iv (w 0 - 1)), some (iv (w (4 + b))), some (iv (rdA w s k (w 0 - 1))), some (iv les), some (iv (stp j)), none, none] ⟨rfl, rfl, rfl, rfl, rfl, rfl, rfl, rfl, by rw [stp_div j (by omega)], trivial⟩ (ih les (les + stp (j + 1)) M3 (by omega) (bs_no h_1 (Or.inr (decide_eq_false (fun q => by have := q.2; omega)))) (by omega) (by omega) hO3 (h_5.tr hF3))
          · refine v_iload_9 dX7_keeps_128 ?_
            refine v_istore_7 dX7_keeps_130 (Nat.le_of_ble_eq_true rfl) rfl ?_
            refine v_iload_8 dX7_keeps_132 ?_
            refine v_iconst dX7_keeps_134 ?_
            refine v_idiv dX7_keeps_135 (by omega) (by omega) (by omega) (by omega) ?_
            refine v_istore_8 dX7_keeps_136 (Nat.le_of_ble_eq_true rfl) rfl ?_
            refine v_goto (tgt := 67) dX7_keeps_138 rfl ?_
            exact v_weak [some (rr E x), some (iv s), some (iv k), some (iv b), some (iv (w 0 - 1)), some (iv (w (4 + b))), some (iv (rdA w s k (w 0 - 1))), some (iv (les + stp (j + 1))), some (iv (stp j)), none, none] ⟨rfl, rfl, rfl, rfl, rfl, rfl, rfl, rfl, by rw [stp_div j (by omega)], trivial⟩ (ih (les + stp (j + 1)) (les + stp (j + 1)) M3 (by omega) (bs_yes h_1 sp (by omega) (decide_eq_true ⟨c118, by omega⟩)) (by omega) (by omega) hO3 (h_5.tr hF3))
      · refine v_goto (tgt := 132) dX7_keeps_87 rfl ?_
        refine v_iload_8 dX7_keeps_132 ?_
        refine v_iconst dX7_keeps_134 ?_
        refine v_idiv dX7_keeps_135 (by omega) (by omega) (by omega) (by omega) ?_
        refine v_istore_8 dX7_keeps_136 (Nat.le_of_ble_eq_true rfl) rfl ?_
        refine v_goto (tgt := 67) dX7_keeps_138 rfl ?_
        exact v_weak [some (rr E x), some (iv s), some (iv k), some (iv b), some (iv (w 0 - 1)), some (iv (w (4 + b))), some (iv (rdA w s k (w 0 - 1))), some (iv les), some (iv (stp j)), none, none] ⟨rfl, rfl, rfl, rfl, rfl, rfl, rfl, rfl, by rw [stp_div j (by omega)], trivial⟩ (ih les u M2 (by omega) (bs_no h_1 (Or.inl (by omega))) (by omega) (by omega) h_4 h_5)
  have rb := rd_bd hw s k (w 0 - 1)
  exact lp 10 (-1) (rdA w s k (w 0 - 1)) M (by omega) (bs_start _) rb.1 rb.2 (by rw [up_back hP]; exact hO) Fr.rf

set_option maxRecDepth 100000 in
theorem c_X7_keeps {E : Ev} {M : Mem} {Post : Option Value → Mem → Prop} {x o : Nat} {f0 f1 f2 f4 : Value} {w : Int → Int} (hX : M[x]? = some (ob 7 [f0, f1, f2, rr E o, f4])) (hO : OffAt E M o w) (hw : WF w) (hxo : x < o ∨ o + 26 ≤ x) {s k b : Int} (hs : I32 s) (hk : I32 k) (hb : I32 b) (hp : ∀ M2, OffAt E M2 o w → Fr o (o + 26) M M2 → Post (some (iv (qKp w s k b))) M2) : Cn E rX7_keeps mX7_keeps [rr E x, iv s, iv k, iv b] M Post := by
  refine Cn.of (L := [some (rr E x), some (iv s), some (iv k), some (iv b), none, none, none, none, none, none, none]) (by decide) (Nat.le_of_ble_eq_true rfl) rfl ?_
  refine v_aload_0 dX7_keeps_0 ?_
  refine g_X7_35 rfl dX7_keeps_1 hX ?_
  refine g_X7_94 rfl dX7_keeps_4 hO.1 ?_
  refine v_iconst dX7_keeps_7 ?_
  refine v_isub dX7_keeps_8 ?_
  refine v_istore_4 dX7_keeps_9 (Nat.le_of_ble_eq_true rfl) rfl ?_
  refine v_aload_0 dX7_keeps_11 ?_
  refine g_X7_35 rfl dX7_keeps_12 hX ?_
  refine v_iload_1 dX7_keeps_15 ?_
  refine v_iload_2 dX7_keeps_16 ?_
  refine v_iload_4 dX7_keeps_17 ?_
  refine l_X7_158 rfl dX7_keeps_19 hO.1 ⟨Nat.le_of_ble_eq_true rfl, Nat.le_of_ble_eq_true rfl⟩ (Nat.le_of_ble_eq_true rfl) ⟨Nat.le_refl _, Nat.le_refl _⟩ (c_X2_hasPlace hO hw.hr hs hk ⟨by have := hw.1; omega, by have := hw.1; omega⟩ ?_)
  refine v_ifeq_b (tgt := 34) dX7_keeps_22 rfl (fun hP => ?_) (fun hP => ?_)
  · refine v_iconst dX7_keeps_34 ?_
    exact v_iret dX7_keeps_35 rfl (Nat.le_refl _) (Nat.le_refl _) (by have t := hp M hO Fr.rf; unfold qKp at t; rw [if_neg (fun q => hP q.1)] at t; exact t)
  · refine v_iload_3 dX7_keeps_25 ?_
    refine v_if_lt (tgt := 34) dX7_keeps_26 rfl hb (fun c26 => ?_) (fun c26 => ?_)
    · refine v_iconst dX7_keeps_34 ?_
      exact v_iret dX7_keeps_35 rfl (Nat.le_refl _) (Nat.le_refl _) (by have t := hp M hO Fr.rf; unfold qKp at t; rw [if_neg (fun q => by omega)] at t; exact t)
    · refine v_iload_3 dX7_keeps_29 ?_
      refine v_iconst dX7_keeps_30 ?_
      refine v_icmp_lt (tgt := 36) dX7_keeps_31 rfl hb ⟨by omega, by omega⟩ (fun c31 => ?_) (fun c31 => ?_)
      · refine v_aload_0 dX7_keeps_36 ?_
        refine g_X7_35 rfl dX7_keeps_37 hX ?_
        refine v_iload_3 dX7_keeps_40 ?_
        refine l_X7_162 rfl dX7_keeps_41 hO.1 ⟨Nat.le_of_ble_eq_true rfl, Nat.le_of_ble_eq_true rfl⟩ (Nat.le_of_ble_eq_true rfl) ⟨Nat.le_refl _, Nat.le_refl _⟩ (c_X2_bandStart hO hb ?_)
        rw [if_pos ⟨by omega, by omega⟩]
        refine v_istore_5 dX7_keeps_44 (Nat.le_of_ble_eq_true rfl) rfl ?_
        refine v_aload_0 dX7_keeps_46 ?_
        refine g_X7_35 rfl dX7_keeps_47 hX ?_
        refine v_iload_1 dX7_keeps_50 ?_
        refine v_iload_2 dX7_keeps_51 ?_
        refine v_iload_4 dX7_keeps_52 ?_
        refine l_X7_113 rfl dX7_keeps_54 hO.1 ⟨Nat.le_of_ble_eq_true rfl, Nat.le_of_ble_eq_true rfl⟩ (Nat.le_of_ble_eq_true rfl) ⟨Nat.le_refl _, Nat.le_refl _⟩ (c_X2_readAt hO hw.hr hs hk ⟨by have := hw.1; omega, by have := hw.1; omega⟩ ?_)
        refine v_istore_6 dX7_keeps_57 (Nat.le_of_ble_eq_true rfl) rfl ?_
        refine v_iconst dX7_keeps_59 ?_
        refine v_istore_7 dX7_keeps_60 (Nat.le_of_ble_eq_true rfl) rfl ?_
        refine v_sipush dX7_keeps_62 (by decide) ?_
        refine v_istore_8 dX7_keeps_65 (Nat.le_of_ble_eq_true rfl) rfl ?_
        exact lp_X7_keeps hX hO hw hxo hs hk hP (by omega) (by omega) hp
      · refine v_iconst dX7_keeps_34 ?_
        exact v_iret dX7_keeps_35 rfl (Nat.le_refl _) (Nat.le_refl _) (by have t := hp M hO Fr.rf; unfold qKp at t; rw [if_neg (fun q => by omega)] at t; exact t)
