theorem OffAt.hdr2 {E : Ev} {M : Mem} {o : Nat} {w w2 : Int → Int} (h : OffAt E M o w) (h5 : P5 w) (hw : ∀ j, 0 < j → j ≠ 3 → w2 j = w j) {a b : Int} (e3 : w2 3 = a) (e0 : w2 0 = b) : OffAt E (M.set o (ob 2 [rr E (o + 1), rr E (o + 2), rr E (o + 3), rr E (o + 4), iv a, iv (w 1), iv (w 2), iv b])) o w2 := by
  subst e3 e0
  exact h.hdr h5 hw
theorem un_2 (w : Int → Int) (a b x : Int) (y : Int) (h : a ≠ b) : upI (upI (upI (upI w a x) b y) a (w a)) b (w b) = w := by
  funext j
  by_cases e : j = b
  · rw [e, upI_s]
  · rw [upI_n _ _ e]
    by_cases e2 : j = a
    · rw [e2, upI_s]
    · rw [upI_n _ _ e2, upI_n _ _ e, upI_n _ _ e2]
theorem un_1 (w : Int → Int) (a x : Int) : w = upI (upI w a x) a (w a) := by rw [upI_up, upI_id]
theorem HistG.less {E : Ev} {M : Mem} {hs n : Nat} {rows : Nat → Int → Int} {g : Int → Option Nat} {ad : Int → Nat} (h : HistG E M hs n rows g ad) (m : Nat) (hm : m ≤ n) : HistAt E (M.set hs (ob 1 [rr E (hs + 1), iv (m : Nat)])) hs m rows := by
  obtain ⟨h1, h2, h3, h4⟩ := h
  refine ⟨g, ad, gs_eq h1, gs_ne (by omega) h2, h3, fun j hj => ?_⟩
  obtain ⟨kd, s, k, x, bf, nb, q1, q2⟩ := h4 j hj
  have := h3.1 j (by omega) (by omega)
  exact ⟨kd, s, k, x, bf, nb, gs_ne (by omega) q1, fun q => q2 (by omega)⟩

set_option maxRecDepth 100000 in
theorem c_X7_pass {E : Ev} {M : Mem} {Post : Option Value → Mem → Prop} {x o hs : Nat} {f0 f1 f4 : Value} {w : Int → Int} (hX : M[x]? = some (ob 7 [f0, f1, rr E hs, rr E o, f4])) (hO : OffAt E M o w) (hw : WF w) (hxo : x < o ∨ o + 26 ≤ x) {n : Nat} {rows : Nat → Int → Int} (hH : HistAt E M hs n rows) (hn : n ≤ 10) (hr : rows n = w) (hxh : x < hs ∨ hs + 12 ≤ x) (hoh : o + 26 ≤ hs ∨ hs + 12 ≤ o) {z : Int} (hz : I32 z) (hp : Cp w z → ∀ M2, OffAt E M2 o (paW w z) → HistAt E M2 hs (bn n + 1) (pushR n rows (paW w z)) → Fr2 o hs M M2 → Post (some (iv (w 0 + z))) M2) (hq : ¬ Cp w z → Post (some (iv (-1))) M) : Cn E rX7_pass mX7_pass [rr E x, iv z] M Post := by
  have hbn := bn_le hn
  have hbr : br n rows (bn n) = w := (br_last hn rows).trans hr
  have hH0 := hH
  obtain ⟨g0, ad0, hG0⟩ := hH0
  refine Cn.of (L := [some (rr E x), some (iv z), none]) (by decide) (Nat.le_of_ble_eq_true rfl) rfl ?_
  refine v_iload_1 dX7_pass_0 ?_
  refine v_iconst dX7_pass_1 ?_
  refine v_icmp_lt (tgt := 25) dX7_pass_2 rfl hz ⟨by omega, by omega⟩ (fun c2 => ?_) (fun c2 => ?_)
  · refine v_iconst dX7_pass_25 ?_
    exact v_iret dX7_pass_26 rfl (Nat.le_refl _) (Nat.le_refl _) (hq (by omega))
  · refine v_iload_1 dX7_pass_5 ?_
    refine v_bipush dX7_pass_6 (by decide) ?_
    refine v_icmp_gt (tgt := 25) dX7_pass_8 rfl hz ⟨by omega, by omega⟩ (fun c8 => ?_) (fun c8 => ?_)
    · refine v_iconst dX7_pass_25 ?_
      exact v_iret dX7_pass_26 rfl (Nat.le_refl _) (Nat.le_refl _) (hq (by omega))
    · refine v_aload_0 dX7_pass_11 ?_
      refine g_X7_35 rfl dX7_pass_12 hX ?_
      have n0 := hw.1
      refine g_X7_94 rfl dX7_pass_15 hO.1 ?_
      refine v_iload_1 dX7_pass_18 ?_
      refine v_iadd dX7_pass_19 ?_
      refine v_bipush dX7_pass_20 (by decide) ?_
      refine v_icmp_le (tgt := 27) dX7_pass_22 rfl ⟨by omega, by omega⟩ ⟨by omega, by omega⟩ (fun c22 => ?_) (fun c22 => ?_)
      · refine v_aload_0 dX7_pass_27 ?_
        refine g_X7_28 rfl dX7_pass_28 hX ?_
        refine v_iconst dX7_pass_31 ?_
        refine l_X7_177 rfl dX7_pass_32 hG0.1 ⟨Nat.le_of_ble_eq_true rfl, Nat.le_of_ble_eq_true rfl⟩ (Nat.le_of_ble_eq_true rfl) ⟨Nat.le_refl _, Nat.le_refl _⟩ (c_X1_next hH hn (fun M2 a hP2 hF => ?_))
        have had := hP2.addr hbn
        have hX2 := hF.at hX (by omega)
        have hO2 := hO.fr (fun b b1 b2 => hF.2 b (by omega))
        have hQ := hP2
        obtain ⟨g1, ad1, -, -, -, -, -, s0, k0, x0, b0, n0, hA⟩ := hQ
        refine v_astore_2 dX7_pass_35 (Nat.le_of_ble_eq_true rfl) rfl ?_
        refine v_aload_2 dX7_pass_36 ?_
        refine v_aload_0 dX7_pass_37 ?_
        refine g_X7_35 rfl dX7_pass_38 hX2 ?_
        refine g_X7_94 rfl dX7_pass_41 hO2.1 ?_
        refine p_X7_192 rfl dX7_pass_44 hA ?_
        have n1 := hw.1
        have hH3 : HistAt E (M2.set a (ob 0 [iv 2, iv s0, iv k0, iv x0, iv (w 0), iv n0])) hs (bn n + 1) (pushR n rows (paW w z)) := hP2.fin hbn (Or.inr (Or.inl ⟨rfl, by rw [hbr]; exact un_1 w 0 _⟩))
        have hX3 := gs_ne (c := (ob 0 [iv 2, iv s0, iv k0, iv x0, iv (w 0), iv n0])) (show a ≠ x by omega) hX2
        have hO3 := hO2.fr (M2 := M2.set a (ob 0 [iv 2, iv s0, iv k0, iv x0, iv (w 0), iv n0])) (fun b b1 b2 => List.getElem?_set_ne (by omega))
        have hF3 : Fr2 o hs M (M2.set a (ob 0 [iv 2, iv s0, iv k0, iv x0, iv (w 0), iv n0])) := (hF.tr (Fr.set (by omega) (by omega))).h2
        refine v_aload_0 dX7_pass_47 ?_
        refine g_X7_35 rfl dX7_pass_48 hX3 ?_
        refine v_dupr dX7_pass_51 ?_
        refine g_X7_94 rfl dX7_pass_52 hO3.1 ?_
        refine v_iload_1 dX7_pass_55 ?_
        refine v_iadd dX7_pass_56 ?_
        refine p_X7_94 rfl dX7_pass_57 hO3.1 ?_
        have hO4 := hO3.hdr2 hw.p5 (w2 := paW w z) (fun j j0 j3 => upI_n w _ (by omega)) (upI_n w _ (by decide)) (upI_s w 0 _)
        refine v_aload_0 dX7_pass_60 ?_
        refine g_X7_35 rfl dX7_pass_61 (gs_ne (by omega) hX3) ?_
        refine g_X7_94 rfl dX7_pass_64 (gs_eq hO3.1) ?_
        exact v_iret dX7_pass_67 rfl (Nat.le_refl _) (Nat.le_refl _) (hp ⟨by omega, by omega, by omega⟩ _ hO4 (hH3.keep (fun b b1 b2 => List.getElem?_set_ne (by omega))) (hF3.tr (Fr.o2 (Fr.set (by omega) (by omega)))))
      · refine v_iconst dX7_pass_25 ?_
        exact v_iret dX7_pass_26 rfl (Nat.le_refl _) (Nat.le_refl _) (hq (by omega))

set_option maxRecDepth 100000 in
theorem c_X7_smooth {E : Ev} {M : Mem} {Post : Option Value → Mem → Prop} {x o hs : Nat} {f0 f1 f4 : Value} {w : Int → Int} (hX : M[x]? = some (ob 7 [f0, f1, rr E hs, rr E o, f4])) (hO : OffAt E M o w) (hw : WF w) (hxo : x < o ∨ o + 26 ≤ x) {n : Nat} {rows : Nat → Int → Int} (hH : HistAt E M hs n rows) (hn : n ≤ 10) (hr : rows n = w) (hxh : x < hs ∨ hs + 12 ≤ x) (hoh : o + 26 ≤ hs ∨ hs + 12 ≤ o) {z : Int} (hz : I32 z) (hp : Cs z → ∀ M2, OffAt E M2 o (smW w z) → HistAt E M2 hs (bn n + 1) (pushR n rows (smW w z)) → Fr2 o hs M M2 → Post (some (iv (w 3))) M2) (hq : ¬ Cs z → Post (some (iv (-1))) M) : Cn E rX7_smooth mX7_smooth [rr E x, iv z] M Post := by
  have hbn := bn_le hn
  have hbr : br n rows (bn n) = w := (br_last hn rows).trans hr
  have hH0 := hH
  obtain ⟨g0, ad0, hG0⟩ := hH0
  refine Cn.of (L := [some (rr E x), some (iv z), none]) (by decide) (Nat.le_of_ble_eq_true rfl) rfl ?_
  refine v_iload_1 dX7_smooth_0 ?_
  refine v_if_lt (tgt := 10) dX7_smooth_1 rfl hz (fun c1 => ?_) (fun c1 => ?_)
  · refine v_iconst dX7_smooth_10 ?_
    exact v_iret dX7_smooth_11 rfl (Nat.le_refl _) (Nat.le_refl _) (hq (by omega))
  · refine v_iload_1 dX7_smooth_4 ?_
    refine v_bipush dX7_smooth_5 (by decide) ?_
    refine v_icmp_le (tgt := 12) dX7_smooth_7 rfl hz ⟨by omega, by omega⟩ (fun c7 => ?_) (fun c7 => ?_)
    · refine v_aload_0 dX7_smooth_12 ?_
      refine g_X7_28 rfl dX7_smooth_13 hX ?_
      refine v_iconst dX7_smooth_16 ?_
      refine l_X7_177 rfl dX7_smooth_17 hG0.1 ⟨Nat.le_of_ble_eq_true rfl, Nat.le_of_ble_eq_true rfl⟩ (Nat.le_of_ble_eq_true rfl) ⟨Nat.le_refl _, Nat.le_refl _⟩ (c_X1_next hH hn (fun M2 a hP2 hF => ?_))
      have had := hP2.addr hbn
      have hX2 := hF.at hX (by omega)
      have hO2 := hO.fr (fun b b1 b2 => hF.2 b (by omega))
      have hQ := hP2
      obtain ⟨g1, ad1, -, -, -, -, -, s0, k0, x0, b0, n0, hA⟩ := hQ
      refine v_astore_2 dX7_smooth_20 (Nat.le_of_ble_eq_true rfl) rfl ?_
      refine v_aload_2 dX7_smooth_21 ?_
      refine v_aload_0 dX7_smooth_22 ?_
      refine g_X7_35 rfl dX7_smooth_23 hX2 ?_
      refine g_X7_107 rfl dX7_smooth_26 hO2.1 ?_
      refine p_X7_192 rfl dX7_smooth_29 hA ?_
      have hH3 : HistAt E (M2.set a (ob 0 [iv 3, iv s0, iv k0, iv x0, iv (w 3), iv n0])) hs (bn n + 1) (pushR n rows (smW w z)) := hP2.fin hbn (Or.inr (Or.inr (Or.inl ⟨rfl, by rw [hbr]; exact un_1 w 3 _⟩)))
      have hX3 := gs_ne (c := (ob 0 [iv 3, iv s0, iv k0, iv x0, iv (w 3), iv n0])) (show a ≠ x by omega) hX2
      have hO3 := hO2.fr (M2 := M2.set a (ob 0 [iv 3, iv s0, iv k0, iv x0, iv (w 3), iv n0])) (fun b b1 b2 => List.getElem?_set_ne (by omega))
      have hF3 : Fr2 o hs M (M2.set a (ob 0 [iv 3, iv s0, iv k0, iv x0, iv (w 3), iv n0])) := (hF.tr (Fr.set (by omega) (by omega))).h2
      refine v_aload_0 dX7_smooth_32 ?_
      refine g_X7_35 rfl dX7_smooth_33 hX3 ?_
      refine v_iload_1 dX7_smooth_36 ?_
      refine p_X7_107 rfl dX7_smooth_37 hO3.1 ?_
      have hO4 := hO3.hdr2 hw.p5 (w2 := smW w z) (fun j j0 j3 => upI_n w _ (by omega)) (upI_s w 3 _) (upI_n w _ (by decide))
      refine v_aload_2 dX7_smooth_40 ?_
      refine g_X7_192 rfl dX7_smooth_41 (gs_ne (by omega) (gs_eq hA)) ?_
      exact v_iret dX7_smooth_44 rfl (Nat.le_refl _) (Nat.le_refl _) (hp (by omega) _ hO4 (hH3.keep (fun b b1 b2 => List.getElem?_set_ne (by omega))) (hF3.tr (Fr.o2 (Fr.set (by omega) (by omega)))))
    · refine v_iconst dX7_smooth_10 ?_
      exact v_iret dX7_smooth_11 rfl (Nat.le_refl _) (Nat.le_refl _) (hq (by omega))

set_option maxRecDepth 100000 in
theorem c_X7_window_s {E : Ev} {M : Mem} {Post : Option Value → Mem → Prop} {x o hs : Nat} {f0 f1 f4 : Value} {w : Int → Int} (hX : M[x]? = some (ob 7 [f0, f1, rr E hs, rr E o, f4])) (hO : OffAt E M o w) (hw : WF w) (hxo : x < o ∨ o + 26 ≤ x) {n : Nat} {rows : Nat → Int → Int} (hH : HistAt E M hs n rows) (hn : n ≤ 10) (hr : rows n = w) (hxh : x < hs ∨ hs + 12 ≤ x) (hoh : o + 26 ≤ hs ∨ hs + 12 ≤ o) {k z y : Int} (hk : I32 k) (hz : I32 z) (hy : I32 y) (k0 : 0 ≤ k) (k1 : k < w 1) (k3 : k < 3) (hp : Cw w k z y → ∀ M2, OffAt E M2 o (wiW w k z y) → HistAt E M2 hs (bn n + 1) (pushR n rows (wiW w k z y)) → Fr2 o hs M M2 → Post (some (iv 1)) M2) (hq : ¬ Cw w k z y → Post (some (iv 0)) M) : Cn E rX7_window mX7_window [rr E x, iv k, iv z, iv y] M Post := by
  have hbn := bn_le hn
  have hbr : br n rows (bn n) = w := (br_last hn rows).trans hr
  have hH0 := hH
  obtain ⟨g0, ad0, hG0⟩ := hH0
  obtain ⟨p, q, nn, lv, ix, u1, u2, u3, u4⟩ := hO.sub k0 k3
  obtain ⟨v1, v2, v3, -⟩ := u4 k1
  subst v2 v3
  refine Cn.of (L := [some (rr E x), some (iv k), some (iv z), some (iv y), none, none]) (by decide) (Nat.le_of_ble_eq_true rfl) rfl ?_
  refine v_aload_0 dX7_window_0 ?_
  refine g_X7_35 rfl dX7_window_1 hX ?_
  refine v_iload_1 dX7_window_4 ?_
  refine l_X7_120 rfl dX7_window_5 hO.1 ⟨Nat.le_of_ble_eq_true rfl, Nat.le_of_ble_eq_true rfl⟩ (Nat.le_of_ble_eq_true rfl) ⟨Nat.le_refl _, Nat.le_refl _⟩ (c_X2_substanceAt hO hw.hr hk (fun _ _ _ => ?_) (fun q => absurd ⟨k0, k1, k3⟩ q))
  refine v_astore_4 dX7_window_8 (Nat.le_of_ble_eq_true rfl) rfl ?_
  refine v_aload_4 dX7_window_10 ?_
  refine v_ifnull_s dX7_window_12 ?_
  refine v_iload_2 dX7_window_15 ?_
  refine v_iconst dX7_window_16 ?_
  refine v_icmp_lt (tgt := 36) dX7_window_17 rfl hz ⟨by omega, by omega⟩ (fun c17 => ?_) (fun c17 => ?_)
  · refine v_iconst dX7_window_36 ?_
    exact v_zret dX7_window_37 rfl (Nat.le_refl _) (Nat.le_refl _) (Or.inl rfl) (hq (by omega))
  · refine v_iload_2 dX7_window_20 ?_
    refine v_bipush dX7_window_21 (by decide) ?_
    refine v_icmp_gt (tgt := 36) dX7_window_23 rfl hz ⟨by omega, by omega⟩ (fun c23 => ?_) (fun c23 => ?_)
    · refine v_iconst dX7_window_36 ?_
      exact v_zret dX7_window_37 rfl (Nat.le_refl _) (Nat.le_refl _) (Or.inl rfl) (hq (by omega))
    · refine v_iload_3 dX7_window_26 ?_
      refine v_iconst dX7_window_27 ?_
      refine v_icmp_lt (tgt := 36) dX7_window_28 rfl hy ⟨by omega, by omega⟩ (fun c28 => ?_) (fun c28 => ?_)
      · refine v_iconst dX7_window_36 ?_
        exact v_zret dX7_window_37 rfl (Nat.le_refl _) (Nat.le_refl _) (Or.inl rfl) (hq (by omega))
      · refine v_iload_3 dX7_window_31 ?_
        refine v_iload_2 dX7_window_32 ?_
        refine v_icmp_le (tgt := 38) dX7_window_33 rfl hy hz (fun c33 => ?_) (fun c33 => ?_)
        · refine v_aload_0 dX7_window_38 ?_
          refine g_X7_28 rfl dX7_window_39 hX ?_
          refine v_iconst dX7_window_42 ?_
          refine l_X7_177 rfl dX7_window_43 hG0.1 ⟨Nat.le_of_ble_eq_true rfl, Nat.le_of_ble_eq_true rfl⟩ (Nat.le_of_ble_eq_true rfl) ⟨Nat.le_refl _, Nat.le_refl _⟩ (c_X1_next hH hn (fun M2 a hP2 hF => ?_))
          have had := hP2.addr hbn
          have hX2 := hF.at hX (by omega)
          have hO2 := hO.fr (fun b b1 b2 => hF.2 b (by omega))
          have hQ := hP2
          obtain ⟨g1, ad1, -, -, -, -, -, s0, kk0, x0, b0, n0, hA⟩ := hQ
          refine v_astore_5 dX7_window_46 (Nat.le_of_ble_eq_true rfl) rfl ?_
          refine v_aload_5 dX7_window_48 ?_
          refine v_iload_1 dX7_window_50 ?_
          refine p_X7_186 rfl dX7_window_51 hA ?_
          refine v_aload_5 dX7_window_54 ?_
          refine v_aload_4 dX7_window_56 ?_
          refine g_X7_200 rfl dX7_window_58 (gs_ne (by omega) (hF.at u1 (by omega))) ?_
          refine p_X7_192 rfl dX7_window_61 (gs_eq hA) ?_
          rw [gs_gs]
          refine v_aload_5 dX7_window_64 ?_
          refine v_aload_4 dX7_window_66 ?_
          refine g_X7_203 rfl dX7_window_68 (gs_ne (by omega) (hF.at u1 (by omega))) ?_
          refine p_X7_206 rfl dX7_window_71 (gs_eq hA) ?_
          rw [gs_gs]
          have hH3 : HistAt E (M2.set a (ob 0 [iv 4, iv s0, iv k, iv x0, iv (w (7 + 13 * k)), iv (w (8 + 13 * k))])) hs (bn n + 1) (pushR n rows (wiW w k z y)) := hP2.fin hbn (Or.inr (Or.inr (Or.inr ⟨rfl, ⟨k0, by unfold wiW; rw [upI_n _ _ (by omega), upI_n _ _ (by omega)]; exact k1⟩, by rw [hbr]; exact (un_2 w _ _ _ _ (by omega)).symm⟩)))
          have hX3 := gs_ne (c := (ob 0 [iv 4, iv s0, iv k, iv x0, iv (w (7 + 13 * k)), iv (w (8 + 13 * k))])) (show a ≠ x by omega) hX2
          have hO3 := hO2.fr (M2 := M2.set a (ob 0 [iv 4, iv s0, iv k, iv x0, iv (w (7 + 13 * k)), iv (w (8 + 13 * k))])) (fun b b1 b2 => List.getElem?_set_ne (by omega))
          have hF3 : Fr2 o hs M (M2.set a (ob 0 [iv 4, iv s0, iv k, iv x0, iv (w (7 + 13 * k)), iv (w (8 + 13 * k))])) := (hF.tr (Fr.set (by omega) (by omega))).h2
          have hU3 : (M2.set a (ob 0 [iv 4, iv s0, iv k, iv x0, iv (w (7 + 13 * k)), iv (w (8 + 13 * k))]))[(o + 17 + 3 * k.toNat)]? = _ := (gs_ne (by omega) (hF.at u1 (by omega)))
          refine v_aload_4 dX7_window_74 ?_
          refine v_iload_2 dX7_window_76 ?_
          refine p_X7_200 rfl dX7_window_77 hU3 ?_
          refine v_aload_4 dX7_window_80 ?_
          refine v_iload_3 dX7_window_82 ?_
          refine p_X7_203 rfl dX7_window_83 (gs_eq hU3) ?_
          rw [gs_gs]
          have hO4 := hO3.win hw.p5 (x := z) (y := y) k0 k3 hU3 (fun _ => v1)
          refine v_iconst dX7_window_86 ?_
          exact v_zret dX7_window_87 rfl (Nat.le_refl _) (Nat.le_refl _) (Or.inr rfl) (hp ⟨⟨k0, k1⟩, by omega, by omega, by omega, by omega⟩ _ hO4 (hH3.keep (fun b b1 b2 => List.getElem?_set_ne (by omega))) (hF3.tr (Fr.o2 (Fr.set (by omega) (by omega)))))
        · refine v_iconst dX7_window_36 ?_
          exact v_zret dX7_window_37 rfl (Nat.le_refl _) (Nat.le_refl _) (Or.inl rfl) (hq (by omega))

set_option maxRecDepth 100000 in
theorem c_X7_window_n {E : Ev} {M : Mem} {Post : Option Value → Mem → Prop} {x o hs : Nat} {f0 f1 f4 : Value} {w : Int → Int} (hX : M[x]? = some (ob 7 [f0, f1, rr E hs, rr E o, f4])) (hO : OffAt E M o w) (hw : WF w) (hxo : x < o ∨ o + 26 ≤ x) {n : Nat} {rows : Nat → Int → Int} (hH : HistAt E M hs n rows) (hn : n ≤ 10) (hr : rows n = w) (hxh : x < hs ∨ hs + 12 ≤ x) (hoh : o + 26 ≤ hs ∨ hs + 12 ≤ o) {k z y : Int} (hk : I32 k) (hz : I32 z) (hy : I32 y) (kn : ¬ (0 ≤ k ∧ k < w 1)) (hp : Cw w k z y → ∀ M2, OffAt E M2 o (wiW w k z y) → HistAt E M2 hs (bn n + 1) (pushR n rows (wiW w k z y)) → Fr2 o hs M M2 → Post (some (iv 1)) M2) (hq : ¬ Cw w k z y → Post (some (iv 0)) M) : Cn E rX7_window mX7_window [rr E x, iv k, iv z, iv y] M Post := by
  refine Cn.of (L := [some (rr E x), some (iv k), some (iv z), some (iv y), none, none]) (by decide) (Nat.le_of_ble_eq_true rfl) rfl ?_
  refine v_aload_0 dX7_window_0 ?_
  refine g_X7_35 rfl dX7_window_1 hX ?_
  refine v_iload_1 dX7_window_4 ?_
  refine l_X7_120 rfl dX7_window_5 hO.1 ⟨Nat.le_of_ble_eq_true rfl, Nat.le_of_ble_eq_true rfl⟩ (Nat.le_of_ble_eq_true rfl) ⟨Nat.le_refl _, Nat.le_refl _⟩ (c_X2_substanceAt hO hw.hr hk (fun a b c => absurd ⟨a, b⟩ kn) (fun _ => ?_))
  refine v_astore_4 dX7_window_8 (Nat.le_of_ble_eq_true rfl) rfl ?_
  refine v_aload_4 dX7_window_10 ?_
  refine v_ifnull_n (tgt := 36) dX7_window_12 rfl ?_
  refine v_iconst dX7_window_36 ?_
  exact v_zret dX7_window_37 rfl (Nat.le_refl _) (Nat.le_refl _) (Or.inl rfl) (hq (fun c => kn c.1))

theorem c_X7_window {E : Ev} {M : Mem} {Post : Option Value → Mem → Prop} {x o hs : Nat} {f0 f1 f4 : Value} {w : Int → Int} (hX : M[x]? = some (ob 7 [f0, f1, rr E hs, rr E o, f4])) (hO : OffAt E M o w) (hw : WF w) (hxo : x < o ∨ o + 26 ≤ x) {n : Nat} {rows : Nat → Int → Int} (hH : HistAt E M hs n rows) (hn : n ≤ 10) (hr : rows n = w) (hxh : x < hs ∨ hs + 12 ≤ x) (hoh : o + 26 ≤ hs ∨ hs + 12 ≤ o) {k z y : Int} (hk : I32 k) (hz : I32 z) (hy : I32 y) (hp : Cw w k z y → ∀ M2, OffAt E M2 o (wiW w k z y) → HistAt E M2 hs (bn n + 1) (pushR n rows (wiW w k z y)) → Fr2 o hs M M2 → Post (some (iv 1)) M2) (hq : ¬ Cw w k z y → Post (some (iv 0)) M) : Cn E rX7_window mX7_window [rr E x, iv k, iv z, iv y] M Post := by
  by_cases c : 0 ≤ k ∧ k < w 1
  · exact c_X7_window_s hX hO hw hxo hH hn hr hxh hoh hk hz hy c.1 c.2 (by have := hw.2.1; omega) hp hq
  · exact c_X7_window_n hX hO hw hxo hH hn hr hxh hoh hk hz hy c hp hq

set_option maxRecDepth 100000 in
theorem c_X7_correct {E : Ev} {M : Mem} {Post : Option Value → Mem → Prop} {x o hs : Nat} {f0 f1 f4 : Value} {w : Int → Int} (hX : M[x]? = some (ob 7 [f0, f1, rr E hs, rr E o, f4])) (hO : OffAt E M o w) (hw : WF w) (hxo : x < o ∨ o + 26 ≤ x) {n : Nat} {rows : Nat → Int → Int} (hH : HistAt E M hs n rows) (hn : n ≤ 10) (hr : rows n = w) (hxh : x < hs ∨ hs + 12 ≤ x) (hoh : o + 26 ≤ hs ∨ hs + 12 ≤ o) {s k h v : Int} (hs1 : I32 s) (hk : I32 k) (hh : I32 h) (hv : I32 v) (hp : Cc w s k h v → ∀ M2, OffAt E M2 o (coW w s k h v) → HistAt E M2 hs (bn n + 1) (pushR n rows (coW w s k h v)) → Fr2 o hs M M2 → Post (some (iv (pcN (tcB w s k h v) 12))) M2) (hq : ¬ Cc w s k h v → Post (some (iv (-2))) M) : Cn E rX7_correct mX7_correct [rr E x, iv s, iv k, iv h, iv v] M Post := by
  have hbn := bn_le hn
  have hbr : br n rows (bn n) = w := (br_last hn rows).trans hr
  refine Cn.of (L := [some (rr E x), some (iv s), some (iv k), some (iv h), some (iv v), none, none]) (by decide) (Nat.le_of_ble_eq_true rfl) rfl ?_
  refine v_aload_0 dX7_correct_0 ?_
  refine v_iload_1 dX7_correct_1 ?_
  refine v_iload_2 dX7_correct_2 ?_
  refine v_iload_3 dX7_correct_3 ?_
  refine v_iload_4 dX7_correct_4 ?_
  refine l_X7_169 rfl dX7_correct_6 hX ⟨Nat.le_of_ble_eq_true rfl, Nat.le_of_ble_eq_true rfl⟩ (Nat.le_of_ble_eq_true rfl) ⟨Nat.le_refl _, Nat.le_refl _⟩ (c_X7_canCorrect hX hO hw hs1 hk hh hv ?_)
  refine v_ifne_b (tgt := 15) dX7_correct_9 rfl (fun hC => ?_) (fun hC => ?_)
  · refine v_aload_0 dX7_correct_15 ?_
    refine v_iload_1 dX7_correct_16 ?_
    refine v_iload_2 dX7_correct_17 ?_
    refine v_iload_3 dX7_correct_18 ?_
    refine v_iload_4 dX7_correct_19 ?_
    refine l_X7_173 rfl dX7_correct_21 hX ⟨Nat.le_of_ble_eq_true rfl, Nat.le_of_ble_eq_true rfl⟩ (Nat.le_of_ble_eq_true rfl) ⟨Nat.le_refl _, Nat.le_refl _⟩ (c_X7_touchedHours hX hO hw hxo hs1 hk hh hC.1 hC.2.1 hC.2.2 (fun M1 hO1 hF1 => ?_))
    have hX1 := hF1.at hX hxo
    have hH1 := hH.keep (fun b b1 b2 => hF1.2 b (by omega))
    obtain ⟨g2, ad2, hG1⟩ := id hH1
    refine v_istore_5 dX7_correct_24 (Nat.le_of_ble_eq_true rfl) rfl ?_
    refine v_aload_0 dX7_correct_26 ?_
    refine g_X7_28 rfl dX7_correct_27 hX1 ?_
    refine v_iconst dX7_correct_30 ?_
    refine l_X7_177 rfl dX7_correct_31 hG1.1 ⟨Nat.le_of_ble_eq_true rfl, Nat.le_of_ble_eq_true rfl⟩ (Nat.le_of_ble_eq_true rfl) ⟨Nat.le_refl _, Nat.le_refl _⟩ (c_X1_next hH1 hn (fun M2 a hP2 hF => ?_))
    have had := hP2.addr hbn
    have hX2 := hF.at hX1 (by omega)
    have hO2 := hO1.fr (fun b b1 b2 => hF.2 b (by omega))
    have hQ := hP2
    obtain ⟨g1, ad1, -, -, -, -, -, s0, k0, x0, b0, n0, hA⟩ := hQ
    refine v_astore_6 dX7_correct_34 (Nat.le_of_ble_eq_true rfl) rfl ?_
    refine v_aload_6 dX7_correct_36 ?_
    refine v_iload_1 dX7_correct_38 ?_
    refine p_X7_181 rfl dX7_correct_39 hA ?_
    refine v_aload_6 dX7_correct_42 ?_
    refine v_iload_2 dX7_correct_44 ?_
    refine p_X7_186 rfl dX7_correct_45 (gs_eq hA) ?_
    rw [gs_gs]
    refine v_aload_6 dX7_correct_48 ?_
    refine v_iload_3 dX7_correct_50 ?_
    refine p_X7_189 rfl dX7_correct_51 (gs_eq hA) ?_
    rw [gs_gs]
    refine v_aload_6 dX7_correct_54 ?_
    refine v_aload_0 dX7_correct_56 ?_
    refine g_X7_35 rfl dX7_correct_57 (gs_ne (by omega) hX2) ?_
    refine v_iload_1 dX7_correct_60 ?_
    refine v_iload_2 dX7_correct_61 ?_
    refine v_iload_3 dX7_correct_62 ?_
    refine l_X7_113 rfl dX7_correct_63 (gs_ne (by omega) hO2.1) ⟨Nat.le_of_ble_eq_true rfl, Nat.le_of_ble_eq_true rfl⟩ (Nat.le_of_ble_eq_true rfl) ⟨Nat.le_refl _, Nat.le_refl _⟩ (c_X2_readAt (hO2.fr (fun b b1 b2 => List.getElem?_set_ne (by omega))) hw.hr hs1 hk hh ?_)
    refine p_X7_192 rfl dX7_correct_66 (gs_eq hA) ?_
    rw [gs_gs]
    have hH3 : HistAt E (M2.set a (ob 0 [iv 1, iv s, iv k, iv h, iv (rdA w s k h), iv n0])) hs (bn n + 1) (pushR n rows (coW w s k h v)) := hP2.fin hbn (Or.inl ⟨rfl, (Pl_up hC.1 _ s k h).mpr hC.1, by rw [hbr]; unfold coW; rw [upI_up, up_back hC.1]⟩)
    have hX3 := gs_ne (c := (ob 0 [iv 1, iv s, iv k, iv h, iv (rdA w s k h), iv n0])) (show a ≠ x by omega) hX2
    have hO3 := hO2.fr (M2 := M2.set a (ob 0 [iv 1, iv s, iv k, iv h, iv (rdA w s k h), iv n0])) (fun b b1 b2 => List.getElem?_set_ne (by omega))
    have hF3 : Fr2 o hs M1 (M2.set a (ob 0 [iv 1, iv s, iv k, iv h, iv (rdA w s k h), iv n0])) := (hF.tr (Fr.set (by omega) (by omega))).h2
    refine v_aload_0 dX7_correct_69 ?_
    refine g_X7_35 rfl dX7_correct_70 hX3 ?_
    refine v_iload_1 dX7_correct_73 ?_
    refine v_iload_2 dX7_correct_74 ?_
    refine v_iload_3 dX7_correct_75 ?_
    refine v_iload_4 dX7_correct_76 ?_
    refine l_X7_165 rfl dX7_correct_78 hO3.1 ⟨Nat.le_of_ble_eq_true rfl, Nat.le_of_ble_eq_true rfl⟩ (Nat.le_of_ble_eq_true rfl) ⟨Nat.le_refl _, Nat.le_refl _⟩ (c_X2_putRead hO3 hw.hr hw.p5 hs1 hk hh (fun M4 hO4 hF4 => ?_))
    rw [puW_at hC.1] at hO4
    refine v_iload_5 dX7_correct_81 ?_
    rw [show tcW w s k h v = (((tsN (tcB w s k h v) 12).toNat : Nat) : Int) from (Int.toNat_of_nonneg (ts_bd (tcB w s k h v) 12).1).symm]
    refine l_X7_195 rfl dX7_correct_83 ⟨Nat.le_of_ble_eq_true rfl, Nat.le_of_ble_eq_true rfl⟩ (Nat.le_of_ble_eq_true rfl) ⟨Nat.le_refl _, Nat.le_refl _⟩ (c_bitCount (n := (tsN (tcB w s k h v) 12).toNat) (by have tb := ts_bd (tcB w s k h v) 12; have tp : (2 : Int) ^ 12 = 4096 := rfl; omega) ?_)
    rw [bc_ts]
    exact v_iret dX7_correct_86 rfl (Nat.le_refl _) (Nat.le_refl _) (hp hC _ hO4 (hH3.keep (fun b b1 b2 => hF4.2 b (by omega))) ((Fr.o2 hF1).tr (hF3.tr (Fr.o2 hF4))))
  · refine v_bipush dX7_correct_12 (by decide) ?_
    exact v_iret dX7_correct_14 rfl (Nat.le_refl _) (Nat.le_refl _) (hq hC)

set_option maxRecDepth 100000 in
theorem c_X7_takeBack_1 {E : Ev} {M : Mem} {Post : Option Value → Mem → Prop} {x o a : Nat} {f0 f1 f2 f4 : Value} {w : Int → Int} (hX : M[x]? = some (ob 7 [f0, f1, f2, rr E o, f4])) (hO : OffAt E M o w) (hw : WF w) (hxo : x < o ∨ o + 26 ≤ x) {kd s k h bf nb : Int} (hA : AF E M a kd s k h bf nb) (hao : a < o ∨ o + 26 ≤ a) {w1 : Int → Int} (e0 : kd = 1) (hP : Pl w s k h) (e1 : w1 = upI w (atW s k h) (bf + 1)) (hp : ∀ M2, OffAt E M2 o w1 → Fr o (o + 26) M M2 → Post none M2) : Cn E rX7_takeBack mX7_takeBack [rr E x, rr E a] M Post := by
  subst e1
  refine Cn.of (L := [some (rr E x), some (rr E a), none]) (by decide) (Nat.le_of_ble_eq_true rfl) rfl ?_
  refine v_aload_1 dX7_takeBack_0 ?_
  refine g_X7_217 rfl dX7_takeBack_1 hA ?_
  subst e0
  refine v_swin (tgt := 36) dX7_takeBack_4 ⟨by omega, by omega⟩ (by omega) (by omega) rfl rfl ?_
  refine v_aload_0 dX7_takeBack_36 ?_
  refine g_X7_35 rfl dX7_takeBack_37 hX ?_
  refine v_aload_1 dX7_takeBack_40 ?_
  refine g_X7_181 rfl dX7_takeBack_41 hA ?_
  refine v_aload_1 dX7_takeBack_44 ?_
  refine g_X7_186 rfl dX7_takeBack_45 hA ?_
  refine v_aload_1 dX7_takeBack_48 ?_
  refine g_X7_189 rfl dX7_takeBack_49 hA ?_
  refine v_aload_1 dX7_takeBack_52 ?_
  refine g_X7_192 rfl dX7_takeBack_53 hA ?_
  refine l_X7_165 rfl dX7_takeBack_56 hO.1 ⟨Nat.le_of_ble_eq_true rfl, Nat.le_of_ble_eq_true rfl⟩ (Nat.le_of_ble_eq_true rfl) ⟨Nat.le_refl _, Nat.le_refl _⟩ (c_X2_putRead hO hw.hr hw.p5 ⟨by omega, by omega⟩ ⟨by omega, by omega⟩ ⟨by omega, by omega⟩ (fun M2 hO2 hF2 => ?_))
  rw [puW_at hP] at hO2
  refine v_goto (tgt := 125) dX7_takeBack_59 rfl ?_
  exact v_vret dX7_takeBack_125 rfl (Nat.le_refl _) (Nat.le_refl _) (hp M2 hO2 hF2)

set_option maxRecDepth 100000 in
theorem c_X7_takeBack_2 {E : Ev} {M : Mem} {Post : Option Value → Mem → Prop} {x o a : Nat} {f0 f1 f2 f4 : Value} {w : Int → Int} (hX : M[x]? = some (ob 7 [f0, f1, f2, rr E o, f4])) (hO : OffAt E M o w) (hw : WF w) (hxo : x < o ∨ o + 26 ≤ x) {kd s k h bf nb : Int} (hA : AF E M a kd s k h bf nb) (hao : a < o ∨ o + 26 ≤ a) {w1 : Int → Int} (e0 : kd = 2) (e1 : w1 = upI w 0 bf) (hp : ∀ M2, OffAt E M2 o w1 → Fr o (o + 26) M M2 → Post none M2) : Cn E rX7_takeBack mX7_takeBack [rr E x, rr E a] M Post := by
  subst e1
  refine Cn.of (L := [some (rr E x), some (rr E a), none]) (by decide) (Nat.le_of_ble_eq_true rfl) rfl ?_
  refine v_aload_1 dX7_takeBack_0 ?_
  refine g_X7_217 rfl dX7_takeBack_1 hA ?_
  subst e0
  refine v_swin (tgt := 62) dX7_takeBack_4 ⟨by omega, by omega⟩ (by omega) (by omega) rfl rfl ?_
  refine v_aload_0 dX7_takeBack_62 ?_
  refine g_X7_35 rfl dX7_takeBack_63 hX ?_
  refine v_aload_1 dX7_takeBack_66 ?_
  refine g_X7_192 rfl dX7_takeBack_67 hA ?_
  refine p_X7_94 rfl dX7_takeBack_70 hO.1 ?_
  refine v_goto (tgt := 125) dX7_takeBack_73 rfl ?_
  exact v_vret dX7_takeBack_125 rfl (Nat.le_refl _) (Nat.le_refl _) (hp _ (hO.hdr2 hw.p5 (fun j j0 j3 => upI_n w _ (by omega)) (upI_n w _ (by decide)) (upI_s w 0 _)) (Fr.set (by omega) (by omega)))

set_option maxRecDepth 100000 in
theorem c_X7_takeBack_3 {E : Ev} {M : Mem} {Post : Option Value → Mem → Prop} {x o a : Nat} {f0 f1 f2 f4 : Value} {w : Int → Int} (hX : M[x]? = some (ob 7 [f0, f1, f2, rr E o, f4])) (hO : OffAt E M o w) (hw : WF w) (hxo : x < o ∨ o + 26 ≤ x) {kd s k h bf nb : Int} (hA : AF E M a kd s k h bf nb) (hao : a < o ∨ o + 26 ≤ a) {w1 : Int → Int} (e0 : kd = 3) (e1 : w1 = upI w 3 bf) (hp : ∀ M2, OffAt E M2 o w1 → Fr o (o + 26) M M2 → Post none M2) : Cn E rX7_takeBack mX7_takeBack [rr E x, rr E a] M Post := by
  subst e1
  refine Cn.of (L := [some (rr E x), some (rr E a), none]) (by decide) (Nat.le_of_ble_eq_true rfl) rfl ?_
  refine v_aload_1 dX7_takeBack_0 ?_
  refine g_X7_217 rfl dX7_takeBack_1 hA ?_
  subst e0
  refine v_swin (tgt := 76) dX7_takeBack_4 ⟨by omega, by omega⟩ (by omega) (by omega) rfl rfl ?_
  refine v_aload_0 dX7_takeBack_76 ?_
  refine g_X7_35 rfl dX7_takeBack_77 hX ?_
  refine v_aload_1 dX7_takeBack_80 ?_
  refine g_X7_192 rfl dX7_takeBack_81 hA ?_
  refine p_X7_107 rfl dX7_takeBack_84 hO.1 ?_
  refine v_goto (tgt := 125) dX7_takeBack_87 rfl ?_
  exact v_vret dX7_takeBack_125 rfl (Nat.le_refl _) (Nat.le_refl _) (hp _ (hO.hdr2 hw.p5 (fun j j0 j3 => upI_n w _ (by omega)) (upI_s w 3 _) (upI_n w _ (by decide))) (Fr.set (by omega) (by omega)))

set_option maxRecDepth 100000 in
theorem c_X7_takeBack_4 {E : Ev} {M : Mem} {Post : Option Value → Mem → Prop} {x o a : Nat} {f0 f1 f2 f4 : Value} {w : Int → Int} (hX : M[x]? = some (ob 7 [f0, f1, f2, rr E o, f4])) (hO : OffAt E M o w) (hw : WF w) (hxo : x < o ∨ o + 26 ≤ x) {kd s k h bf nb : Int} (hA : AF E M a kd s k h bf nb) (hao : a < o ∨ o + 26 ≤ a) {w1 : Int → Int} (e0 : kd = 4) (hK : Ks w k) (e1 : w1 = upI (upI w (7 + 13 * k) bf) (8 + 13 * k) nb) (hp : ∀ M2, OffAt E M2 o w1 → Fr o (o + 26) M M2 → Post none M2) : Cn E rX7_takeBack mX7_takeBack [rr E x, rr E a] M Post := by
  subst e1
  have hK1 := hK.1
  have hK2 := hK.2
  refine Cn.of (L := [some (rr E x), some (rr E a), none]) (by decide) (Nat.le_of_ble_eq_true rfl) rfl ?_
  refine v_aload_1 dX7_takeBack_0 ?_
  refine g_X7_217 rfl dX7_takeBack_1 hA ?_
  subst e0
  refine v_swin (tgt := 90) dX7_takeBack_4 ⟨by omega, by omega⟩ (by omega) (by omega) rfl rfl ?_
  refine v_aload_0 dX7_takeBack_90 ?_
  refine g_X7_35 rfl dX7_takeBack_91 hX ?_
  refine v_aload_1 dX7_takeBack_94 ?_
  refine g_X7_186 rfl dX7_takeBack_95 hA ?_
  refine l_X7_120 rfl dX7_takeBack_98 hO.1 ⟨Nat.le_of_ble_eq_true rfl, Nat.le_of_ble_eq_true rfl⟩ (Nat.le_of_ble_eq_true rfl) ⟨Nat.le_refl _, Nat.le_refl _⟩ (c_X2_substanceAt hO hw.hr ⟨by have := hw.2.1; omega, by have := hw.2.1; omega⟩ (fun _ _ k3 => ?_) (fun q => absurd ⟨hK.1, hK.2, by have := hw.2.1; have := hK.2; omega⟩ q))
  obtain ⟨p, q, nn, lv, ix, u1, u2, u3, u4⟩ := hO.sub hK.1 k3
  refine v_astore_2 dX7_takeBack_101 (Nat.le_of_ble_eq_true rfl) rfl ?_
  refine v_aload_2 dX7_takeBack_102 ?_
  refine v_ifnull_s dX7_takeBack_103 ?_
  refine v_aload_2 dX7_takeBack_106 ?_
  refine v_aload_1 dX7_takeBack_107 ?_
  refine g_X7_192 rfl dX7_takeBack_108 hA ?_
  refine p_X7_200 rfl dX7_takeBack_111 u1 ?_
  refine v_aload_2 dX7_takeBack_114 ?_
  refine v_aload_1 dX7_takeBack_115 ?_
  refine g_X7_206 rfl dX7_takeBack_116 (gs_ne (by omega) hA) ?_
  refine p_X7_203 rfl dX7_takeBack_119 (gs_eq u1) ?_
  rw [gs_gs]
  refine v_goto (tgt := 125) dX7_takeBack_122 rfl ?_
  exact v_vret dX7_takeBack_125 rfl (Nat.le_refl _) (Nat.le_refl _) (hp _ (hO.win hw.p5 hK.1 k3 u1 (fun c => (u4 c).1)) (Fr.set (by omega) (by omega)))

theorem c_X7_takeBack {E : Ev} {M : Mem} {Post : Option Value → Mem → Prop} {x o a : Nat} {f0 f1 f2 f4 : Value} {w : Int → Int} (hX : M[x]? = some (ob 7 [f0, f1, f2, rr E o, f4])) (hO : OffAt E M o w) (hw : WF w) (hxo : x < o ∨ o + 26 ≤ x) {kd s k h bf nb : Int} (hA : AF E M a kd s k h bf nb) (hao : a < o ∨ o + 26 ≤ a) {w1 : Int → Int} (hu : UndoOK kd s k h bf nb w w1) (hp : ∀ M2, OffAt E M2 o w1 → Fr o (o + 26) M M2 → Post none M2) : Cn E rX7_takeBack mX7_takeBack [rr E x, rr E a] M Post := by
  rcases hu with ⟨e0, hP, e1⟩ | ⟨e0, e1⟩ | ⟨e0, e1⟩ | ⟨e0, hK, e1⟩
  · exact c_X7_takeBack_1 hX hO hw hxo hA hao e0 hP e1 hp
  · exact c_X7_takeBack_2 hX hO hw hxo hA hao e0 e1 hp
  · exact c_X7_takeBack_3 hX hO hw hxo hA hao e0 e1 hp
  · exact c_X7_takeBack_4 hX hO hw hxo hA hao e0 hK e1 hp

set_option maxRecDepth 100000 in
theorem c_X7_undo_s {E : Ev} {M : Mem} {Post : Option Value → Mem → Prop} {x o hs : Nat} {f0 f1 f4 : Value} {w : Int → Int} (hX : M[x]? = some (ob 7 [f0, f1, rr E hs, rr E o, f4])) (hO : OffAt E M o w) (hw : WF w) (hxo : x < o ∨ o + 26 ≤ x) {n : Nat} {rows : Nat → Int → Int} (hH : HistAt E M hs n rows) (hn : n ≤ 10) (hr : rows n = w) (hxh : x < hs ∨ hs + 12 ≤ x) (hoh : o + 26 ≤ hs ∨ hs + 12 ≤ o) (n1 : 1 ≤ n) (hp : 1 ≤ n → ∀ M2, OffAt E M2 o (rows (n - 1)) → HistAt E M2 hs (n - 1) rows → Fr2 o hs M M2 → Post (some (iv ((n : Int) - 1))) M2) (hq : n = 0 → Post (some (iv (-1))) M) : Cn E rX7_undo mX7_undo [rr E x] M Post := by
  obtain ⟨g, ad, hG⟩ := id hH
  have hl := hG.less (n - 1) (by omega)
  obtain ⟨h1, h2, h3, h4⟩ := hG
  have ha := h3.1 (n - 1 : Nat) (by omega) (by omega)
  obtain ⟨kd, s, k, h, bf, nb, h5, h6⟩ := h4 (n - 1) (by omega)
  have hu := h6 (by omega)
  rw [show n - 1 + 1 = n by omega, hr] at hu
  refine Cn.of (L := [some (rr E x), none]) (by decide) (Nat.le_of_ble_eq_true rfl) rfl ?_
  refine v_aload_0 dX7_undo_0 ?_
  refine g_X7_28 rfl dX7_undo_1 hX ?_
  refine l_X7_209 rfl dX7_undo_4 h1 ⟨Nat.le_of_ble_eq_true rfl, Nat.le_of_ble_eq_true rfl⟩ (Nat.le_of_ble_eq_true rfl) ⟨Nat.le_refl _, Nat.le_refl _⟩ (c_X1_takeLatest_s h1 h2 h3 hn n1 ?_)
  refine v_astore_1 dX7_undo_7 (Nat.le_of_ble_eq_true rfl) rfl ?_
  refine v_aload_1 dX7_undo_8 ?_
  refine v_ifnonnull_s (tgt := 14) dX7_undo_9 rfl ?_
  refine v_aload_0 dX7_undo_14 ?_
  refine v_aload_1 dX7_undo_15 ?_
  refine l_X7_213 rfl dX7_undo_16 (gs_ne (by omega) hX) ⟨Nat.le_of_ble_eq_true rfl, Nat.le_of_ble_eq_true rfl⟩ (Nat.le_of_ble_eq_true rfl) ⟨Nat.le_refl _, Nat.le_refl _⟩ (c_X7_takeBack (gs_ne (by omega) hX) (hO.fr (fun b b1 b2 => List.getElem?_set_ne (by omega))) hw hxo (gs_ne (by omega) h5) (by omega) hu (fun M2 hO2 hF2 => ?_))
  refine v_aload_0 dX7_undo_19 ?_
  refine g_X7_28 rfl dX7_undo_20 (hF2.at (gs_ne (by omega) hX) hxo) ?_
  refine g_X7_110 rfl dX7_undo_23 (hF2.at (gs_eq h1) (by omega)) ?_
  rw [show ((n - 1 : Nat) : Int) = (n : Int) - 1 by omega]
  exact v_iret dX7_undo_26 rfl (Nat.le_refl _) (Nat.le_refl _) (hp n1 _ hO2 (hl.keep (fun b b1 b2 => hF2.2 b (by omega))) ((Fr.h2 (Fr.set (by omega) (by omega))).tr (Fr.o2 hF2)))

set_option maxRecDepth 100000 in
theorem c_X7_undo_n {E : Ev} {M : Mem} {Post : Option Value → Mem → Prop} {x o hs : Nat} {f0 f1 f4 : Value} {w : Int → Int} (hX : M[x]? = some (ob 7 [f0, f1, rr E hs, rr E o, f4])) (hO : OffAt E M o w) (hw : WF w) (hxo : x < o ∨ o + 26 ≤ x) {n : Nat} {rows : Nat → Int → Int} (hH : HistAt E M hs n rows) (hn : n ≤ 10) (hr : rows n = w) (hxh : x < hs ∨ hs + 12 ≤ x) (hoh : o + 26 ≤ hs ∨ hs + 12 ≤ o) (n0 : n = 0) (hp : 1 ≤ n → ∀ M2, OffAt E M2 o (rows (n - 1)) → HistAt E M2 hs (n - 1) rows → Fr2 o hs M M2 → Post (some (iv ((n : Int) - 1))) M2) (hq : n = 0 → Post (some (iv (-1))) M) : Cn E rX7_undo mX7_undo [rr E x] M Post := by
  subst n0
  obtain ⟨g, ad, hG⟩ := id hH
  refine Cn.of (L := [some (rr E x), none]) (by decide) (Nat.le_of_ble_eq_true rfl) rfl ?_
  refine v_aload_0 dX7_undo_0 ?_
  refine g_X7_28 rfl dX7_undo_1 hX ?_
  refine l_X7_209 rfl dX7_undo_4 hG.1 ⟨Nat.le_of_ble_eq_true rfl, Nat.le_of_ble_eq_true rfl⟩ (Nat.le_of_ble_eq_true rfl) ⟨Nat.le_refl _, Nat.le_refl _⟩ (c_X1_takeLatest_n hG.1 ?_)
  refine v_astore_1 dX7_undo_7 (Nat.le_of_ble_eq_true rfl) rfl ?_
  refine v_aload_1 dX7_undo_8 ?_
  refine v_ifnonnull_n dX7_undo_9 ?_
  refine v_iconst dX7_undo_12 ?_
  exact v_iret dX7_undo_13 rfl (Nat.le_refl _) (Nat.le_refl _) (hq rfl)

theorem c_X7_undo {E : Ev} {M : Mem} {Post : Option Value → Mem → Prop} {x o hs : Nat} {f0 f1 f4 : Value} {w : Int → Int} (hX : M[x]? = some (ob 7 [f0, f1, rr E hs, rr E o, f4])) (hO : OffAt E M o w) (hw : WF w) (hxo : x < o ∨ o + 26 ≤ x) {n : Nat} {rows : Nat → Int → Int} (hH : HistAt E M hs n rows) (hn : n ≤ 10) (hr : rows n = w) (hxh : x < hs ∨ hs + 12 ≤ x) (hoh : o + 26 ≤ hs ∨ hs + 12 ≤ o) (hp : 1 ≤ n → ∀ M2, OffAt E M2 o (rows (n - 1)) → HistAt E M2 hs (n - 1) rows → Fr2 o hs M M2 → Post (some (iv ((n : Int) - 1))) M2) (hq : n = 0 → Post (some (iv (-1))) M) : Cn E rX7_undo mX7_undo [rr E x] M Post := by
  by_cases c : n = 0
  · exact c_X7_undo_n hX hO hw hxo hH hn hr hxh hoh c hp hq
  · exact c_X7_undo_s hX hO hw hxo hH hn hr hxh hoh (by omega) hp hq

set_option maxRecDepth 100000 in
theorem c_X7_now {E : Ev} {M : Mem} {Post : Option Value → Mem → Prop} {x o hs ta : Nat} {f1 f4 h0 t0 : Value} {w : Int → Int} {n tl : Int} (hX : M[x]? = some (ob 7 [rr E ta, f1, rr E hs, rr E o, f4])) (hO : OffAt E M o w) (hw : WF w) (hH : M[hs]? = some (ob 1 [h0, iv n])) (hT : M[ta]? = some (ob 4 [t0, iv tl])) {t : Int} (ht : I32 t) (hp : Post (some (iv (qNo w n tl t))) M) : Cn E rX7_now mX7_now [rr E x, iv t] M Post := by
  refine Cn.of (L := [some (rr E x), some (iv t)]) (by decide) (Nat.le_of_ble_eq_true rfl) rfl ?_
  refine v_iload_1 dX7_now_0 ?_
  rcases (show t = 0 ∨ t = 1 ∨ t = 2 ∨ t = 3 ∨ t = 4 ∨ t = 5 ∨ t = 6 ∨ (t < 0 ∨ 6 < t) by omega) with rfl | rfl | rfl | rfl | rfl | rfl | rfl | tn
  · refine v_swin (tgt := 44) dX7_now_1 ⟨by omega, by omega⟩ (by omega) (by omega) rfl rfl ?_
    refine v_aload_0 dX7_now_44 ?_
    refine g_X7_35 rfl dX7_now_45 hX ?_
    refine g_X7_94 rfl dX7_now_48 hO.1 ?_
    exact v_iret dX7_now_51 rfl (Nat.le_refl _) (Nat.le_refl _) hp
  · refine v_swin (tgt := 52) dX7_now_1 ⟨by omega, by omega⟩ (by omega) (by omega) rfl rfl ?_
    refine v_aload_0 dX7_now_52 ?_
    refine g_X7_35 rfl dX7_now_53 hX ?_
    refine g_X7_97 rfl dX7_now_56 hO.1 ?_
    exact v_iret dX7_now_59 rfl (Nat.le_refl _) (Nat.le_refl _) hp
  · refine v_swin (tgt := 60) dX7_now_1 ⟨by omega, by omega⟩ (by omega) (by omega) rfl rfl ?_
    refine v_aload_0 dX7_now_60 ?_
    refine g_X7_35 rfl dX7_now_61 hX ?_
    refine g_X7_100 rfl dX7_now_64 hO.1 ?_
    exact v_iret dX7_now_67 rfl (Nat.le_refl _) (Nat.le_refl _) hp
  · refine v_swin (tgt := 68) dX7_now_1 ⟨by omega, by omega⟩ (by omega) (by omega) rfl rfl ?_
    refine v_aload_0 dX7_now_68 ?_
    refine g_X7_35 rfl dX7_now_69 hX ?_
    refine l_X7_103 rfl dX7_now_72 hO.1 ⟨Nat.le_of_ble_eq_true rfl, Nat.le_of_ble_eq_true rfl⟩ (Nat.le_of_ble_eq_true rfl) ⟨Nat.le_refl _, Nat.le_refl _⟩ (c_X2_countReads hO hw ?_)
    exact v_iret dX7_now_75 rfl (Nat.le_refl _) (Nat.le_refl _) hp
  · refine v_swin (tgt := 76) dX7_now_1 ⟨by omega, by omega⟩ (by omega) (by omega) rfl rfl ?_
    refine v_aload_0 dX7_now_76 ?_
    refine g_X7_35 rfl dX7_now_77 hX ?_
    refine g_X7_107 rfl dX7_now_80 hO.1 ?_
    exact v_iret dX7_now_83 rfl (Nat.le_refl _) (Nat.le_refl _) hp
  · refine v_swin (tgt := 84) dX7_now_1 ⟨by omega, by omega⟩ (by omega) (by omega) rfl rfl ?_
    refine v_aload_0 dX7_now_84 ?_
    refine g_X7_28 rfl dX7_now_85 hX ?_
    refine g_X7_110 rfl dX7_now_88 hH ?_
    exact v_iret dX7_now_91 rfl (Nat.le_refl _) (Nat.le_refl _) hp
  · refine v_swin (tgt := 92) dX7_now_1 ⟨by omega, by omega⟩ (by omega) (by omega) rfl rfl ?_
    refine v_aload_0 dX7_now_92 ?_
    refine g_X7_10 rfl dX7_now_93 hX ?_
    refine g_X7_53 rfl dX7_now_96 hT ?_
    exact v_iret dX7_now_99 rfl (Nat.le_refl _) (Nat.le_refl _) hp
  · refine v_swout (tgt := 100) dX7_now_1 ht tn rfl ?_
    refine v_iconst dX7_now_100 ?_
    exact v_iret dX7_now_101 rfl (Nat.le_refl _) (Nat.le_refl _) (by rw [qNo_n tn] at hp; exact hp)
