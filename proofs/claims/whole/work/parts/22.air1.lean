set_option maxRecDepth 100000 in
theorem c_X7_read {E : Ev} {M : Mem} {Post : Option Value → Mem → Prop} {x o : Nat} {f0 f1 f2 f4 : Value} {w : Int → Int} (hX : M[x]? = some (ob 7 [f0, f1, f2, rr E o, f4])) (hO : OffAt E M o w) (hw : WF w) {s k h : Int} (hs : I32 s) (hk : I32 k) (hh : I32 h) (hp : Post (some (iv (rdA w s k h))) M) : Cn E rX7_read mX7_read [rr E x, iv s, iv k, iv h] M Post := by
  refine Cn.of (L := [some (rr E x), some (iv s), some (iv k), some (iv h)]) (by decide) (Nat.le_of_ble_eq_true rfl) rfl ?_
  refine v_aload_0 dX7_read_0 ?_
  refine g_X7_35 rfl dX7_read_1 hX ?_
  refine v_iload_1 dX7_read_4 ?_
  refine v_iload_2 dX7_read_5 ?_
  refine v_iload_3 dX7_read_6 ?_
  refine l_X7_113 rfl dX7_read_7 hO.1 ⟨Nat.le_of_ble_eq_true rfl, Nat.le_of_ble_eq_true rfl⟩ (Nat.le_of_ble_eq_true rfl) ⟨Nat.le_refl _, Nat.le_refl _⟩ (c_X2_readAt hO hw.hr hs hk hh ?_)
  exact v_iret dX7_read_10 rfl (Nat.le_refl _) (Nat.le_refl _) hp

set_option maxRecDepth 100000 in
theorem c_X7_mean {E : Ev} {M : Mem} {Post : Option Value → Mem → Prop} {x o : Nat} {f0 f1 f2 f4 : Value} {w : Int → Int} (hX : M[x]? = some (ob 7 [f0, f1, f2, rr E o, f4])) (hO : OffAt E M o w) (hw : WF w) {s k h : Int} (hs : I32 s) (hk : I32 k) (hh : I32 h) (hp : Post (some (iv (mnW w s k h))) M) : Cn E rX7_mean mX7_mean [rr E x, iv s, iv k, iv h] M Post := by
  refine Cn.of (L := [some (rr E x), some (iv s), some (iv k), some (iv h)]) (by decide) (Nat.le_of_ble_eq_true rfl) rfl ?_
  refine v_aload_0 dX7_mean_0 ?_
  refine g_X7_35 rfl dX7_mean_1 hX ?_
  refine v_iload_1 dX7_mean_4 ?_
  refine v_iload_2 dX7_mean_5 ?_
  refine v_iload_3 dX7_mean_6 ?_
  refine l_X7_117 rfl dX7_mean_7 hO.1 ⟨Nat.le_of_ble_eq_true rfl, Nat.le_of_ble_eq_true rfl⟩ (Nat.le_of_ble_eq_true rfl) ⟨Nat.le_refl _, Nat.le_refl _⟩ (c_X2_meanAt hO hw hs hk hh ?_)
  exact v_iret dX7_mean_10 rfl (Nat.le_refl _) (Nat.le_refl _) hp

set_option maxRecDepth 100000 in
theorem c_X7_sub {E : Ev} {M : Mem} {Post : Option Value → Mem → Prop} {x o : Nat} {f0 f1 f2 f4 : Value} {w : Int → Int} (hX : M[x]? = some (ob 7 [f0, f1, f2, rr E o, f4])) (hO : OffAt E M o w) (hw : WF w) {s k h : Int} (hs : I32 s) (hk : I32 k) (hh : I32 h) (hp : Post (some (iv (sbW w s k h))) M) : Cn E rX7_sub mX7_sub [rr E x, iv s, iv k, iv h] M Post := by
  refine Cn.of (L := [some (rr E x), some (iv s), some (iv k), some (iv h)]) (by decide) (Nat.le_of_ble_eq_true rfl) rfl ?_
  refine v_aload_0 dX7_sub_0 ?_
  refine g_X7_35 rfl dX7_sub_1 hX ?_
  refine v_iload_1 dX7_sub_4 ?_
  refine v_iload_2 dX7_sub_5 ?_
  refine v_iload_3 dX7_sub_6 ?_
  refine l_X7_130 rfl dX7_sub_7 hO.1 ⟨Nat.le_of_ble_eq_true rfl, Nat.le_of_ble_eq_true rfl⟩ (Nat.le_of_ble_eq_true rfl) ⟨Nat.le_refl _, Nat.le_refl _⟩ (c_X2_subAt hO hw hs hk hh ?_)
  exact v_iret dX7_sub_10 rfl (Nat.le_refl _) (Nat.le_refl _) hp

set_option maxRecDepth 100000 in
theorem c_X7_forecast {E : Ev} {M : Mem} {Post : Option Value → Mem → Prop} {x o : Nat} {f0 f1 f2 f4 : Value} {w : Int → Int} (hX : M[x]? = some (ob 7 [f0, f1, f2, rr E o, f4])) (hO : OffAt E M o w) (hw : WF w) {s k h : Int} (hs : I32 s) (hk : I32 k) (hh : I32 h) (hp : Post (some (iv (fcW w s k h))) M) : Cn E rX7_forecast mX7_forecast [rr E x, iv s, iv k, iv h] M Post := by
  refine Cn.of (L := [some (rr E x), some (iv s), some (iv k), some (iv h)]) (by decide) (Nat.le_of_ble_eq_true rfl) rfl ?_
  refine v_aload_0 dX7_forecast_0 ?_
  refine g_X7_35 rfl dX7_forecast_1 hX ?_
  refine v_iload_1 dX7_forecast_4 ?_
  refine v_iload_2 dX7_forecast_5 ?_
  refine v_iload_3 dX7_forecast_6 ?_
  refine l_X7_155 rfl dX7_forecast_7 hO.1 ⟨Nat.le_of_ble_eq_true rfl, Nat.le_of_ble_eq_true rfl⟩ (Nat.le_of_ble_eq_true rfl) ⟨Nat.le_refl _, Nat.le_refl _⟩ (c_X2_forecastBehind hO hw hs hk hh ?_)
  exact v_iret dX7_forecast_10 rfl (Nat.le_refl _) (Nat.le_refl _) hp

set_option maxRecDepth 100000 in
theorem c_X7_scale_s {E : Ev} {M : Mem} {Post : Option Value → Mem → Prop} {x o : Nat} {f0 f1 f2 f4 : Value} {w : Int → Int} (hX : M[x]? = some (ob 7 [f0, f1, f2, rr E o, f4])) (hO : OffAt E M o w) (hw : WF w) {k level : Int} (hk : I32 k) (hl : I32 level) (h1 : 0 ≤ k) (h2 : k < w 1) (hp : Post (some (iv (qSc w k level))) M) : Cn E rX7_scale mX7_scale [rr E x, iv k, iv level] M Post := by
  unfold qSc at hp
  obtain ⟨p, q, n, lv, ix, u1, u2, u3, u4⟩ := hO.sub (k := k) h1 (by have := hw.2.1; omega)
  obtain ⟨rfl, rfl, rfl, u5⟩ := u4 h2
  have hn := hw.2.2.2.2.2.1 k h1 h2
  have es : ∀ level, scS lv ix level (w (9 + 13 * k) - 1).toNat = scW w k level := fun level => scS_cong _ (fun i a b => u5 i a (by omega))
  refine Cn.of (L := [some (rr E x), some (iv k), some (iv level), none]) (by decide) (Nat.le_of_ble_eq_true rfl) rfl ?_
  refine v_aload_0 dX7_scale_0 ?_
  refine g_X7_35 rfl dX7_scale_1 hX ?_
  refine v_iload_1 dX7_scale_4 ?_
  refine l_X7_120 rfl dX7_scale_5 hO.1 ⟨Nat.le_of_ble_eq_true rfl, Nat.le_of_ble_eq_true rfl⟩ (Nat.le_of_ble_eq_true rfl) ⟨Nat.le_refl _, Nat.le_refl _⟩ (c_X2_substanceAt hO hw.hr hk (fun _ _ _ => ?_) (fun q => absurd ⟨h1, h2, by have := hw.2.1; omega⟩ q))
  refine v_astore_3 dX7_scale_8 (Nat.le_of_ble_eq_true rfl) rfl ?_
  refine v_aload_3 dX7_scale_9 ?_
  refine v_ifnull_s dX7_scale_10 ?_
  refine v_iload_2 dX7_scale_13 ?_
  refine v_if_lt (tgt := 24) dX7_scale_14 rfl hl (fun c14 => ?_) (fun c14 => ?_)
  · refine v_iconst dX7_scale_24 ?_
    exact v_iret dX7_scale_25 rfl (Nat.le_refl _) (Nat.le_refl _) (by rw [if_neg (fun q => by omega)] at hp; exact hp)
  · refine v_iload_2 dX7_scale_17 ?_
    refine v_sipush dX7_scale_18 (by decide) ?_
    refine v_icmp_le (tgt := 26) dX7_scale_21 rfl hl ⟨by omega, by omega⟩ (fun c21 => ?_) (fun c21 => ?_)
    · refine v_aload_3 dX7_scale_26 ?_
      refine v_iload_2 dX7_scale_27 ?_
      refine l_X7_124 rfl dX7_scale_28 u1 ⟨Nat.le_of_ble_eq_true rfl, Nat.le_of_ble_eq_true rfl⟩ (Nat.le_of_ble_eq_true rfl) ⟨Nat.le_refl _, Nat.le_refl _⟩ (c_X3_subAtLevel u1 u2 u3 (by omega) (by omega) (fun i a b => by have := u5 i a b; rw [this.1, this.2]; exact hw.2.2.2.2.2.2.1 k i h1 h2 a b) (fun i a b => by have e1 := u5 i a (by omega); have e2 := u5 (i + 1) (by omega) b; rw [e1.1, e1.2, e2.1, e2.2]; exact hw.2.2.2.2.2.2.2.1 k i h1 h2 a b) (by omega) (by omega) ?_)
      exact v_iret dX7_scale_31 rfl (Nat.le_refl _) (Nat.le_refl _) (by rw [es]; rw [if_pos ⟨⟨h1, h2⟩, by omega, by omega⟩] at hp; exact hp)
    · refine v_iconst dX7_scale_24 ?_
      exact v_iret dX7_scale_25 rfl (Nat.le_refl _) (Nat.le_refl _) (by rw [if_neg (fun q => by omega)] at hp; exact hp)

set_option maxRecDepth 100000 in
theorem c_X7_scale_n {E : Ev} {M : Mem} {Post : Option Value → Mem → Prop} {x o : Nat} {f0 f1 f2 f4 : Value} {w : Int → Int} (hX : M[x]? = some (ob 7 [f0, f1, f2, rr E o, f4])) (hO : OffAt E M o w) (hw : WF w) {k level : Int} (hk : I32 k) (hl : I32 level) (hn : ¬ (0 ≤ k ∧ k < w 1)) (hp : Post (some (iv (qSc w k level))) M) : Cn E rX7_scale mX7_scale [rr E x, iv k, iv level] M Post := by
  unfold qSc at hp
  refine Cn.of (L := [some (rr E x), some (iv k), some (iv level), none]) (by decide) (Nat.le_of_ble_eq_true rfl) rfl ?_
  refine v_aload_0 dX7_scale_0 ?_
  refine g_X7_35 rfl dX7_scale_1 hX ?_
  refine v_iload_1 dX7_scale_4 ?_
  refine l_X7_120 rfl dX7_scale_5 hO.1 ⟨Nat.le_of_ble_eq_true rfl, Nat.le_of_ble_eq_true rfl⟩ (Nat.le_of_ble_eq_true rfl) ⟨Nat.le_refl _, Nat.le_refl _⟩ (c_X2_substanceAt hO hw.hr hk (fun a b _ => absurd ⟨a, b⟩ hn) (fun _ => ?_))
  refine v_astore_3 dX7_scale_8 (Nat.le_of_ble_eq_true rfl) rfl ?_
  refine v_aload_3 dX7_scale_9 ?_
  refine v_ifnull_n (tgt := 24) dX7_scale_10 rfl ?_
  refine v_iconst dX7_scale_24 ?_
  exact v_iret dX7_scale_25 rfl (Nat.le_refl _) (Nat.le_refl _) (by rw [if_neg (fun q => hn q.1)] at hp; exact hp)

theorem c_X7_scale {E : Ev} {M : Mem} {Post : Option Value → Mem → Prop} {x o : Nat} {f0 f1 f2 f4 : Value} {w : Int → Int} (hX : M[x]? = some (ob 7 [f0, f1, f2, rr E o, f4])) (hO : OffAt E M o w) (hw : WF w) {k level : Int} (hk : I32 k) (hl : I32 level) (hp : Post (some (iv (qSc w k level))) M) : Cn E rX7_scale mX7_scale [rr E x, iv k, iv level] M Post := by
  by_cases hc : 0 ≤ k ∧ k < w 1
  · exact c_X7_scale_s hX hO hw hk hl hc.1 hc.2 hp
  · exact c_X7_scale_n hX hO hw hk hl hc hp

set_option maxRecDepth 100000 in
theorem lp_X7_back {E : Ev} {M : Mem} {Post : Option Value → Mem → Prop} {x o : Nat} {f0 f1 f2 f4 : Value} {w : Int → Int} (hX : M[x]? = some (ob 7 [f0, f1, f2, rr E o, f4])) (hO : OffAt E M o w) (hw : WF w) {k index : Int} (h1 : 0 ≤ k) (h2 : k < w 1) (i0 : 0 ≤ index) (i5 : index ≤ 500) (hp : Post (some (iv (bkW w k index))) M) : V E rX7_back mX7_back (finM E rX7_back Post) 0 0 M 34 [some (rr E x), some (iv k), some (iv index), some (rr E (o + 17 + 3 * k.toNat)), some (iv (-1)), some (iv 512), none] [] := by
  obtain ⟨p, q, n, lv, ix, u1, u2, u3, u4⟩ := hO.sub (k := k) h1 (by have := hw.2.1; omega)
  obtain ⟨rfl, rfl, rfl, u5⟩ := u4 h2
  have hn := hw.2.2.2.2.2.1 k h1 h2
  have es : ∀ level, scS lv ix level (w (9 + 13 * k) - 1).toNat = scW w k level := fun level => scS_cong _ (fun i a b => u5 i a (by omega))
  have lp : ∀ (j : Nat) (les : Int), j ≤ 10 → bsI (fun y => decide (scW w k y < index)) les j → V E rX7_back mX7_back (finM E rX7_back Post) 0 0 M 34 [some (rr E x), some (iv k), some (iv index), some (rr E (o + 17 + 3 * k.toNat)), some (iv les), some (iv (stp j)), none] [] := by
    intro j
    induction j with
    | zero =>
      intro les h_0 h_1
      refine v_iload_5 dX7_back_34 ?_
      refine v_if_le (tgt := 77) dX7_back_36 rfl ⟨by decide, by decide⟩ (fun c36 => ?_) (fun c36 => absurd c36 (by decide))
      refine v_iload_4 dX7_back_77 ?_
      refine v_sipush dX7_back_79 (by decide) ?_
      refine v_icmp_ne (tgt := 90) dX7_back_82 rfl ⟨by have := h_1.1; omega, by have := h_1.2.1; omega⟩ ⟨by omega, by omega⟩ (fun c82 => ?_) (fun c82 => ?_)
      · refine v_iload_4 dX7_back_90 ?_
        refine v_iconst dX7_back_92 ?_
        refine v_iadd dX7_back_93 ?_
        exact v_iret dX7_back_94 rfl (Nat.le_refl _) (Nat.le_refl _) (by have e := fge_bs (fun a b _ q _ => sc_mono hw h1 h2 q) h_1; unfold bkW at hp; rw [e, if_neg c82] at hp; exact hp)
      · refine v_bipush dX7_back_85 (by decide) ?_
        refine v_goto (tgt := 94) dX7_back_87 rfl ?_
        exact v_iret dX7_back_94 rfl (Nat.le_refl _) (Nat.le_refl _) (by have e := fge_bs (fun a b _ q _ => sc_mono hw h1 h2 q) h_1; unfold bkW at hp; rw [e, if_pos c82] at hp; exact hp)
    | succ j ih =>
      intro les h_0 h_1
      refine v_iload_5 dX7_back_34 ?_
      have sb := stp_bd (j + 1) h_0
      have sp := stp_pos j (by omega)
      have i1 := h_1.1
      have i2 := h_1.2.1
      refine v_if_le (tgt := 77) dX7_back_36 rfl ⟨by have := stp_bd (j + 1) h_0; omega, by have := stp_bd (j + 1) h_0; omega⟩ (fun c36 => absurd c36 (by have := stp_pos j (by omega); omega)) (fun c36 => ?_)
      refine v_iload_4 dX7_back_39 ?_
      refine v_iload_5 dX7_back_41 ?_
      refine v_iadd dX7_back_43 ?_
      refine v_istore_6 dX7_back_44 (Nat.le_of_ble_eq_true rfl) rfl ?_
      refine v_iload_6 dX7_back_46 ?_
      refine v_sipush dX7_back_48 (by decide) ?_
      refine v_icmp_gt (tgt := 68) dX7_back_51 rfl ⟨by omega, by omega⟩ ⟨by omega, by omega⟩ (fun c51 => ?_) (fun c51 => ?_)
      · refine v_iload_5 dX7_back_68 ?_
        refine v_iconst dX7_back_70 ?_
        refine v_idiv dX7_back_71 (by omega) (by omega) (by omega) (by omega) ?_
        refine v_istore_5 dX7_back_72 (Nat.le_of_ble_eq_true rfl) rfl ?_
        refine v_goto (tgt := 34) dX7_back_74 rfl ?_
        exact v_weak [some (rr E x), some (iv k), some (iv index), some (rr E (o + 17 + 3 * k.toNat)), some (iv les), some (iv (stp j)), none] ⟨rfl, rfl, rfl, rfl, rfl, by rw [stp_div j (by omega)], trivial⟩ (ih les (by omega) (bs_no h_1 (Or.inl (by omega))))
      · refine v_aload_3 dX7_back_54 ?_
        refine v_iload_6 dX7_back_55 ?_
        refine l_X7_124 rfl dX7_back_57 u1 ⟨Nat.le_of_ble_eq_true rfl, Nat.le_of_ble_eq_true rfl⟩ (Nat.le_of_ble_eq_true rfl) ⟨Nat.le_refl _, Nat.le_refl _⟩ (c_X3_subAtLevel u1 u2 u3 (by omega) (by omega) (fun i a b => by have := u5 i a b; rw [this.1, this.2]; exact hw.2.2.2.2.2.2.1 k i h1 h2 a b) (fun i a b => by have e1 := u5 i a (by omega); have e2 := u5 (i + 1) (by omega) b; rw [e1.1, e1.2, e2.1, e2.2]; exact hw.2.2.2.2.2.2.2.1 k i h1 h2 a b) (by omega) (by omega) ?_)
        rw [es]
        have b1 := sc_bd hw h1 h2 (les + stp (j + 1))
        refine v_iload_2 dX7_back_60 ?_
        refine v_icmp_ge (tgt := 68) dX7_back_61 rfl ⟨by omega, by omega⟩ ⟨by omega, by omega⟩ (fun c61 => ?_) (fun c61 => ?_)
        · refine v_iload_5 dX7_back_68 ?_
          refine v_iconst dX7_back_70 ?_
          refine v_idiv dX7_back_71 (by omega) (by omega) (by omega) (by omega) ?_
          refine v_istore_5 dX7_back_72 (Nat.le_of_ble_eq_true rfl) rfl ?_
          refine v_goto (tgt := 34) dX7_back_74 rfl ?_
          exact v_weak [some (rr E x), some (iv k), some (iv index), some (rr E (o + 17 + 3 * k.toNat)), some (iv les), some (iv (stp j)), none] ⟨rfl, rfl, rfl, rfl, rfl, by rw [stp_div j (by omega)], trivial⟩ (ih les (by omega) (bs_no h_1 (Or.inr (decide_eq_false (by omega)))))
        · refine v_iload_6 dX7_back_64 ?_
          refine v_istore_4 dX7_back_66 (Nat.le_of_ble_eq_true rfl) rfl ?_
          refine v_iload_5 dX7_back_68 ?_
          refine v_iconst dX7_back_70 ?_
          refine v_idiv dX7_back_71 (by omega) (by omega) (by omega) (by omega) ?_
          refine v_istore_5 dX7_back_72 (Nat.le_of_ble_eq_true rfl) rfl ?_
          refine v_goto (tgt := 34) dX7_back_74 rfl ?_
          exact v_weak [some (rr E x), some (iv k), some (iv index), some (rr E (o + 17 + 3 * k.toNat)), some (iv (les + stp (j + 1))), some (iv (stp j)), none] ⟨rfl, rfl, rfl, rfl, rfl, by rw [stp_div j (by omega)], trivial⟩ (ih (les + stp (j + 1)) (by omega) (bs_yes h_1 sp (by omega) (decide_eq_true (by omega))))
  exact lp 10 (-1) (by omega) (bs_start _)

set_option maxRecDepth 100000 in
theorem c_X7_back_s {E : Ev} {M : Mem} {Post : Option Value → Mem → Prop} {x o : Nat} {f0 f1 f2 f4 : Value} {w : Int → Int} (hX : M[x]? = some (ob 7 [f0, f1, f2, rr E o, f4])) (hO : OffAt E M o w) (hw : WF w) {k index : Int} (hk : I32 k) (hi : I32 index) (h1 : 0 ≤ k) (h2 : k < w 1) (hp : Post (some (iv (qBk w k index))) M) : Cn E rX7_back mX7_back [rr E x, iv k, iv index] M Post := by
  unfold qBk at hp
  refine Cn.of (L := [some (rr E x), some (iv k), some (iv index), none, none, none, none]) (by decide) (Nat.le_of_ble_eq_true rfl) rfl ?_
  refine v_aload_0 dX7_back_0 ?_
  refine g_X7_35 rfl dX7_back_1 hX ?_
  refine v_iload_1 dX7_back_4 ?_
  refine l_X7_120 rfl dX7_back_5 hO.1 ⟨Nat.le_of_ble_eq_true rfl, Nat.le_of_ble_eq_true rfl⟩ (Nat.le_of_ble_eq_true rfl) ⟨Nat.le_refl _, Nat.le_refl _⟩ (c_X2_substanceAt hO hw.hr hk (fun _ _ _ => ?_) (fun q => absurd ⟨h1, h2, by have := hw.2.1; omega⟩ q))
  refine v_astore_3 dX7_back_8 (Nat.le_of_ble_eq_true rfl) rfl ?_
  refine v_aload_3 dX7_back_9 ?_
  refine v_ifnull_s dX7_back_10 ?_
  refine v_iload_2 dX7_back_13 ?_
  refine v_if_lt (tgt := 24) dX7_back_14 rfl hi (fun c14 => ?_) (fun c14 => ?_)
  · refine v_iconst dX7_back_24 ?_
    exact v_iret dX7_back_25 rfl (Nat.le_refl _) (Nat.le_refl _) (by rw [if_neg (fun q => by omega)] at hp; exact hp)
  · refine v_iload_2 dX7_back_17 ?_
    refine v_sipush dX7_back_18 (by decide) ?_
    refine v_icmp_le (tgt := 26) dX7_back_21 rfl hi ⟨by omega, by omega⟩ (fun c21 => ?_) (fun c21 => ?_)
    · refine v_iconst dX7_back_26 ?_
      refine v_istore_4 dX7_back_27 (Nat.le_of_ble_eq_true rfl) rfl ?_
      refine v_sipush dX7_back_29 (by decide) ?_
      refine v_istore_5 dX7_back_32 (Nat.le_of_ble_eq_true rfl) rfl ?_
      exact lp_X7_back hX hO hw h1 h2 (by omega) (by omega) (by rw [if_pos ⟨⟨h1, h2⟩, by omega, by omega⟩] at hp; exact hp)
    · refine v_iconst dX7_back_24 ?_
      exact v_iret dX7_back_25 rfl (Nat.le_refl _) (Nat.le_refl _) (by rw [if_neg (fun q => by omega)] at hp; exact hp)

set_option maxRecDepth 100000 in
theorem c_X7_back_n {E : Ev} {M : Mem} {Post : Option Value → Mem → Prop} {x o : Nat} {f0 f1 f2 f4 : Value} {w : Int → Int} (hX : M[x]? = some (ob 7 [f0, f1, f2, rr E o, f4])) (hO : OffAt E M o w) (hw : WF w) {k index : Int} (hk : I32 k) (hi : I32 index) (hn : ¬ (0 ≤ k ∧ k < w 1)) (hp : Post (some (iv (qBk w k index))) M) : Cn E rX7_back mX7_back [rr E x, iv k, iv index] M Post := by
  unfold qBk at hp
  refine Cn.of (L := [some (rr E x), some (iv k), some (iv index), none, none, none, none]) (by decide) (Nat.le_of_ble_eq_true rfl) rfl ?_
  refine v_aload_0 dX7_back_0 ?_
  refine g_X7_35 rfl dX7_back_1 hX ?_
  refine v_iload_1 dX7_back_4 ?_
  refine l_X7_120 rfl dX7_back_5 hO.1 ⟨Nat.le_of_ble_eq_true rfl, Nat.le_of_ble_eq_true rfl⟩ (Nat.le_of_ble_eq_true rfl) ⟨Nat.le_refl _, Nat.le_refl _⟩ (c_X2_substanceAt hO hw.hr hk (fun a b _ => absurd ⟨a, b⟩ hn) (fun _ => ?_))
  refine v_astore_3 dX7_back_8 (Nat.le_of_ble_eq_true rfl) rfl ?_
  refine v_aload_3 dX7_back_9 ?_
  refine v_ifnull_n (tgt := 24) dX7_back_10 rfl ?_
  refine v_iconst dX7_back_24 ?_
  exact v_iret dX7_back_25 rfl (Nat.le_refl _) (Nat.le_refl _) (by rw [if_neg (fun q => hn q.1)] at hp; exact hp)

theorem c_X7_back {E : Ev} {M : Mem} {Post : Option Value → Mem → Prop} {x o : Nat} {f0 f1 f2 f4 : Value} {w : Int → Int} (hX : M[x]? = some (ob 7 [f0, f1, f2, rr E o, f4])) (hO : OffAt E M o w) (hw : WF w) {k index : Int} (hk : I32 k) (hi : I32 index) (hp : Post (some (iv (qBk w k index))) M) : Cn E rX7_back mX7_back [rr E x, iv k, iv index] M Post := by
  by_cases hc : 0 ≤ k ∧ k < w 1
  · exact c_X7_back_s hX hO hw hk hi hc.1 hc.2 hp
  · exact c_X7_back_n hX hO hw hk hi hc hp

theorem qIx_0 {w : Int → Int} (s h : Int) : qIx w s h 0 = ixW w s h := by
  unfold qIx
  by_cases c : Ss w s ∧ Hs w h
  · rw [if_pos c, if_pos rfl]
  · rw [if_neg c, ix_none s h c]
theorem qIx_1 {w : Int → Int} (s h : Int) : qIx w s h 1 = rlW w s h := by
  unfold qIx
  by_cases c : Ss w s ∧ Hs w h
  · rw [if_pos c, if_neg (by decide), if_pos rfl]
  · rw [if_neg c, rl_none s h c]
theorem qIx_2 {w : Int → Int} (s h : Int) : qIx w s h 2 = bdW w (ixW w s h) := by
  unfold qIx
  by_cases c : Ss w s ∧ Hs w h
  · rw [if_pos c, if_neg (by decide), if_neg (by decide), if_pos rfl]
  · rw [if_neg c, ix_none s h c]; rfl
theorem qIx_n {w : Int → Int} (s h : Int) {t : Int} (ht : t < 0 ∨ 2 < t) : qIx w s h t = -1 := by
  unfold qIx
  by_cases c : Ss w s ∧ Hs w h
  · rw [if_pos c, if_neg (by omega), if_neg (by omega), if_neg (by omega)]
  · rw [if_neg c]

set_option maxRecDepth 100000 in
theorem c_X7_index {E : Ev} {M : Mem} {Post : Option Value → Mem → Prop} {x o : Nat} {f0 f1 f2 f4 : Value} {w : Int → Int} (hX : M[x]? = some (ob 7 [f0, f1, f2, rr E o, f4])) (hO : OffAt E M o w) (hw : WF w) {s h t : Int} (hs : I32 s) (hh : I32 h) (ht : I32 t) (hp : Post (some (iv (qIx w s h t))) M) : Cn E rX7_index mX7_index [rr E x, iv s, iv h, iv t] M Post := by
  refine Cn.of (L := [some (rr E x), some (iv s), some (iv h), some (iv t)]) (by decide) (Nat.le_of_ble_eq_true rfl) rfl ?_
  refine v_iload_3 dX7_index_0 ?_
  rcases (show t = 0 ∨ t = 1 ∨ t = 2 ∨ (t < 0 ∨ 2 < t) by omega) with rfl | rfl | rfl | tn
  · refine v_swin (tgt := 28) dX7_index_1 ⟨by omega, by omega⟩ (by omega) (by omega) rfl rfl ?_
    refine v_aload_0 dX7_index_28 ?_
    refine g_X7_35 rfl dX7_index_29 hX ?_
    refine v_iload_1 dX7_index_32 ?_
    refine v_iload_2 dX7_index_33 ?_
    refine l_X7_133 rfl dX7_index_34 hO.1 ⟨Nat.le_of_ble_eq_true rfl, Nat.le_of_ble_eq_true rfl⟩ (Nat.le_of_ble_eq_true rfl) ⟨Nat.le_refl _, Nat.le_refl _⟩ (c_X2_indexAt hO hw hs hh ?_)
    exact v_iret dX7_index_37 rfl (Nat.le_refl _) (Nat.le_refl _) (by rw [qIx_0] at hp; exact hp)
  · refine v_swin (tgt := 38) dX7_index_1 ⟨by omega, by omega⟩ (by omega) (by omega) rfl rfl ?_
    refine v_aload_0 dX7_index_38 ?_
    refine g_X7_35 rfl dX7_index_39 hX ?_
    refine v_iload_1 dX7_index_42 ?_
    refine v_iload_2 dX7_index_43 ?_
    refine l_X7_137 rfl dX7_index_44 hO.1 ⟨Nat.le_of_ble_eq_true rfl, Nat.le_of_ble_eq_true rfl⟩ (Nat.le_of_ble_eq_true rfl) ⟨Nat.le_refl _, Nat.le_refl _⟩ (c_X2_rulingAt hO hw hs hh ?_)
    exact v_iret dX7_index_47 rfl (Nat.le_refl _) (Nat.le_refl _) (by rw [qIx_1] at hp; exact hp)
  · refine v_swin (tgt := 48) dX7_index_1 ⟨by omega, by omega⟩ (by omega) (by omega) rfl rfl ?_
    refine v_aload_0 dX7_index_48 ?_
    refine g_X7_35 rfl dX7_index_49 hX ?_
    refine v_aload_0 dX7_index_52 ?_
    refine g_X7_35 rfl dX7_index_53 hX ?_
    refine v_iload_1 dX7_index_56 ?_
    refine v_iload_2 dX7_index_57 ?_
    refine l_X7_133 rfl dX7_index_58 hO.1 ⟨Nat.le_of_ble_eq_true rfl, Nat.le_of_ble_eq_true rfl⟩ (Nat.le_of_ble_eq_true rfl) ⟨Nat.le_refl _, Nat.le_refl _⟩ (c_X2_indexAt hO hw hs hh ?_)
    refine l_X7_140 rfl dX7_index_61 hO.1 ⟨Nat.le_of_ble_eq_true rfl, Nat.le_of_ble_eq_true rfl⟩ (Nat.le_of_ble_eq_true rfl) ⟨Nat.le_refl _, Nat.le_refl _⟩ (c_X2_bandOf hO hw ⟨by have := ix_bd hw s h; omega, by have := ix_bd hw s h; omega⟩ ?_)
    exact v_iret dX7_index_64 rfl (Nat.le_refl _) (Nat.le_refl _) (by rw [qIx_2] at hp; exact hp)
  · refine v_swout (tgt := 65) dX7_index_1 ht tn rfl ?_
    refine v_iconst dX7_index_65 ?_
    exact v_iret dX7_index_66 rfl (Nat.le_refl _) (Nat.le_refl _) (by rw [qIx_n _ _ tn] at hp; exact hp)

theorem qDs_p {w : Int → Int} {d h : Int} (c : (0 ≤ d ∧ d ≤ 2) ∧ Hs w h) (t : Int) : qDs w d h t = if t = 3 then cnW w d h else if wsW w d h = -1 then -1 else if t = 0 then ixW w (wsW w d h) h else if t = 1 then wsW w d h else if t = 2 then bdW w (ixW w (wsW w d h) h) else -1 := by
  unfold qDs
  rw [if_pos c]
theorem qDs_0 {w : Int → Int} {d h : Int} (c : (0 ≤ d ∧ d ≤ 2) ∧ Hs w h) : qDs w d h 0 = ixW w (wsW w d h) h := by
  rw [qDs_p c, if_neg (by decide)]
  by_cases e : wsW w d h = -1
  · rw [if_pos e, e, ix_none (-1) h (fun q => by omega)]
  · rw [if_neg e, if_pos rfl]
theorem qDs_1 {w : Int → Int} {d h : Int} (c : (0 ≤ d ∧ d ≤ 2) ∧ Hs w h) : qDs w d h 1 = wsW w d h := by
  rw [qDs_p c, if_neg (by decide)]
  by_cases e : wsW w d h = -1
  · rw [if_pos e, e]
  · rw [if_neg e, if_neg (by decide), if_pos rfl]
theorem qDs_2 {w : Int → Int} {d h : Int} (c : (0 ≤ d ∧ d ≤ 2) ∧ Hs w h) : qDs w d h 2 = bdW w (ixW w (wsW w d h) h) := by
  rw [qDs_p c, if_neg (by decide)]
  by_cases e : wsW w d h = -1
  · rw [if_pos e, e, ix_none (-1) h (fun q => by omega)]; rfl
  · rw [if_neg e, if_neg (by decide), if_neg (by decide), if_pos rfl]
theorem qDs_3 {w : Int → Int} {d h : Int} (c : (0 ≤ d ∧ d ≤ 2) ∧ Hs w h) : qDs w d h 3 = cnW w d h := by
  rw [qDs_p c, if_pos rfl]
theorem qDs_n {w : Int → Int} {d h t : Int} (ht : t < 0 ∨ 3 < t) : qDs w d h t = -1 := by
  unfold qDs
  split
  · rw [if_neg (by omega)]
    split
    · rfl
    · rw [if_neg (by omega), if_neg (by omega), if_neg (by omega)]
  · rfl

set_option maxRecDepth 100000 in
theorem c_X7_district {E : Ev} {M : Mem} {Post : Option Value → Mem → Prop} {x o : Nat} {f0 f1 f2 f4 : Value} {w : Int → Int} (hX : M[x]? = some (ob 7 [f0, f1, f2, rr E o, f4])) (hO : OffAt E M o w) (hw : WF w) {d h t : Int} (hd : I32 d) (hh : I32 h) (ht : I32 t) (hp : Post (some (iv (qDs w d h t))) M) : Cn E rX7_district mX7_district [rr E x, iv d, iv h, iv t] M Post := by
  refine Cn.of (L := [some (rr E x), some (iv d), some (iv h), some (iv t), none]) (by decide) (Nat.le_of_ble_eq_true rfl) rfl ?_
  refine v_iload_1 dX7_district_0 ?_
  refine v_if_lt (tgt := 20) dX7_district_1 rfl hd (fun c1 => ?_) (fun c1 => ?_)
  · refine v_iconst dX7_district_20 ?_
    exact v_iret dX7_district_21 rfl (Nat.le_refl _) (Nat.le_refl _) (by unfold qDs at hp; rw [if_neg (fun q => by have := hw.1; omega)] at hp; exact hp)
  · refine v_iload_1 dX7_district_4 ?_
    refine v_iconst dX7_district_5 ?_
    refine v_icmp_ge (tgt := 20) dX7_district_6 rfl hd ⟨by omega, by omega⟩ (fun c6 => ?_) (fun c6 => ?_)
    · refine v_iconst dX7_district_20 ?_
      exact v_iret dX7_district_21 rfl (Nat.le_refl _) (Nat.le_refl _) (by unfold qDs at hp; rw [if_neg (fun q => by have := hw.1; omega)] at hp; exact hp)
    · refine v_aload_0 dX7_district_9 ?_
      refine g_X7_35 rfl dX7_district_10 hX ?_
      refine v_iload_2 dX7_district_13 ?_
      refine l_X7_143 rfl dX7_district_14 hO.1 ⟨Nat.le_of_ble_eq_true rfl, Nat.le_of_ble_eq_true rfl⟩ (Nat.le_of_ble_eq_true rfl) ⟨Nat.le_refl _, Nat.le_refl _⟩ (c_X2_hasHour hO hw.hr hh ?_)
      refine v_ifne_b (tgt := 22) dX7_district_17 rfl (fun c17 => ?_) (fun c17 => ?_)
      · refine v_aload_0 dX7_district_22 ?_
        refine g_X7_35 rfl dX7_district_23 hX ?_
        refine v_iload_1 dX7_district_26 ?_
        refine v_iload_2 dX7_district_27 ?_
        refine l_X7_146 rfl dX7_district_28 hO.1 ⟨Nat.le_of_ble_eq_true rfl, Nat.le_of_ble_eq_true rfl⟩ (Nat.le_of_ble_eq_true rfl) ⟨Nat.le_refl _, Nat.le_refl _⟩ (c_X2_worstStationAt hO hw hd hh ?_)
        refine v_istore_4 dX7_district_31 (Nat.le_of_ble_eq_true rfl) rfl ?_
        refine v_iload_3 dX7_district_33 ?_
        rcases (show t = 0 ∨ t = 1 ∨ t = 2 ∨ t = 3 ∨ (t < 0 ∨ 3 < t) by omega) with rfl | rfl | rfl | rfl | tn
        · refine v_swin (tgt := 64) dX7_district_34 ⟨by omega, by omega⟩ (by omega) (by omega) rfl rfl ?_
          refine v_aload_0 dX7_district_64 ?_
          refine g_X7_35 rfl dX7_district_65 hX ?_
          refine v_iload_4 dX7_district_68 ?_
          refine v_iload_2 dX7_district_70 ?_
          refine l_X7_133 rfl dX7_district_71 hO.1 ⟨Nat.le_of_ble_eq_true rfl, Nat.le_of_ble_eq_true rfl⟩ (Nat.le_of_ble_eq_true rfl) ⟨Nat.le_refl _, Nat.le_refl _⟩ (c_X2_indexAt hO hw ⟨by have := ws_val hw d h; have := hw.2.2.1; omega, by have := ws_val hw d h; have := hw.2.2.1; omega⟩ hh ?_)
          exact v_iret dX7_district_74 rfl (Nat.le_refl _) (Nat.le_refl _) (by rw [qDs_0 ⟨⟨by omega, by omega⟩, by omega, by omega⟩] at hp; exact hp)
        · refine v_swin (tgt := 75) dX7_district_34 ⟨by omega, by omega⟩ (by omega) (by omega) rfl rfl ?_
          refine v_iload_4 dX7_district_75 ?_
          exact v_iret dX7_district_77 rfl (Nat.le_refl _) (Nat.le_refl _) (by rw [qDs_1 ⟨⟨by omega, by omega⟩, by omega, by omega⟩] at hp; exact hp)
        · refine v_swin (tgt := 78) dX7_district_34 ⟨by omega, by omega⟩ (by omega) (by omega) rfl rfl ?_
          refine v_aload_0 dX7_district_78 ?_
          refine g_X7_35 rfl dX7_district_79 hX ?_
          refine v_aload_0 dX7_district_82 ?_
          refine g_X7_35 rfl dX7_district_83 hX ?_
          refine v_iload_4 dX7_district_86 ?_
          refine v_iload_2 dX7_district_88 ?_
          refine l_X7_133 rfl dX7_district_89 hO.1 ⟨Nat.le_of_ble_eq_true rfl, Nat.le_of_ble_eq_true rfl⟩ (Nat.le_of_ble_eq_true rfl) ⟨Nat.le_refl _, Nat.le_refl _⟩ (c_X2_indexAt hO hw ⟨by have := ws_val hw d h; have := hw.2.2.1; omega, by have := ws_val hw d h; have := hw.2.2.1; omega⟩ hh ?_)
          refine l_X7_140 rfl dX7_district_92 hO.1 ⟨Nat.le_of_ble_eq_true rfl, Nat.le_of_ble_eq_true rfl⟩ (Nat.le_of_ble_eq_true rfl) ⟨Nat.le_refl _, Nat.le_refl _⟩ (c_X2_bandOf hO hw ⟨by have := ix_bd hw (wsW w d h) h; omega, by have := ix_bd hw (wsW w d h) h; omega⟩ ?_)
          exact v_iret dX7_district_95 rfl (Nat.le_refl _) (Nat.le_refl _) (by rw [qDs_2 ⟨⟨by omega, by omega⟩, by omega, by omega⟩] at hp; exact hp)
        · refine v_swin (tgt := 96) dX7_district_34 ⟨by omega, by omega⟩ (by omega) (by omega) rfl rfl ?_
          refine v_aload_0 dX7_district_96 ?_
          refine g_X7_35 rfl dX7_district_97 hX ?_
          refine v_iload_1 dX7_district_100 ?_
          refine v_iload_2 dX7_district_101 ?_
          refine l_X7_149 rfl dX7_district_102 hO.1 ⟨Nat.le_of_ble_eq_true rfl, Nat.le_of_ble_eq_true rfl⟩ (Nat.le_of_ble_eq_true rfl) ⟨Nat.le_refl _, Nat.le_refl _⟩ (c_X2_countIndexed hO hw hd hh ?_)
          exact v_iret dX7_district_105 rfl (Nat.le_refl _) (Nat.le_refl _) (by rw [qDs_3 ⟨⟨by omega, by omega⟩, by omega, by omega⟩] at hp; exact hp)
        · refine v_swout (tgt := 106) dX7_district_34 ht tn rfl ?_
          refine v_iconst dX7_district_106 ?_
          exact v_iret dX7_district_107 rfl (Nat.le_refl _) (Nat.le_refl _) (by rw [qDs_n tn] at hp; exact hp)
      · refine v_iconst dX7_district_20 ?_
        exact v_iret dX7_district_21 rfl (Nat.le_refl _) (Nat.le_refl _) (by unfold qDs at hp; rw [if_neg (fun q => by have := hw.1; omega)] at hp; exact hp)

set_option maxRecDepth 100000 in
theorem lp_X7_lasts {E : Ev} {M : Mem} {Post : Option Value → Mem → Prop} {x o : Nat} {f0 f1 f2 f4 : Value} {w : Int → Int} (hX : M[x]? = some (ob 7 [f0, f1, f2, rr E o, f4])) (hO : OffAt E M o w) (hw : WF w) {s h b : Int} (s0 : 0 ≤ s) (s1 : s < w 2) (h0 : 0 ≤ h) (h1 : h < w 0) (b0 : 1 ≤ b) (b1 : b ≤ 3) (hp : Post (some (iv (lsN (fun x => bdW w (ixW w s x)) b (h + 1).toNat))) M) : V E rX7_lasts mX7_lasts (finM E rX7_lasts Post) 0 0 M 40 [some (rr E x), some (iv s), some (iv h), some (iv b), some (iv 0), some (iv h)] [] := by
  have n0 := hw.1
  have n2 := hw.2.2.1
  have lp : ∀ (r : Nat) (n y : Int), (-1 ≤ y) → (y ≤ h) → (lsN (fun x => bdW w (ixW w s x)) b (h + 1).toNat = n + lsN (fun x => bdW w (ixW w s x)) b (y + 1).toNat) → y + 1 < (r : Int) → V E rX7_lasts mX7_lasts (finM E rX7_lasts Post) 0 0 M 40 [some (rr E x), some (iv s), some (iv h), some (iv b), some (iv n), some (iv y)] [] := by
    intro r
    induction r with
    | zero => intro n y h_0 h_1 h_2 hz; exact absurd hz (by omega)
    | succ r ih =>
      intro n y h_0 h_1 h_2 hz
      refine v_iload_5 dX7_lasts_40 ?_
      refine v_if_lt (tgt := 78) dX7_lasts_42 rfl ⟨by omega, by omega⟩ (fun c42 => ?_) (fun c42 => ?_)
      · refine v_iload_4 dX7_lasts_78 ?_
        exact v_iret dX7_lasts_80 rfl (Nat.le_refl _) (Nat.le_refl _) (by rw [h_2, show (y + 1).toNat = 0 by omega, lsN, Int.add_zero] at hp; exact hp)
      · refine v_aload_0 dX7_lasts_45 ?_
        refine g_X7_35 rfl dX7_lasts_46 hX ?_
        refine v_aload_0 dX7_lasts_49 ?_
        refine g_X7_35 rfl dX7_lasts_50 hX ?_
        refine v_iload_1 dX7_lasts_53 ?_
        refine v_iload_5 dX7_lasts_54 ?_
        refine l_X7_133 rfl dX7_lasts_56 hO.1 ⟨Nat.le_of_ble_eq_true rfl, Nat.le_of_ble_eq_true rfl⟩ (Nat.le_of_ble_eq_true rfl) ⟨Nat.le_refl _, Nat.le_refl _⟩ (c_X2_indexAt hO hw ⟨by omega, by omega⟩ ⟨by omega, by omega⟩ ?_)
        refine l_X7_140 rfl dX7_lasts_59 hO.1 ⟨Nat.le_of_ble_eq_true rfl, Nat.le_of_ble_eq_true rfl⟩ (Nat.le_of_ble_eq_true rfl) ⟨Nat.le_refl _, Nat.le_refl _⟩ (c_X2_bandOf hO hw ⟨by have := ix_bd hw s y; omega, by have := ix_bd hw s y; omega⟩ ?_)
        refine v_iload_3 dX7_lasts_62 ?_
        have b1 := bd_bd (w := w) (ixW w s y)
        refine v_icmp_ge (tgt := 69) dX7_lasts_63 rfl ⟨by omega, by omega⟩ ⟨by omega, by omega⟩ (fun c63 => ?_) (fun c63 => ?_)
        · refine v_iinc_4 dX7_lasts_69 (Nat.le_of_ble_eq_true rfl) rfl ?_
          refine v_iinc_5 dX7_lasts_72 (Nat.le_of_ble_eq_true rfl) rfl ?_
          refine v_goto (tgt := 40) dX7_lasts_75 rfl ?_
          exact ih (n + 1) (y + -1) (by omega) (by omega) (by rw [h_2, ls_st _ _ (show 0 ≤ y by omega), if_pos (by omega), show y + -1 + 1 = y by omega]; omega) (by omega)
        · refine v_goto (tgt := 78) dX7_lasts_66 rfl ?_
          refine v_iload_4 dX7_lasts_78 ?_
          exact v_iret dX7_lasts_80 rfl (Nat.le_refl _) (Nat.le_refl _) (by rw [h_2, ls_st _ _ (show 0 ≤ y by omega), if_neg (by omega), Int.add_zero] at hp; exact hp)
  exact lp (h + 2).toNat 0 h (by omega) (by omega) (by rw [Int.zero_add]) (by omega)

set_option maxRecDepth 100000 in
theorem c_X7_lasts {E : Ev} {M : Mem} {Post : Option Value → Mem → Prop} {x o : Nat} {f0 f1 f2 f4 : Value} {w : Int → Int} (hX : M[x]? = some (ob 7 [f0, f1, f2, rr E o, f4])) (hO : OffAt E M o w) (hw : WF w) {s h b : Int} (hs : I32 s) (hh : I32 h) (hb : I32 b) (hp : Post (some (iv (qLs w s h b))) M) : Cn E rX7_lasts mX7_lasts [rr E x, iv s, iv h, iv b] M Post := by
  refine Cn.of (L := [some (rr E x), some (iv s), some (iv h), some (iv b), none, none]) (by decide) (Nat.le_of_ble_eq_true rfl) rfl ?_
  refine v_aload_0 dX7_lasts_0 ?_
  refine g_X7_35 rfl dX7_lasts_1 hX ?_
  refine v_iload_1 dX7_lasts_4 ?_
  refine l_X7_152 rfl dX7_lasts_5 hO.1 ⟨Nat.le_of_ble_eq_true rfl, Nat.le_of_ble_eq_true rfl⟩ (Nat.le_of_ble_eq_true rfl) ⟨Nat.le_refl _, Nat.le_refl _⟩ (c_X2_hasStation hO hw.hr hs ?_)
  refine v_ifeq_b (tgt := 32) dX7_lasts_8 rfl (fun c8 => ?_) (fun c8 => ?_)
  · refine v_iconst dX7_lasts_32 ?_
    exact v_iret dX7_lasts_33 rfl (Nat.le_refl _) (Nat.le_refl _) (by unfold qLs at hp; rw [if_neg (fun q => by have := hw.1; have := hw.2.2.1; omega)] at hp; exact hp)
  · refine v_aload_0 dX7_lasts_11 ?_
    refine g_X7_35 rfl dX7_lasts_12 hX ?_
    refine v_iload_2 dX7_lasts_15 ?_
    refine l_X7_143 rfl dX7_lasts_16 hO.1 ⟨Nat.le_of_ble_eq_true rfl, Nat.le_of_ble_eq_true rfl⟩ (Nat.le_of_ble_eq_true rfl) ⟨Nat.le_refl _, Nat.le_refl _⟩ (c_X2_hasHour hO hw.hr hh ?_)
    refine v_ifeq_b (tgt := 32) dX7_lasts_19 rfl (fun c19 => ?_) (fun c19 => ?_)
    · refine v_iconst dX7_lasts_32 ?_
      exact v_iret dX7_lasts_33 rfl (Nat.le_refl _) (Nat.le_refl _) (by unfold qLs at hp; rw [if_neg (fun q => by have := hw.1; have := hw.2.2.1; omega)] at hp; exact hp)
    · refine v_iload_3 dX7_lasts_22 ?_
      refine v_iconst dX7_lasts_23 ?_
      refine v_icmp_lt (tgt := 32) dX7_lasts_24 rfl hb ⟨by omega, by omega⟩ (fun c24 => ?_) (fun c24 => ?_)
      · refine v_iconst dX7_lasts_32 ?_
        exact v_iret dX7_lasts_33 rfl (Nat.le_refl _) (Nat.le_refl _) (by unfold qLs at hp; rw [if_neg (fun q => by have := hw.1; have := hw.2.2.1; omega)] at hp; exact hp)
      · refine v_iload_3 dX7_lasts_27 ?_
        refine v_iconst dX7_lasts_28 ?_
        refine v_icmp_le (tgt := 34) dX7_lasts_29 rfl hb ⟨by omega, by omega⟩ (fun c29 => ?_) (fun c29 => ?_)
        · refine v_iconst dX7_lasts_34 ?_
          refine v_istore_4 dX7_lasts_35 (Nat.le_of_ble_eq_true rfl) rfl ?_
          refine v_iload_2 dX7_lasts_37 ?_
          refine v_istore_5 dX7_lasts_38 (Nat.le_of_ble_eq_true rfl) rfl ?_
          exact lp_X7_lasts hX hO hw (by omega) (by omega) (by omega) (by omega) (by omega) (by omega) (by unfold qLs at hp; rw [if_pos ⟨⟨⟨by omega, by omega⟩, by omega, by omega⟩, by omega, by omega⟩] at hp; exact hp)
        · refine v_iconst dX7_lasts_32 ?_
          exact v_iret dX7_lasts_33 rfl (Nat.le_refl _) (Nat.le_refl _) (by unfold qLs at hp; rw [if_neg (fun q => by have := hw.1; have := hw.2.2.1; omega)] at hp; exact hp)

set_option maxRecDepth 100000 in
theorem lp_X7_worst {E : Ev} {M : Mem} {Post : Option Value → Mem → Prop} {x o : Nat} {f0 f1 f2 f4 : Value} {w : Int → Int} (hX : M[x]? = some (ob 7 [f0, f1, f2, rr E o, f4])) (hO : OffAt E M o w) (hw : WF w) {s p q : Int} (s0 : 0 ≤ s) (s1 : s < w 2) (p0 : 0 ≤ p) (p1 : p < w 0) (q0 : 0 ≤ q) (q1 : q < w 0) (hp : Post (some (iv (bst (fun x => ixW w s x) p (q + 1 - p).toNat).2)) M) : V E rX7_worst mX7_worst (finM E rX7_worst Post) 0 0 M 44 [some (rr E x), some (iv s), some (iv p), some (iv q), some (iv (-1)), some (iv (-1)), some (iv p), none] [] := by
  have n0 := hw.1
  have n2 := hw.2.2.1
  by_cases hpq : p ≤ q + 1
  · skip
    have lp : ∀ (r : Nat) (y : Int), (p ≤ y) → (y ≤ q + 1) → q + 1 - y < (r : Int) → V E rX7_worst mX7_worst (finM E rX7_worst Post) 0 0 M 44 [some (rr E x), some (iv s), some (iv p), some (iv q), some (iv (bst (fun x => ixW w s x) p (y - p).toNat).1), some (iv (bst (fun x => ixW w s x) p (y - p).toNat).2), some (iv y), none] [] := by
      intro r
      induction r with
      | zero => intro y h_0 h_1 hz; exact absurd hz (by omega)
      | succ r ih =>
        intro y h_0 h_1 hz
        refine v_iload_6 dX7_worst_44 ?_
        refine v_iload_3 dX7_worst_46 ?_
        have b1 := bst_bd (f := fun x => ixW w s x) (a := p) (show (-1 : Int) ≤ 500 by omega) (y - p).toNat (fun i _ => (ix_bd hw s _).2)
        have b2 := ix_bd hw s y
        refine v_icmp_gt (tgt := 83) dX7_worst_47 rfl ⟨by omega, by omega⟩ ⟨by omega, by omega⟩ (fun c47 => ?_) (fun c47 => ?_)
        · refine v_iload_5 dX7_worst_83 ?_
          exact v_iret dX7_worst_85 rfl (Nat.le_refl _) (Nat.le_refl _) (by rw [show y = q + 1 by omega]; exact hp)
        · refine v_aload_0 dX7_worst_50 ?_
          refine g_X7_35 rfl dX7_worst_51 hX ?_
          refine v_iload_1 dX7_worst_54 ?_
          refine v_iload_6 dX7_worst_55 ?_
          refine l_X7_133 rfl dX7_worst_57 hO.1 ⟨Nat.le_of_ble_eq_true rfl, Nat.le_of_ble_eq_true rfl⟩ (Nat.le_of_ble_eq_true rfl) ⟨Nat.le_refl _, Nat.le_refl _⟩ (c_X2_indexAt hO hw ⟨by omega, by omega⟩ ⟨by omega, by omega⟩ ?_)
          refine v_istore_7 dX7_worst_60 (Nat.le_of_ble_eq_true rfl) rfl ?_
          refine v_iload_7 dX7_worst_62 ?_
          refine v_iload_4 dX7_worst_64 ?_
          refine v_icmp_le (tgt := 77) dX7_worst_66 rfl ⟨by omega, by omega⟩ ⟨by omega, by omega⟩ (fun c66 => ?_) (fun c66 => ?_)
          · refine v_iinc_6 dX7_worst_77 (Nat.le_of_ble_eq_true rfl) rfl ?_
            refine v_goto (tgt := 44) dX7_worst_80 rfl ?_
            exact v_weak [some (rr E x), some (iv s), some (iv p), some (iv q), some (iv (bst (fun x => ixW w s x) p ((y + 1) - p).toNat).1), some (iv (bst (fun x => ixW w s x) p ((y + 1) - p).toNat).2), some (iv (y + 1)), none] ⟨rfl, rfl, rfl, rfl, by rw [bst_st _ h_0, if_neg (by omega)], by rw [bst_st _ h_0, if_neg (by omega)], rfl, trivial⟩ (ih (y + 1) (by omega) (by omega) (by omega))
          · refine v_iload_7 dX7_worst_69 ?_
            refine v_istore_4 dX7_worst_71 (Nat.le_of_ble_eq_true rfl) rfl ?_
            refine v_iload_6 dX7_worst_73 ?_
            refine v_istore_5 dX7_worst_75 (Nat.le_of_ble_eq_true rfl) rfl ?_
            refine v_iinc_6 dX7_worst_77 (Nat.le_of_ble_eq_true rfl) rfl ?_
            refine v_goto (tgt := 44) dX7_worst_80 rfl ?_
            exact v_weak [some (rr E x), some (iv s), some (iv p), some (iv q), some (iv (bst (fun x => ixW w s x) p ((y + 1) - p).toNat).1), some (iv (bst (fun x => ixW w s x) p ((y + 1) - p).toNat).2), some (iv (y + 1)), none] ⟨rfl, rfl, rfl, rfl, by rw [bst_st _ h_0, if_pos (by omega)], by rw [bst_st _ h_0, if_pos (by omega)], rfl, trivial⟩ (ih (y + 1) (by omega) (by omega) (by omega))
    exact v_weak [some (rr E x), some (iv s), some (iv p), some (iv q), some (iv (bst (fun x => ixW w s x) p (p - p).toNat).1), some (iv (bst (fun x => ixW w s x) p (p - p).toNat).2), some (iv p), none] ⟨rfl, rfl, rfl, rfl, by rw [bst_z], by rw [bst_z], rfl, trivial⟩ (lp (q + 2 - p).toNat p (by omega) (by omega) (by omega))
  · refine v_iload_6 dX7_worst_44 ?_
    refine v_iload_3 dX7_worst_46 ?_
    refine v_icmp_gt (tgt := 83) dX7_worst_47 rfl ⟨by omega, by omega⟩ ⟨by omega, by omega⟩ (fun c => ?_) (fun c => absurd (by omega) c)
    refine v_iload_5 dX7_worst_83 ?_
    exact v_iret dX7_worst_85 rfl (Nat.le_refl _) (Nat.le_refl _) (by rw [show (q + 1 - p).toNat = 0 by omega] at hp; exact hp)

set_option maxRecDepth 100000 in
theorem c_X7_worst {E : Ev} {M : Mem} {Post : Option Value → Mem → Prop} {x o : Nat} {f0 f1 f2 f4 : Value} {w : Int → Int} (hX : M[x]? = some (ob 7 [f0, f1, f2, rr E o, f4])) (hO : OffAt E M o w) (hw : WF w) {s p q : Int} (hs : I32 s) (hp1 : I32 p) (hq1 : I32 q) (hp : Post (some (iv (qWo w s p q))) M) : Cn E rX7_worst mX7_worst [rr E x, iv s, iv p, iv q] M Post := by
  refine Cn.of (L := [some (rr E x), some (iv s), some (iv p), some (iv q), none, none, none, none]) (by decide) (Nat.le_of_ble_eq_true rfl) rfl ?_
  refine v_aload_0 dX7_worst_0 ?_
  refine g_X7_35 rfl dX7_worst_1 hX ?_
  refine v_iload_1 dX7_worst_4 ?_
  refine l_X7_152 rfl dX7_worst_5 hO.1 ⟨Nat.le_of_ble_eq_true rfl, Nat.le_of_ble_eq_true rfl⟩ (Nat.le_of_ble_eq_true rfl) ⟨Nat.le_refl _, Nat.le_refl _⟩ (c_X2_hasStation hO hw.hr hs ?_)
  refine v_ifeq_b (tgt := 33) dX7_worst_8 rfl (fun c8 => ?_) (fun c8 => ?_)
  · refine v_iconst dX7_worst_33 ?_
    exact v_iret dX7_worst_34 rfl (Nat.le_refl _) (Nat.le_refl _) (by unfold qWo at hp; rw [if_neg (fun q => by have := hw.1; have := hw.2.2.1; omega)] at hp; exact hp)
  · refine v_aload_0 dX7_worst_11 ?_
    refine g_X7_35 rfl dX7_worst_12 hX ?_
    refine v_iload_2 dX7_worst_15 ?_
    refine l_X7_143 rfl dX7_worst_16 hO.1 ⟨Nat.le_of_ble_eq_true rfl, Nat.le_of_ble_eq_true rfl⟩ (Nat.le_of_ble_eq_true rfl) ⟨Nat.le_refl _, Nat.le_refl _⟩ (c_X2_hasHour hO hw.hr hp1 ?_)
    refine v_ifeq_b (tgt := 33) dX7_worst_19 rfl (fun c19 => ?_) (fun c19 => ?_)
    · refine v_iconst dX7_worst_33 ?_
      exact v_iret dX7_worst_34 rfl (Nat.le_refl _) (Nat.le_refl _) (by unfold qWo at hp; rw [if_neg (fun q => by have := hw.1; have := hw.2.2.1; omega)] at hp; exact hp)
    · refine v_aload_0 dX7_worst_22 ?_
      refine g_X7_35 rfl dX7_worst_23 hX ?_
      refine v_iload_3 dX7_worst_26 ?_
      refine l_X7_143 rfl dX7_worst_27 hO.1 ⟨Nat.le_of_ble_eq_true rfl, Nat.le_of_ble_eq_true rfl⟩ (Nat.le_of_ble_eq_true rfl) ⟨Nat.le_refl _, Nat.le_refl _⟩ (c_X2_hasHour hO hw.hr hq1 ?_)
      refine v_ifne_b (tgt := 35) dX7_worst_30 rfl (fun c30 => ?_) (fun c30 => ?_)
      · refine v_iconst dX7_worst_35 ?_
        refine v_istore_4 dX7_worst_36 (Nat.le_of_ble_eq_true rfl) rfl ?_
        refine v_iconst dX7_worst_38 ?_
        refine v_istore_5 dX7_worst_39 (Nat.le_of_ble_eq_true rfl) rfl ?_
        refine v_iload_2 dX7_worst_41 ?_
        refine v_istore_6 dX7_worst_42 (Nat.le_of_ble_eq_true rfl) rfl ?_
        exact lp_X7_worst hX hO hw (by omega) (by omega) (by omega) (by omega) (by omega) (by omega) (by unfold qWo at hp; rw [if_pos ⟨⟨by omega, by omega⟩, ⟨by omega, by omega⟩, by omega, by omega⟩] at hp; exact hp)
      · refine v_iconst dX7_worst_33 ?_
        exact v_iret dX7_worst_34 rfl (Nat.le_refl _) (Nat.le_refl _) (by unfold qWo at hp; rw [if_neg (fun q => by have := hw.1; have := hw.2.2.1; omega)] at hp; exact hp)
