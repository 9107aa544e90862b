set_option maxRecDepth 100000 in
theorem c_X3_subAtLevel {E : Ev} {M : Mem} {Post : Option Value → Mem → Prop} {a : Nat} {p q n level : Int} {lv ix : Int → Int} (u1 : M[a]? = some (ob 3 [rr E (a + 1), rr E (a + 2), iv p, iv q, iv n])) (u2 : M[a + 1]? = some (ia E 0 5 lv)) (u3 : M[a + 2]? = some (ia E 0 5 ix)) (h1 : 1 ≤ p) (h2 : p ≤ 5) (hv : ∀ i, 0 ≤ i → i < p → 0 ≤ lv i ∧ lv i ≤ 999 ∧ 0 ≤ ix i ∧ ix i ≤ 500) (hm : ∀ i, 0 ≤ i → i + 1 < p → lv i < lv (i + 1) ∧ ix i ≤ ix (i + 1)) (hl : 0 ≤ level) (hl2 : level ≤ 999) (hp : Post (some (iv (scS lv ix level (p - 1).toNat))) M) : Cn E rX3_subAtLevel mX3_subAtLevel [rr E a, iv level] M Post := by
  have lp : ∀ (r : Nat) (i : Int), (1 ≤ i) → (i ≤ p) → p - i < (r : Int) → V E rX3_subAtLevel mX3_subAtLevel (finM E rX3_subAtLevel Post) 0 0 M 9 [some (rr E a), some (iv level), some (iv (scS lv ix level (i - 1).toNat)), some (iv i), none, none] [] := by
    intro r
    induction r with
    | zero => intro i h_0 h_1 hz; exact absurd hz (by omega)
    | succ r ih =>
      intro i h_0 h_1 hz
      refine v_iload_3 dX3_subAtLevel_9 ?_
      refine v_aload_0 dX3_subAtLevel_10 ?_
      refine g_X3_18 rfl dX3_subAtLevel_11 u1 ?_
      refine v_icmp_ge (tgt := 115) dX3_subAtLevel_14 rfl ⟨by omega, by omega⟩ ⟨by omega, by omega⟩ (fun c14 => ?_) (fun c14 => ?_)
      · refine v_iload_2 dX3_subAtLevel_115 ?_
        exact v_iret dX3_subAtLevel_116 rfl (Nat.le_refl _) (Nat.le_refl _) (by rw [show i = p by omega]; exact hp)
      · refine v_iload_3 dX3_subAtLevel_17 ?_
        refine v_iconst dX3_subAtLevel_18 ?_
        refine v_icmp_ge (tgt := 115) dX3_subAtLevel_19 rfl ⟨by omega, by omega⟩ ⟨by omega, by omega⟩ (fun c19 => absurd c19 (by omega)) (fun c19 => ?_)
        have l1 := hv (i - 1) (by omega) (by omega)
        have l2 := hv i (by omega) (by omega)
        have l3 := hm (i - 1) (by omega) (by omega)
        rw [show i - 1 + 1 = i by omega] at l3
        refine v_iload_1 dX3_subAtLevel_22 ?_
        refine v_aload_0 dX3_subAtLevel_23 ?_
        refine g_X3_9 rfl dX3_subAtLevel_24 u1 ?_
        refine v_iload_3 dX3_subAtLevel_27 ?_
        refine v_iconst dX3_subAtLevel_28 ?_
        refine v_isub dX3_subAtLevel_29 ?_
        refine v_iaload dX3_subAtLevel_30 u2 (by omega) (by omega) (by decide) ?_
        refine v_isub dX3_subAtLevel_31 ?_
        refine v_istore_4 dX3_subAtLevel_32 (Nat.le_of_ble_eq_true rfl) rfl ?_
        refine v_aload_0 dX3_subAtLevel_34 ?_
        refine g_X3_9 rfl dX3_subAtLevel_35 u1 ?_
        refine v_iload_3 dX3_subAtLevel_38 ?_
        refine v_iaload dX3_subAtLevel_39 u2 (by omega) (by omega) (by decide) ?_
        refine v_aload_0 dX3_subAtLevel_40 ?_
        refine g_X3_9 rfl dX3_subAtLevel_41 u1 ?_
        refine v_iload_3 dX3_subAtLevel_44 ?_
        refine v_iconst dX3_subAtLevel_45 ?_
        refine v_isub dX3_subAtLevel_46 ?_
        refine v_iaload dX3_subAtLevel_47 u2 (by omega) (by omega) (by decide) ?_
        refine v_isub dX3_subAtLevel_48 ?_
        refine v_istore_5 dX3_subAtLevel_49 (Nat.le_of_ble_eq_true rfl) rfl ?_
        refine v_iload_4 dX3_subAtLevel_51 ?_
        refine v_iload_5 dX3_subAtLevel_53 ?_
        refine v_icmp_lt (tgt := 68) dX3_subAtLevel_55 rfl ⟨by omega, by omega⟩ ⟨by omega, by omega⟩ (fun c55 => ?_) (fun c55 => ?_)
        · refine v_iload_4 dX3_subAtLevel_68 ?_
          refine v_if_le (tgt := 109) dX3_subAtLevel_70 rfl ⟨by omega, by omega⟩ (fun c70 => ?_) (fun c70 => ?_)
          · refine v_iinc_3 dX3_subAtLevel_109 (Nat.le_of_ble_eq_true rfl) rfl ?_
            refine v_goto (tgt := 9) dX3_subAtLevel_112 rfl ?_
            exact v_weak [some (rr E a), some (iv level), some (iv (scS lv ix level ((i + 1) - 1).toNat)), some (iv (i + 1)), none, none] ⟨rfl, rfl, by rw [scS_st _ _ _ h_0]; rw [if_neg (by omega), if_neg (by omega)], rfl, trivial⟩ (ih (i + 1) (by omega) (by omega) (by omega))
          · refine v_iload_5 dX3_subAtLevel_73 ?_
            refine v_if_le (tgt := 109) dX3_subAtLevel_75 rfl ⟨by omega, by omega⟩ (fun c75 => absurd c75 (by omega)) (fun c75 => ?_)
            refine v_aload_0 dX3_subAtLevel_78 ?_
            refine g_X3_15 rfl dX3_subAtLevel_79 u1 ?_
            refine v_iload_3 dX3_subAtLevel_82 ?_
            refine v_iconst dX3_subAtLevel_83 ?_
            refine v_isub dX3_subAtLevel_84 ?_
            refine v_iaload dX3_subAtLevel_85 u3 (by omega) (by omega) (by decide) ?_
            refine v_iload_4 dX3_subAtLevel_86 ?_
            refine v_aload_0 dX3_subAtLevel_88 ?_
            refine g_X3_15 rfl dX3_subAtLevel_89 u1 ?_
            refine v_iload_3 dX3_subAtLevel_92 ?_
            refine v_iaload dX3_subAtLevel_93 u3 (by omega) (by omega) (by decide) ?_
            refine v_aload_0 dX3_subAtLevel_94 ?_
            refine g_X3_15 rfl dX3_subAtLevel_95 u1 ?_
            refine v_iload_3 dX3_subAtLevel_98 ?_
            refine v_iconst dX3_subAtLevel_99 ?_
            refine v_isub dX3_subAtLevel_100 ?_
            refine v_iaload dX3_subAtLevel_101 u3 (by omega) (by omega) (by decide) ?_
            refine v_isub dX3_subAtLevel_102 ?_
            refine v_imul dX3_subAtLevel_103 ?_
            refine v_iload_5 dX3_subAtLevel_104 ?_
            refine v_idiv dX3_subAtLevel_106 (Int.mul_nonneg (by omega) (by omega)) (by have q1 := Int.mul_le_mul (show level - lv (i - 1) ≤ 999 by omega) (show ix i - ix (i - 1) ≤ 500 by omega) (by omega) (by omega); omega) (by omega) (by omega) ?_
            refine v_iadd dX3_subAtLevel_107 ?_
            refine v_istore_2 dX3_subAtLevel_108 (Nat.le_of_ble_eq_true rfl) rfl ?_
            refine v_iinc_3 dX3_subAtLevel_109 (Nat.le_of_ble_eq_true rfl) rfl ?_
            refine v_goto (tgt := 9) dX3_subAtLevel_112 rfl ?_
            exact v_weak [some (rr E a), some (iv level), some (iv (scS lv ix level ((i + 1) - 1).toNat)), some (iv (i + 1)), none, none] ⟨rfl, rfl, by rw [scS_st _ _ _ h_0]; rw [if_neg (by omega), if_pos ⟨by omega, by omega⟩], rfl, trivial⟩ (ih (i + 1) (by omega) (by omega) (by omega))
        · refine v_aload_0 dX3_subAtLevel_58 ?_
          refine g_X3_15 rfl dX3_subAtLevel_59 u1 ?_
          refine v_iload_3 dX3_subAtLevel_62 ?_
          refine v_iaload dX3_subAtLevel_63 u3 (by omega) (by omega) (by decide) ?_
          refine v_istore_2 dX3_subAtLevel_64 (Nat.le_of_ble_eq_true rfl) rfl ?_
          refine v_goto (tgt := 109) dX3_subAtLevel_65 rfl ?_
          refine v_iinc_3 dX3_subAtLevel_109 (Nat.le_of_ble_eq_true rfl) rfl ?_
          refine v_goto (tgt := 9) dX3_subAtLevel_112 rfl ?_
          exact v_weak [some (rr E a), some (iv level), some (iv (scS lv ix level ((i + 1) - 1).toNat)), some (iv (i + 1)), none, none] ⟨rfl, rfl, by rw [scS_st _ _ _ h_0]; rw [if_pos (by omega)], rfl, trivial⟩ (ih (i + 1) (by omega) (by omega) (by omega))
  refine Cn.of (L := [some (rr E a), some (iv level), none, none, none, none]) (by decide) (Nat.le_of_ble_eq_true rfl) rfl ?_
  refine v_aload_0 dX3_subAtLevel_0 ?_
  refine g_X3_15 rfl dX3_subAtLevel_1 u1 ?_
  refine v_iconst dX3_subAtLevel_4 ?_
  refine v_iaload dX3_subAtLevel_5 u3 (by omega) (by omega) (by decide) ?_
  refine v_istore_2 dX3_subAtLevel_6 (Nat.le_of_ble_eq_true rfl) rfl ?_
  refine v_iconst dX3_subAtLevel_7 ?_
  refine v_istore_3 dX3_subAtLevel_8 (Nat.le_of_ble_eq_true rfl) rfl ?_
  exact v_weak [some (rr E a), some (iv level), some (iv (scS lv ix level ((1 : Int) - 1).toNat)), some (iv 1), none, none] ⟨rfl, rfl, rfl, rfl, trivial⟩ (lp p.toNat 1 (by omega) (by omega) (by omega))

set_option maxRecDepth 100000 in
theorem c_X2_subAt_s {E : Ev} {M : Mem} {Post : Option Value → Mem → Prop} {o : Nat} {w : Int → Int} (hO : OffAt E M o w) (hw : WF w) {s k h : Int} (hs : I32 s) (hk : I32 k) (hh : I32 h) (h1 : 0 ≤ k) (h2 : k < w 1) (h3 : k < 3) (hp : Post (some (iv (sbW w s k h))) M) : Cn E rX2_subAt mX2_subAt [rr E o, iv s, iv k, iv h] M Post := by
  obtain ⟨p, q, n, lv, ix, u1, u2, u3, u4⟩ := hO.sub h1 h3
  obtain ⟨rfl, rfl, rfl, u5⟩ := u4 h2
  have hn := hw.2.2.2.2.2.1 k h1 h2
  have hmn := mn_bd hw s k h
  have es : mnW w s k h ≠ -1 → scS lv ix (mnW w s k h) (w (9 + 13 * k) - 1).toNat = sbW w s k h := by
    intro hc
    unfold sbW
    rw [if_neg hc]
    unfold scW
    exact scS_cong _ (fun i a b => u5 i a (by omega))
  refine Cn.of (L := [some (rr E o), some (iv s), some (iv k), some (iv h), none, none]) (by decide) (Nat.le_of_ble_eq_true rfl) rfl ?_
  refine v_aload_0 dX2_subAt_0 ?_
  refine v_iload_2 dX2_subAt_1 ?_
  refine l_X2_71 rfl dX2_subAt_2 hO.1 ⟨Nat.le_of_ble_eq_true rfl, Nat.le_of_ble_eq_true rfl⟩ (Nat.le_of_ble_eq_true rfl) ⟨Nat.le_refl _, Nat.le_refl _⟩ (c_X2_substanceAt hO hw.hr hk (fun _ _ _ => ?_) (fun q => absurd ⟨h1, h2, h3⟩ q))
  refine v_astore_4 dX2_subAt_5 (Nat.le_of_ble_eq_true rfl) rfl ?_
  refine v_aload_0 dX2_subAt_7 ?_
  refine v_iload_1 dX2_subAt_8 ?_
  refine v_iload_2 dX2_subAt_9 ?_
  refine v_iload_3 dX2_subAt_10 ?_
  refine l_X2_85 rfl dX2_subAt_11 hO.1 ⟨Nat.le_of_ble_eq_true rfl, Nat.le_of_ble_eq_true rfl⟩ (Nat.le_of_ble_eq_true rfl) ⟨Nat.le_refl _, Nat.le_refl _⟩ (c_X2_meanAt hO hw hs hk hh ?_)
  refine v_istore_5 dX2_subAt_14 (Nat.le_of_ble_eq_true rfl) rfl ?_
  refine v_aload_4 dX2_subAt_16 ?_
  refine v_ifnull_s dX2_subAt_18 ?_
  refine v_iload_5 dX2_subAt_21 ?_
  refine v_iconst dX2_subAt_23 ?_
  refine v_icmp_ne (tgt := 31) dX2_subAt_24 rfl ⟨by omega, by omega⟩ ⟨by omega, by omega⟩ (fun c24 => ?_) (fun c24 => ?_)
  · refine v_aload_4 dX2_subAt_31 ?_
    refine v_iload_5 dX2_subAt_33 ?_
    refine l_X2_88 rfl dX2_subAt_35 u1 ⟨Nat.le_of_ble_eq_true rfl, Nat.le_of_ble_eq_true rfl⟩ (Nat.le_of_ble_eq_true rfl) ⟨Nat.le_refl _, Nat.le_refl _⟩ (c_X3_subAtLevel u1 u2 u3 (by omega) (by omega) (fun i a b => by have := u5 i a b; rw [this.1, this.2]; exact hw.2.2.2.2.2.2.1 k i h1 h2 a b) (fun i a b => by have e1 := u5 i a (by omega); have e2 := u5 (i + 1) (by omega) b; rw [e1.1, e1.2, e2.1, e2.2]; exact hw.2.2.2.2.2.2.2.1 k i h1 h2 a b) (by omega) (by omega) ?_)
    exact v_iret dX2_subAt_38 rfl (Nat.le_refl _) (Nat.le_refl _) (by rw [es c24]; exact hp)
  · refine v_iconst dX2_subAt_27 ?_
    refine v_goto (tgt := 38) dX2_subAt_28 rfl ?_
    exact v_iret dX2_subAt_38 rfl (Nat.le_refl _) (Nat.le_refl _) (by have e : sbW w s k h = -1 := if_pos c24; rw [e] at hp; exact hp)

set_option maxRecDepth 100000 in
theorem c_X2_subAt_n {E : Ev} {M : Mem} {Post : Option Value → Mem → Prop} {o : Nat} {w : Int → Int} (hO : OffAt E M o w) (hw : WF w) {s k h : Int} (hs : I32 s) (hk : I32 k) (hh : I32 h) (hn : ¬ (0 ≤ k ∧ k < w 1 ∧ k < 3)) (hp : Post (some (iv (sbW w s k h))) M) : Cn E rX2_subAt mX2_subAt [rr E o, iv s, iv k, iv h] M Post := by
  refine Cn.of (L := [some (rr E o), some (iv s), some (iv k), some (iv h), none, none]) (by decide) (Nat.le_of_ble_eq_true rfl) rfl ?_
  refine v_aload_0 dX2_subAt_0 ?_
  refine v_iload_2 dX2_subAt_1 ?_
  refine l_X2_71 rfl dX2_subAt_2 hO.1 ⟨Nat.le_of_ble_eq_true rfl, Nat.le_of_ble_eq_true rfl⟩ (Nat.le_of_ble_eq_true rfl) ⟨Nat.le_refl _, Nat.le_refl _⟩ (c_X2_substanceAt hO hw.hr hk (fun a b c => absurd ⟨a, b, c⟩ hn) (fun _ => ?_))
  refine v_astore_4 dX2_subAt_5 (Nat.le_of_ble_eq_true rfl) rfl ?_
  refine v_aload_0 dX2_subAt_7 ?_
  refine v_iload_1 dX2_subAt_8 ?_
  refine v_iload_2 dX2_subAt_9 ?_
  refine v_iload_3 dX2_subAt_10 ?_
  refine l_X2_85 rfl dX2_subAt_11 hO.1 ⟨Nat.le_of_ble_eq_true rfl, Nat.le_of_ble_eq_true rfl⟩ (Nat.le_of_ble_eq_true rfl) ⟨Nat.le_refl _, Nat.le_refl _⟩ (c_X2_meanAt hO hw hs hk hh ?_)
  refine v_istore_5 dX2_subAt_14 (Nat.le_of_ble_eq_true rfl) rfl ?_
  refine v_aload_4 dX2_subAt_16 ?_
  refine v_ifnull_n (tgt := 27) dX2_subAt_18 rfl ?_
  refine v_iconst dX2_subAt_27 ?_
  refine v_goto (tgt := 38) dX2_subAt_28 rfl ?_
  exact v_iret dX2_subAt_38 rfl (Nat.le_refl _) (Nat.le_refl _) (by rw [sb_neg (fun q => hn ⟨q.2.2.2.1, q.2.2.2.2.1, q.2.2.2.2.2.1⟩)] at hp; exact hp)

theorem c_X2_subAt {E : Ev} {M : Mem} {Post : Option Value → Mem → Prop} {o : Nat} {w : Int → Int} (hO : OffAt E M o w) (hw : WF w) {s k h : Int} (hs : I32 s) (hk : I32 k) (hh : I32 h) (hp : Post (some (iv (sbW w s k h))) M) : Cn E rX2_subAt mX2_subAt [rr E o, iv s, iv k, iv h] M Post := by
  by_cases hc : 0 ≤ k ∧ k < w 1 ∧ k < 3
  · exact c_X2_subAt_s hO hw hs hk hh hc.1 hc.2.1 hc.2.2 hp
  · exact c_X2_subAt_n hO hw hs hk hh hc hp

set_option maxRecDepth 100000 in
theorem c_X2_indexAt {E : Ev} {M : Mem} {Post : Option Value → Mem → Prop} {o : Nat} {w : Int → Int} (hO : OffAt E M o w) (hw : WF w) {s h : Int} (hs : I32 s) (hh : I32 h) (hp : Post (some (iv (ixW w s h))) M) : Cn E rX2_indexAt mX2_indexAt [rr E o, iv s, iv h] M Post := by
  have lp : ∀ (r : Nat) (k : Int), (0 ≤ k) → (k ≤ w 1) → w 1 - k < (r : Int) → V E rX2_indexAt mX2_indexAt (finM E rX2_indexAt Post) 0 0 M 5 [some (rr E o), some (iv s), some (iv h), some (iv (mx1 (fun k => sbW w s k h) k.toNat)), some (iv k)] [] := by
    intro r
    induction r with
    | zero => intro k h_0 h_1 hz; exact absurd hz (by omega)
    | succ r ih =>
      intro k h_0 h_1 hz
      refine v_iload_4 dX2_indexAt_5 ?_
      refine v_aload_0 dX2_indexAt_7 ?_
      refine g_X2_34 rfl dX2_indexAt_8 hO.1 ?_
      have hn := hw.2.1
      have b1 := mx1_bd (f := fun k => sbW w s k h) (lo := 0) (show (-1 : Int) ≤ 500 by omega) k.toNat (fun i _ => (sb_bd hw s i h).2)
      have b2 := sb_bd hw s k h
      refine v_icmp_ge (tgt := 33) dX2_indexAt_11 rfl ⟨by omega, by omega⟩ ⟨by omega, by omega⟩ (fun c11 => ?_) (fun c11 => ?_)
      · refine v_iload_3 dX2_indexAt_33 ?_
        exact v_iret dX2_indexAt_34 rfl (Nat.le_refl _) (Nat.le_refl _) (by rw [show k = w 1 by omega]; exact hp)
      · refine v_iload_3 dX2_indexAt_14 ?_
        refine v_aload_0 dX2_indexAt_15 ?_
        refine v_iload_1 dX2_indexAt_16 ?_
        refine v_iload_4 dX2_indexAt_17 ?_
        refine v_iload_2 dX2_indexAt_19 ?_
        refine l_X2_92 rfl dX2_indexAt_20 hO.1 ⟨Nat.le_of_ble_eq_true rfl, Nat.le_of_ble_eq_true rfl⟩ (Nat.le_of_ble_eq_true rfl) ⟨Nat.le_refl _, Nat.le_refl _⟩ (c_X2_subAt hO hw hs ⟨by omega, by omega⟩ hh ?_)
        refine l_X2_75 rfl dX2_indexAt_23 ⟨by omega, by omega⟩ ⟨by omega, by omega⟩ (Nat.le_of_ble_eq_true rfl) (Nat.le_of_ble_eq_true rfl) ⟨Nat.le_refl _, Nat.le_refl _⟩ ?_
        refine v_istore_3 dX2_indexAt_26 (Nat.le_of_ble_eq_true rfl) rfl ?_
        refine v_iinc_4 dX2_indexAt_27 (Nat.le_of_ble_eq_true rfl) rfl ?_
        refine v_goto (tgt := 5) dX2_indexAt_30 rfl ?_
        exact v_weak [some (rr E o), some (iv s), some (iv h), some (iv (mx1 (fun k => sbW w s k h) (k + 1).toNat)), some (iv (k + 1))] ⟨rfl, rfl, rfl, by rw [mx1_st _ h_0], rfl, trivial⟩ (ih (k + 1) (by omega) (by omega) (by omega))
  refine Cn.of (L := [some (rr E o), some (iv s), some (iv h), none, none]) (by decide) (Nat.le_of_ble_eq_true rfl) rfl ?_
  refine v_iconst dX2_indexAt_0 ?_
  refine v_istore_3 dX2_indexAt_1 (Nat.le_of_ble_eq_true rfl) rfl ?_
  refine v_iconst dX2_indexAt_2 ?_
  refine v_istore_4 dX2_indexAt_3 (Nat.le_of_ble_eq_true rfl) rfl ?_
  exact v_weak [some (rr E o), some (iv s), some (iv h), some (iv (mx1 (fun k => sbW w s k h) (0 : Int).toNat)), some (iv 0)] ⟨rfl, rfl, rfl, rfl, rfl, trivial⟩ (lp (w 1 + 1).toNat 0 (by omega) (by have := hw.2.1; omega) (by have := hw.2.1; omega))

set_option maxRecDepth 100000 in
theorem c_X2_rulingAt {E : Ev} {M : Mem} {Post : Option Value → Mem → Prop} {o : Nat} {w : Int → Int} (hO : OffAt E M o w) (hw : WF w) {s h : Int} (hs : I32 s) (hh : I32 h) (hp : Post (some (iv (rlW w s h))) M) : Cn E rX2_rulingAt mX2_rulingAt [rr E o, iv s, iv h] M Post := by
  have lp : ∀ (r : Nat) (k : Int), (0 ≤ k) → (k ≤ w 1) → (rlW w s h = if ixW w s h = -1 then -1 else fnd (fun k => sbW w s k h) (ixW w s h) k (w 1 - k).toNat) → w 1 - k < (r : Int) → V E rX2_rulingAt mX2_rulingAt (finM E rX2_rulingAt Post) 0 0 M 10 [some (rr E o), some (iv s), some (iv h), some (iv (ixW w s h)), some (iv k)] [] := by
    intro r
    induction r with
    | zero => intro k h_0 h_1 h_2 hz; exact absurd hz (by omega)
    | succ r ih =>
      intro k h_0 h_1 h_2 hz
      refine v_iload_4 dX2_rulingAt_10 ?_
      refine v_aload_0 dX2_rulingAt_12 ?_
      refine g_X2_34 rfl dX2_rulingAt_13 hO.1 ?_
      have hn := hw.2.1
      have b1 := ix_bd hw s h
      have b2 := sb_bd hw s k h
      refine v_icmp_ge (tgt := 45) dX2_rulingAt_16 rfl ⟨by omega, by omega⟩ ⟨by omega, by omega⟩ (fun c16 => ?_) (fun c16 => ?_)
      · refine v_iconst dX2_rulingAt_45 ?_
        exact v_iret dX2_rulingAt_46 rfl (Nat.le_refl _) (Nat.le_refl _) (by rw [h_2, fnd_z _ _ (by omega)] at hp; split at hp <;> exact hp)
      · refine v_iload_3 dX2_rulingAt_19 ?_
        refine v_iconst dX2_rulingAt_20 ?_
        refine v_icmp_eq (tgt := 39) dX2_rulingAt_21 rfl ⟨by omega, by omega⟩ ⟨by omega, by omega⟩ (fun c21 => ?_) (fun c21 => ?_)
        · refine v_iinc_4 dX2_rulingAt_39 (Nat.le_of_ble_eq_true rfl) rfl ?_
          refine v_goto (tgt := 10) dX2_rulingAt_42 rfl ?_
          exact ih (k + 1) (by omega) (by omega) (by rw [h_2, if_pos c21, if_pos c21]) (by omega)
        · refine v_aload_0 dX2_rulingAt_24 ?_
          refine v_iload_1 dX2_rulingAt_25 ?_
          refine v_iload_4 dX2_rulingAt_26 ?_
          refine v_iload_2 dX2_rulingAt_28 ?_
          refine l_X2_92 rfl dX2_rulingAt_29 hO.1 ⟨Nat.le_of_ble_eq_true rfl, Nat.le_of_ble_eq_true rfl⟩ (Nat.le_of_ble_eq_true rfl) ⟨Nat.le_refl _, Nat.le_refl _⟩ (c_X2_subAt hO hw hs ⟨by omega, by omega⟩ hh ?_)
          refine v_iload_3 dX2_rulingAt_32 ?_
          refine v_icmp_ne (tgt := 39) dX2_rulingAt_33 rfl ⟨by omega, by omega⟩ ⟨by omega, by omega⟩ (fun c33 => ?_) (fun c33 => ?_)
          · refine v_iinc_4 dX2_rulingAt_39 (Nat.le_of_ble_eq_true rfl) rfl ?_
            refine v_goto (tgt := 10) dX2_rulingAt_42 rfl ?_
            exact ih (k + 1) (by omega) (by omega) (by rw [h_2, if_neg c21, if_neg c21, fnd_st _ _ (by omega), if_neg c33]) (by omega)
          · refine v_iload_4 dX2_rulingAt_36 ?_
            exact v_iret dX2_rulingAt_38 rfl (Nat.le_refl _) (Nat.le_refl _) (by rw [h_2, if_neg c21, fnd_st _ _ (by omega), if_pos c33] at hp; exact hp)
  refine Cn.of (L := [some (rr E o), some (iv s), some (iv h), none, none]) (by decide) (Nat.le_of_ble_eq_true rfl) rfl ?_
  refine v_aload_0 dX2_rulingAt_0 ?_
  refine v_iload_1 dX2_rulingAt_1 ?_
  refine v_iload_2 dX2_rulingAt_2 ?_
  refine l_X2_95 rfl dX2_rulingAt_3 hO.1 ⟨Nat.le_of_ble_eq_true rfl, Nat.le_of_ble_eq_true rfl⟩ (Nat.le_of_ble_eq_true rfl) ⟨Nat.le_refl _, Nat.le_refl _⟩ (c_X2_indexAt hO hw hs hh ?_)
  refine v_istore_3 dX2_rulingAt_6 (Nat.le_of_ble_eq_true rfl) rfl ?_
  refine v_iconst dX2_rulingAt_7 ?_
  refine v_istore_4 dX2_rulingAt_8 (Nat.le_of_ble_eq_true rfl) rfl ?_
  exact lp (w 1 + 1).toNat 0 (by omega) (by have := hw.2.1; omega) (by unfold rlW; rw [Int.sub_zero]) (by have := hw.2.1; omega)

set_option maxRecDepth 100000 in
theorem c_X2_worstStationAt {E : Ev} {M : Mem} {Post : Option Value → Mem → Prop} {o : Nat} {w : Int → Int} (hO : OffAt E M o w) (hw : WF w) {d h : Int} (hd : I32 d) (hh : I32 h) (hp : Post (some (iv (wsW w d h))) M) : Cn E rX2_worstStationAt mX2_worstStationAt [rr E o, iv d, iv h] M Post := by
  obtain ⟨f, hf, hf2⟩ := hO.2.2.2.1
  have lp : ∀ (r : Nat) (s : Int), (0 ≤ s) → (s ≤ w 2) → w 2 - s < (r : Int) → V E rX2_worstStationAt mX2_worstStationAt (finM E rX2_worstStationAt Post) 0 0 M 8 [some (rr E o), some (iv d), some (iv h), some (iv (bst (dsI w d h) 0 (s - 0).toNat).1), some (iv (bst (dsI w d h) 0 (s - 0).toNat).2), some (iv s), none] [] := by
    intro r
    induction r with
    | zero => intro s h_0 h_1 hz; exact absurd hz (by omega)
    | succ r ih =>
      intro s h_0 h_1 hz
      refine v_iload_5 dX2_worstStationAt_8 ?_
      refine v_aload_0 dX2_worstStationAt_10 ?_
      refine g_X2_37 rfl dX2_worstStationAt_11 hO.1 ?_
      have hn := hw.2.2.1
      have b1 := bst_bd (f := dsI w d h) (a := 0) (show (-1 : Int) ≤ 500 by omega) (s - 0).toNat (fun i _ => (ds_bd hw d h _).2)
      have b2 := ix_bd hw s h
      refine v_icmp_ge (tgt := 66) dX2_worstStationAt_14 rfl ⟨by omega, by omega⟩ ⟨by omega, by omega⟩ (fun c14 => ?_) (fun c14 => ?_)
      · refine v_iload_4 dX2_worstStationAt_66 ?_
        exact v_iret dX2_worstStationAt_68 rfl (Nat.le_refl _) (Nat.le_refl _) (by rw [show s = w 2 by omega, Int.sub_zero]; exact hp)
      · refine v_iload_5 dX2_worstStationAt_17 ?_
        refine v_iconst dX2_worstStationAt_19 ?_
        refine v_icmp_ge (tgt := 66) dX2_worstStationAt_20 rfl ⟨by omega, by omega⟩ ⟨by omega, by omega⟩ (fun c20 => absurd c20 (by omega)) (fun c20 => ?_)
        refine v_aload_0 dX2_worstStationAt_23 ?_
        refine g_X2_21 rfl dX2_worstStationAt_24 hO.1 ?_
        refine v_iload_5 dX2_worstStationAt_27 ?_
        refine v_iaload dX2_worstStationAt_29 hf (by omega) (by omega) (by decide) ?_
        rw [hf2 _ (by omega) (by omega) (by omega)]
        have b3 := hw.2.2.2.2.2.2.2.2.1 s (by omega) (by omega)
        refine v_iload_1 dX2_worstStationAt_30 ?_
        refine v_icmp_ne (tgt := 44) dX2_worstStationAt_31 rfl ⟨by omega, by omega⟩ hd (fun c31 => ?_) (fun c31 => ?_)
        · have e9 : dsI w d h s = -1 := if_neg c31
          refine v_iconst dX2_worstStationAt_44 ?_
          refine v_istore_6 dX2_worstStationAt_45 (Nat.le_of_ble_eq_true rfl) rfl ?_
          refine v_iload_6 dX2_worstStationAt_47 ?_
          refine v_iload_3 dX2_worstStationAt_49 ?_
          refine v_icmp_le (tgt := 60) dX2_worstStationAt_50 rfl ⟨by omega, by omega⟩ ⟨by omega, by omega⟩ (fun c50 => ?_) (fun c50 => ?_)
          · refine v_iinc_5 dX2_worstStationAt_60 (Nat.le_of_ble_eq_true rfl) rfl ?_
            refine v_goto (tgt := 8) dX2_worstStationAt_63 rfl ?_
            exact v_weak [some (rr E o), some (iv d), some (iv h), some (iv (bst (dsI w d h) 0 ((s + 1) - 0).toNat).1), some (iv (bst (dsI w d h) 0 ((s + 1) - 0).toNat).2), some (iv (s + 1)), none] ⟨rfl, rfl, rfl, by rw [bst_st _ h_0, e9, if_neg (by omega)], by rw [bst_st _ h_0, e9, if_neg (by omega)], rfl, trivial⟩ (ih (s + 1) (by omega) (by omega) (by omega))
          · refine v_iload_6 dX2_worstStationAt_53 ?_
            refine v_istore_3 dX2_worstStationAt_55 (Nat.le_of_ble_eq_true rfl) rfl ?_
            refine v_iload_5 dX2_worstStationAt_56 ?_
            refine v_istore_4 dX2_worstStationAt_58 (Nat.le_of_ble_eq_true rfl) rfl ?_
            refine v_iinc_5 dX2_worstStationAt_60 (Nat.le_of_ble_eq_true rfl) rfl ?_
            refine v_goto (tgt := 8) dX2_worstStationAt_63 rfl ?_
            exact v_weak [some (rr E o), some (iv d), some (iv h), some (iv (bst (dsI w d h) 0 ((s + 1) - 0).toNat).1), some (iv (bst (dsI w d h) 0 ((s + 1) - 0).toNat).2), some (iv (s + 1)), none] ⟨rfl, rfl, rfl, by rw [bst_st _ h_0, e9, if_pos (by omega)], by rw [bst_st _ h_0, e9, if_pos (by omega)], rfl, trivial⟩ (ih (s + 1) (by omega) (by omega) (by omega))
        · have e9 : dsI w d h s = ixW w s h := if_pos c31
          refine v_aload_0 dX2_worstStationAt_34 ?_
          refine v_iload_5 dX2_worstStationAt_35 ?_
          refine v_iload_2 dX2_worstStationAt_37 ?_
          refine l_X2_95 rfl dX2_worstStationAt_38 hO.1 ⟨Nat.le_of_ble_eq_true rfl, Nat.le_of_ble_eq_true rfl⟩ (Nat.le_of_ble_eq_true rfl) ⟨Nat.le_refl _, Nat.le_refl _⟩ (c_X2_indexAt hO hw ⟨by omega, by omega⟩ hh ?_)
          refine v_goto (tgt := 45) dX2_worstStationAt_41 rfl ?_
          refine v_istore_6 dX2_worstStationAt_45 (Nat.le_of_ble_eq_true rfl) rfl ?_
          refine v_iload_6 dX2_worstStationAt_47 ?_
          refine v_iload_3 dX2_worstStationAt_49 ?_
          refine v_icmp_le (tgt := 60) dX2_worstStationAt_50 rfl ⟨by omega, by omega⟩ ⟨by omega, by omega⟩ (fun c50 => ?_) (fun c50 => ?_)
          · refine v_iinc_5 dX2_worstStationAt_60 (Nat.le_of_ble_eq_true rfl) rfl ?_
            refine v_goto (tgt := 8) dX2_worstStationAt_63 rfl ?_
            exact v_weak [some (rr E o), some (iv d), some (iv h), some (iv (bst (dsI w d h) 0 ((s + 1) - 0).toNat).1), some (iv (bst (dsI w d h) 0 ((s + 1) - 0).toNat).2), some (iv (s + 1)), none] ⟨rfl, rfl, rfl, by rw [bst_st _ h_0, e9, if_neg (by omega)], by rw [bst_st _ h_0, e9, if_neg (by omega)], rfl, trivial⟩ (ih (s + 1) (by omega) (by omega) (by omega))
          · refine v_iload_6 dX2_worstStationAt_53 ?_
            refine v_istore_3 dX2_worstStationAt_55 (Nat.le_of_ble_eq_true rfl) rfl ?_
            refine v_iload_5 dX2_worstStationAt_56 ?_
            refine v_istore_4 dX2_worstStationAt_58 (Nat.le_of_ble_eq_true rfl) rfl ?_
            refine v_iinc_5 dX2_worstStationAt_60 (Nat.le_of_ble_eq_true rfl) rfl ?_
            refine v_goto (tgt := 8) dX2_worstStationAt_63 rfl ?_
            exact v_weak [some (rr E o), some (iv d), some (iv h), some (iv (bst (dsI w d h) 0 ((s + 1) - 0).toNat).1), some (iv (bst (dsI w d h) 0 ((s + 1) - 0).toNat).2), some (iv (s + 1)), none] ⟨rfl, rfl, rfl, by rw [bst_st _ h_0, e9, if_pos (by omega)], by rw [bst_st _ h_0, e9, if_pos (by omega)], rfl, trivial⟩ (ih (s + 1) (by omega) (by omega) (by omega))
  refine Cn.of (L := [some (rr E o), some (iv d), some (iv h), none, none, none, none]) (by decide) (Nat.le_of_ble_eq_true rfl) rfl ?_
  refine v_iconst dX2_worstStationAt_0 ?_
  refine v_istore_3 dX2_worstStationAt_1 (Nat.le_of_ble_eq_true rfl) rfl ?_
  refine v_iconst dX2_worstStationAt_2 ?_
  refine v_istore_4 dX2_worstStationAt_3 (Nat.le_of_ble_eq_true rfl) rfl ?_
  refine v_iconst dX2_worstStationAt_5 ?_
  refine v_istore_5 dX2_worstStationAt_6 (Nat.le_of_ble_eq_true rfl) rfl ?_
  exact v_weak [some (rr E o), some (iv d), some (iv h), some (iv (bst (dsI w d h) 0 ((0 : Int) - 0).toNat).1), some (iv (bst (dsI w d h) 0 ((0 : Int) - 0).toNat).2), some (iv (0 : Int)), none] ⟨rfl, rfl, rfl, rfl, rfl, rfl, trivial⟩ (lp (w 2 + 1).toNat 0 (by omega) (by have := hw.2.2.1; omega) (by have := hw.2.2.1; omega))

set_option maxRecDepth 100000 in
theorem c_X2_countIndexed {E : Ev} {M : Mem} {Post : Option Value → Mem → Prop} {o : Nat} {w : Int → Int} (hO : OffAt E M o w) (hw : WF w) {d h : Int} (hd : I32 d) (hh : I32 h) (hp : Post (some (iv (cnW w d h))) M) : Cn E rX2_countIndexed mX2_countIndexed [rr E o, iv d, iv h] M Post := by
  obtain ⟨f, hf, hf2⟩ := hO.2.2.2.1
  have lp : ∀ (r : Nat) (s : Int), (0 ≤ s) → (s ≤ w 2) → w 2 - s < (r : Int) → V E rX2_countIndexed mX2_countIndexed (finM E rX2_countIndexed Post) 0 0 M 5 [some (rr E o), some (iv d), some (iv h), some (iv (sm (fun s => if dsI w d h s = -1 then 0 else 1) 0 (s - 0).toNat)), some (iv s)] [] := by
    intro r
    induction r with
    | zero => intro s h_0 h_1 hz; exact absurd hz (by omega)
    | succ r ih =>
      intro s h_0 h_1 hz
      refine v_iload_4 dX2_countIndexed_5 ?_
      refine v_aload_0 dX2_countIndexed_7 ?_
      refine g_X2_37 rfl dX2_countIndexed_8 hO.1 ?_
      have hn := hw.2.2.1
      have b2 := ix_bd hw s h
      refine v_icmp_ge (tgt := 51) dX2_countIndexed_11 rfl ⟨by omega, by omega⟩ ⟨by omega, by omega⟩ (fun c11 => ?_) (fun c11 => ?_)
      · refine v_iload_3 dX2_countIndexed_51 ?_
        exact v_iret dX2_countIndexed_52 rfl (Nat.le_refl _) (Nat.le_refl _) (by rw [show s = w 2 by omega, Int.sub_zero]; exact hp)
      · refine v_iload_4 dX2_countIndexed_14 ?_
        refine v_iconst dX2_countIndexed_16 ?_
        refine v_icmp_ge (tgt := 51) dX2_countIndexed_17 rfl ⟨by omega, by omega⟩ ⟨by omega, by omega⟩ (fun c17 => absurd c17 (by omega)) (fun c17 => ?_)
        refine v_aload_0 dX2_countIndexed_20 ?_
        refine g_X2_21 rfl dX2_countIndexed_21 hO.1 ?_
        refine v_iload_4 dX2_countIndexed_24 ?_
        refine v_iaload dX2_countIndexed_26 hf (by omega) (by omega) (by decide) ?_
        rw [hf2 _ (by omega) (by omega) (by omega)]
        have b3 := hw.2.2.2.2.2.2.2.2.1 s (by omega) (by omega)
        refine v_iload_1 dX2_countIndexed_27 ?_
        refine v_icmp_ne (tgt := 45) dX2_countIndexed_28 rfl ⟨by omega, by omega⟩ hd (fun c28 => ?_) (fun c28 => ?_)
        · have e9 : dsI w d h s = -1 := if_neg c28
          refine v_iinc_4 dX2_countIndexed_45 (Nat.le_of_ble_eq_true rfl) rfl ?_
          refine v_goto (tgt := 5) dX2_countIndexed_48 rfl ?_
          exact v_weak [some (rr E o), some (iv d), some (iv h), some (iv (sm (fun s => if dsI w d h s = -1 then 0 else 1) 0 ((s + 1) - 0).toNat)), some (iv (s + 1))] ⟨rfl, rfl, rfl, by rw [sm_st _ h_0]; rw [if_pos e9, Int.add_zero], rfl, trivial⟩ (ih (s + 1) (by omega) (by omega) (by omega))
        · have e9 : dsI w d h s = ixW w s h := if_pos c28
          refine v_aload_0 dX2_countIndexed_31 ?_
          refine v_iload_4 dX2_countIndexed_32 ?_
          refine v_iload_2 dX2_countIndexed_34 ?_
          refine l_X2_95 rfl dX2_countIndexed_35 hO.1 ⟨Nat.le_of_ble_eq_true rfl, Nat.le_of_ble_eq_true rfl⟩ (Nat.le_of_ble_eq_true rfl) ⟨Nat.le_refl _, Nat.le_refl _⟩ (c_X2_indexAt hO hw ⟨by omega, by omega⟩ hh ?_)
          refine v_iconst dX2_countIndexed_38 ?_
          refine v_icmp_eq (tgt := 45) dX2_countIndexed_39 rfl ⟨by omega, by omega⟩ ⟨by omega, by omega⟩ (fun c39 => ?_) (fun c39 => ?_)
          · refine v_iinc_4 dX2_countIndexed_45 (Nat.le_of_ble_eq_true rfl) rfl ?_
            refine v_goto (tgt := 5) dX2_countIndexed_48 rfl ?_
            exact v_weak [some (rr E o), some (iv d), some (iv h), some (iv (sm (fun s => if dsI w d h s = -1 then 0 else 1) 0 ((s + 1) - 0).toNat)), some (iv (s + 1))] ⟨rfl, rfl, rfl, by rw [sm_st _ h_0]; rw [if_pos (e9.trans c39), Int.add_zero], rfl, trivial⟩ (ih (s + 1) (by omega) (by omega) (by omega))
          · refine v_iinc_3 dX2_countIndexed_42 (Nat.le_of_ble_eq_true rfl) rfl ?_
            refine v_iinc_4 dX2_countIndexed_45 (Nat.le_of_ble_eq_true rfl) rfl ?_
            refine v_goto (tgt := 5) dX2_countIndexed_48 rfl ?_
            exact v_weak [some (rr E o), some (iv d), some (iv h), some (iv (sm (fun s => if dsI w d h s = -1 then 0 else 1) 0 ((s + 1) - 0).toNat)), some (iv (s + 1))] ⟨rfl, rfl, rfl, by rw [sm_st _ h_0]; rw [if_neg (by rw [e9]; exact c39)], rfl, trivial⟩ (ih (s + 1) (by omega) (by omega) (by omega))
  refine Cn.of (L := [some (rr E o), some (iv d), some (iv h), none, none]) (by decide) (Nat.le_of_ble_eq_true rfl) rfl ?_
  refine v_iconst dX2_countIndexed_0 ?_
  refine v_istore_3 dX2_countIndexed_1 (Nat.le_of_ble_eq_true rfl) rfl ?_
  refine v_iconst dX2_countIndexed_2 ?_
  refine v_istore_4 dX2_countIndexed_3 (Nat.le_of_ble_eq_true rfl) rfl ?_
  exact v_weak [some (rr E o), some (iv d), some (iv h), some (iv (sm (fun s => if dsI w d h s = -1 then 0 else 1) 0 ((0 : Int) - 0).toNat)), some (iv (0 : Int))] ⟨rfl, rfl, rfl, rfl, rfl, trivial⟩ (lp (w 2 + 1).toNat 0 (by omega) (by have := hw.2.2.1; omega) (by have := hw.2.2.1; omega))

set_option maxRecDepth 100000 in
theorem c_X2_bandStart {E : Ev} {M : Mem} {Post : Option Value → Mem → Prop} {o : Nat} {w : Int → Int} (hO : OffAt E M o w) {k : Int} (hk : I32 k) (hp : Post (some (iv (if 0 ≤ k ∧ k < 3 then w (4 + k) else -1))) M) : Cn E rX2_bandStart mX2_bandStart [rr E o, iv k] M Post := by
  obtain ⟨f, hf, hf2⟩ := hO.2.1
  refine Cn.of (L := [some (rr E o), some (iv k)]) (by decide) (Nat.le_of_ble_eq_true rfl) rfl ?_
  refine v_iload_1 dX2_bandStart_0 ?_
  refine v_if_lt (tgt := 18) dX2_bandStart_1 rfl hk (fun c1 => ?_) (fun c1 => ?_)
  · refine v_iconst dX2_bandStart_18 ?_
    exact v_iret dX2_bandStart_19 rfl (Nat.le_refl _) (Nat.le_refl _) (by first | (rw [if_pos (by omega)] at hp; exact hp) | (rw [if_neg (by omega)] at hp; exact hp))
  · refine v_iload_1 dX2_bandStart_4 ?_
    refine v_iconst dX2_bandStart_5 ?_
    refine v_icmp_ge (tgt := 18) dX2_bandStart_6 rfl hk ⟨by omega, by omega⟩ (fun c6 => ?_) (fun c6 => ?_)
    · refine v_iconst dX2_bandStart_18 ?_
      exact v_iret dX2_bandStart_19 rfl (Nat.le_refl _) (Nat.le_refl _) (by first | (rw [if_pos (by omega)] at hp; exact hp) | (rw [if_neg (by omega)] at hp; exact hp))
    · refine v_aload_0 dX2_bandStart_9 ?_
      refine g_X2_9 rfl dX2_bandStart_10 hO.1 ?_
      refine v_iload_1 dX2_bandStart_13 ?_
      refine v_iaload dX2_bandStart_14 hf (by omega) (by omega) (by decide) ?_
      rw [hf2 _ (by omega) (by omega)]
      refine v_goto (tgt := 19) dX2_bandStart_15 rfl ?_
      exact v_iret dX2_bandStart_19 rfl (Nat.le_refl _) (Nat.le_refl _) (by first | (rw [if_pos (by omega)] at hp; exact hp) | (rw [if_neg (by omega)] at hp; exact hp))

set_option maxRecDepth 100000 in
theorem c_X2_bandOf {E : Ev} {M : Mem} {Post : Option Value → Mem → Prop} {o : Nat} {w : Int → Int} (hO : OffAt E M o w) (hw : WF w) {index : Int} (hi : I32 index) (hp : Post (some (iv (bdW w index))) M) : Cn E rX2_bandOf mX2_bandOf [rr E o, iv index] M Post := by
  obtain ⟨f, hf, hf2⟩ := hO.2.1
  have lp : ∀ (r : Nat) (k : Int), (0 ≤ k) → (k ≤ 3) → (¬ index = -1) → 3 - k < (r : Int) → V E rX2_bandOf mX2_bandOf (finM E rX2_bandOf Post) 0 0 M 11 [some (rr E o), some (iv index), some (iv (sm (fun k => if w (4 + k) ≤ index then 1 else 0) 0 (k - 0).toNat)), some (iv k)] [] := by
    intro r
    induction r with
    | zero => intro k h_0 h_1 h_2 hz; exact absurd hz (by omega)
    | succ r ih =>
      intro k h_0 h_1 h_2 hz
      refine v_iload_3 dX2_bandOf_11 ?_
      refine v_iconst dX2_bandOf_12 ?_
      refine v_icmp_ge (tgt := 35) dX2_bandOf_13 rfl ⟨by omega, by omega⟩ ⟨by omega, by omega⟩ (fun c13 => ?_) (fun c13 => ?_)
      · refine v_iload_2 dX2_bandOf_35 ?_
        exact v_iret dX2_bandOf_36 rfl (Nat.le_refl _) (Nat.le_refl _) (by have e : bdW w index = sm (fun k => if w (4 + k) ≤ index then 1 else 0) 0 3 := if_neg h_2; rw [e] at hp; rw [show k = 3 by omega]; exact hp)
      · refine v_aload_0 dX2_bandOf_16 ?_
        refine g_X2_9 rfl dX2_bandOf_17 hO.1 ?_
        refine v_iload_3 dX2_bandOf_20 ?_
        refine v_iaload dX2_bandOf_21 hf (by omega) (by omega) (by decide) ?_
        rw [hf2 _ (by omega) (by omega)]
        have b3 : -2147483648 ≤ w (4 + k) ∧ w (4 + k) < 2147483648 := by
          have := hw.2.2.2.2.1
          rcases (show k = 0 ∨ k = 1 ∨ k = 2 by omega) with rfl | rfl | rfl
          · exact ⟨by show _ ≤ w 4; omega, by show w 4 < _; omega⟩
          · exact ⟨by show _ ≤ w 5; omega, by show w 5 < _; omega⟩
          · exact ⟨by show _ ≤ w 6; omega, by show w 6 < _; omega⟩
        refine v_iload_1 dX2_bandOf_22 ?_
        refine v_icmp_gt (tgt := 29) dX2_bandOf_23 rfl b3 hi (fun c23 => ?_) (fun c23 => ?_)
        · refine v_iinc_3 dX2_bandOf_29 (Nat.le_of_ble_eq_true rfl) rfl ?_
          refine v_goto (tgt := 11) dX2_bandOf_32 rfl ?_
          exact v_weak [some (rr E o), some (iv index), some (iv (sm (fun k => if w (4 + k) ≤ index then 1 else 0) 0 ((k + 1) - 0).toNat)), some (iv (k + 1))] ⟨rfl, rfl, by rw [sm_st _ h_0]; rw [if_neg (by omega), Int.add_zero], rfl, trivial⟩ (ih (k + 1) (by omega) (by omega) h_2 (by omega))
        · refine v_iinc_2 dX2_bandOf_26 (Nat.le_of_ble_eq_true rfl) rfl ?_
          refine v_iinc_3 dX2_bandOf_29 (Nat.le_of_ble_eq_true rfl) rfl ?_
          refine v_goto (tgt := 11) dX2_bandOf_32 rfl ?_
          exact v_weak [some (rr E o), some (iv index), some (iv (sm (fun k => if w (4 + k) ≤ index then 1 else 0) 0 ((k + 1) - 0).toNat)), some (iv (k + 1))] ⟨rfl, rfl, by rw [sm_st _ h_0]; rw [if_pos (by omega)], rfl, trivial⟩ (ih (k + 1) (by omega) (by omega) h_2 (by omega))
  refine Cn.of (L := [some (rr E o), some (iv index), none, none]) (by decide) (Nat.le_of_ble_eq_true rfl) rfl ?_
  refine v_iload_1 dX2_bandOf_0 ?_
  refine v_iconst dX2_bandOf_1 ?_
  refine v_icmp_ne (tgt := 7) dX2_bandOf_2 rfl hi ⟨by omega, by omega⟩ (fun c2 => ?_) (fun c2 => ?_)
  · refine v_iconst dX2_bandOf_7 ?_
    refine v_istore_2 dX2_bandOf_8 (Nat.le_of_ble_eq_true rfl) rfl ?_
    refine v_iconst dX2_bandOf_9 ?_
    refine v_istore_3 dX2_bandOf_10 (Nat.le_of_ble_eq_true rfl) rfl ?_
    exact v_weak [some (rr E o), some (iv index), some (iv (sm (fun k => if w (4 + k) ≤ index then 1 else 0) 0 ((0 : Int) - 0).toNat)), some (iv (0 : Int))] ⟨rfl, rfl, rfl, rfl, trivial⟩ (lp 4 0 (by omega) (by omega) c2 (by omega))
  · refine v_iconst dX2_bandOf_5 ?_
    exact v_iret dX2_bandOf_6 rfl (Nat.le_refl _) (Nat.le_refl _) (by have e : bdW w index = -1 := if_pos c2; rw [e] at hp; exact hp)
