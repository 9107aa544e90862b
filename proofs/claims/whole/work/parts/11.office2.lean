theorem mn_few {w : Int → Int} {s k h : Int} (hP : Pl w s k h) (c : sm (fun x => vc (rdA w s k x)) (fsW w k h) (h - fsW w k h + 1).toNat < w (8 + 13 * k)) : mnW w s k h = -1 := by
  unfold mnW
  rw [if_pos hP, if_pos c]
theorem mn_some {w : Int → Int} {s k h : Int} (hP : Pl w s k h) (c : ¬ sm (fun x => vc (rdA w s k x)) (fsW w k h) (h - fsW w k h + 1).toNat < w (8 + 13 * k)) : mnW w s k h = (sm (fun x => vz (rdA w s k x)) (fsW w k h) (h - fsW w k h + 1).toNat + ((h - fsW w k h + 1) - sm (fun x => vc (rdA w s k x)) (fsW w k h) (h - fsW w k h + 1).toNat) * mx (fun x => rdA w s k x) (fsW w k h) (h - fsW w k h + 1).toNat) / (h - fsW w k h + 1) := by
  unfold mnW
  rw [if_pos hP, if_neg c]

set_option maxRecDepth 100000 in
theorem c_X2_meanAt_s {E : Ev} {M : Mem} {Post : Option Value → Mem → Prop} {o : Nat} {w : Int → Int} (hO : OffAt E M o w) (hw : WF w) {s k h : Int} (hs : I32 s) (hk : I32 k) (hh : I32 h) (h1 : 0 ≤ k) (h2 : k < w 1) (h3 : k < 3) (hp : Post (some (iv (mnW w s k h))) M) : Cn E rX2_meanAt mX2_meanAt [rr E o, iv s, iv k, iv h] M Post := by
  obtain ⟨p, q, n, lv, ix, u1, u2, u3, u4⟩ := hO.sub h1 h3
  obtain ⟨rfl, rfl, rfl, u5⟩ := u4 h2
  have hn := hw.2.2.2.2.2.1 k h1 h2
  have lp : ∀ (r : Nat) (x : Int), ((fsW w k h) ≤ x) → (x ≤ h + 1) → (Pl w s k h) → h + 1 - x < (r : Int) → V E rX2_meanAt mX2_meanAt (finM E rX2_meanAt Post) 0 0 M 52 [some (rr E o), some (iv s), some (iv k), some (iv h), some (rr E (o + 17 + 3 * k.toNat)), some (iv (fsW w k h)), some (iv (sm (fun x => vc (rdA w s k x)) (fsW w k h) (x - (fsW w k h)).toNat)), some (iv (sm (fun x => vz (rdA w s k x)) (fsW w k h) (x - (fsW w k h)).toNat)), some (iv (mx (fun x => rdA w s k x) (fsW w k h) (x - (fsW w k h)).toNat)), some (iv x), none] [] := by
    intro r
    induction r with
    | zero => intro x h_0 h_1 h_2 hz; exact absurd hz (by omega)
    | succ r ih =>
      intro x h_0 h_1 h_2 hz
      obtain ⟨f1, f2, f3⟩ := fs_bd hw (k := k) (h := h) h1 h2 (by omega)
      have hP := h_2
      refine v_iload_9 dX2_meanAt_52 ?_
      refine v_iload_3 dX2_meanAt_54 ?_
      have hb := rd_bd hw s k x
      have b1 := cn_bd w s k (fsW w k h) (x - (fsW w k h)).toNat
      have b2 := sz_bd hw s k (fsW w k h) (x - (fsW w k h)).toNat
      have b3 := mr_bd hw s k (fsW w k h) (x - (fsW w k h)).toNat
      refine v_icmp_gt (tgt := 99) dX2_meanAt_55 rfl ⟨by omega, by omega⟩ ⟨by omega, by omega⟩ (fun c55 => ?_) (fun c55 => ?_)
      · have ex : x = h + 1 := by omega
        subst ex
        have en : (h + 1 - (fsW w k h)).toNat = (h - (fsW w k h) + 1).toNat := by omega
        rw [en] at b1 b2 b3 ⊢
        refine v_iload_3 dX2_meanAt_99 ?_
        refine v_iload_5 dX2_meanAt_100 ?_
        refine v_isub dX2_meanAt_102 ?_
        refine v_iconst dX2_meanAt_103 ?_
        refine v_iadd dX2_meanAt_104 ?_
        refine v_istore_9 dX2_meanAt_105 (Nat.le_of_ble_eq_true rfl) rfl ?_
        refine v_iload_6 dX2_meanAt_107 ?_
        refine v_aload_4 dX2_meanAt_109 ?_
        refine g_X2_61 rfl dX2_meanAt_111 u1 ?_
        refine v_icmp_lt (tgt := 123) dX2_meanAt_114 rfl ⟨by omega, by omega⟩ ⟨by omega, by omega⟩ (fun c114 => ?_) (fun c114 => ?_)
        · refine v_iconst dX2_meanAt_123 ?_
          exact v_iret dX2_meanAt_124 rfl (Nat.le_refl _) (Nat.le_refl _) (by rw [mn_few hP c114] at hp; exact hp)
        · refine v_iload_9 dX2_meanAt_117 ?_
          refine v_iconst dX2_meanAt_119 ?_
          refine v_icmp_ge (tgt := 125) dX2_meanAt_120 rfl ⟨by omega, by omega⟩ ⟨by omega, by omega⟩ (fun c120 => ?_) (fun c120 => absurd c120 (by omega))
          refine v_iload_7 dX2_meanAt_125 ?_
          refine v_iload_9 dX2_meanAt_127 ?_
          refine v_iload_6 dX2_meanAt_129 ?_
          refine v_isub dX2_meanAt_131 ?_
          refine v_iload_8 dX2_meanAt_132 ?_
          refine v_imul dX2_meanAt_134 ?_
          refine v_iadd dX2_meanAt_135 ?_
          refine v_iload_9 dX2_meanAt_136 ?_
          refine v_idiv dX2_meanAt_138 (by have := Int.mul_nonneg (show 0 ≤ (h - (fsW w k h) + 1) - sm (fun x => vc (rdA w s k x)) (fsW w k h) (h - (fsW w k h) + 1).toNat by omega) b3.1; omega) (by have q1 := Int.mul_le_mul_of_nonneg_left b3.2 (show 0 ≤ (h - (fsW w k h) + 1) - sm (fun x => vc (rdA w s k x)) (fsW w k h) (h - (fsW w k h) + 1).toNat by omega); omega) (by omega) (by omega) ?_
          exact v_iret dX2_meanAt_139 rfl (Nat.le_refl _) (Nat.le_refl _) (by rw [mn_some hP c114] at hp; exact hp)
      · refine v_aload_0 dX2_meanAt_58 ?_
        refine v_iload_1 dX2_meanAt_59 ?_
        refine v_iload_2 dX2_meanAt_60 ?_
        refine v_iload_9 dX2_meanAt_61 ?_
        refine l_X2_81 rfl dX2_meanAt_63 hO.1 ⟨Nat.le_of_ble_eq_true rfl, Nat.le_of_ble_eq_true rfl⟩ (Nat.le_of_ble_eq_true rfl) ⟨Nat.le_refl _, Nat.le_refl _⟩ (c_X2_readAt hO hw.hr hs hk ⟨by omega, by omega⟩ ?_)
        refine v_istore_10 dX2_meanAt_66 (Nat.le_of_ble_eq_true rfl) rfl ?_
        refine v_iload_10 dX2_meanAt_68 ?_
        refine v_iconst dX2_meanAt_70 ?_
        refine v_icmp_eq (tgt := 93) dX2_meanAt_71 rfl ⟨by omega, by omega⟩ ⟨by omega, by omega⟩ (fun c71 => ?_) (fun c71 => ?_)
        · refine v_iinc_9 dX2_meanAt_93 (Nat.le_of_ble_eq_true rfl) rfl ?_
          refine v_goto (tgt := 52) dX2_meanAt_96 rfl ?_
          exact v_weak [some (rr E o), some (iv s), some (iv k), some (iv h), some (rr E (o + 17 + 3 * k.toNat)), some (iv (fsW w k h)), some (iv (sm (fun x => vc (rdA w s k x)) (fsW w k h) ((x + 1) - (fsW w k h)).toNat)), some (iv (sm (fun x => vz (rdA w s k x)) (fsW w k h) ((x + 1) - (fsW w k h)).toNat)), some (iv (mx (fun x => rdA w s k x) (fsW w k h) ((x + 1) - (fsW w k h)).toNat)), some (iv (x + 1)), none] ⟨rfl, rfl, rfl, rfl, rfl, rfl, by rw [sm_st _ h_0, vc_neg c71, Int.add_zero], by rw [sm_st _ h_0, vz_neg c71, Int.add_zero], by rw [mx_st _ h_0, c71, Int.max_eq_left (by omega)], rfl, trivial⟩ (ih (x + 1) (by omega) (by omega) h_2 (by omega))
        · refine v_iinc_6 dX2_meanAt_74 (Nat.le_of_ble_eq_true rfl) rfl ?_
          refine v_iload_7 dX2_meanAt_77 ?_
          refine v_iload_10 dX2_meanAt_79 ?_
          refine v_iadd dX2_meanAt_81 ?_
          refine v_istore_7 dX2_meanAt_82 (Nat.le_of_ble_eq_true rfl) rfl ?_
          refine v_iload_8 dX2_meanAt_84 ?_
          refine v_iload_10 dX2_meanAt_86 ?_
          refine l_X2_75 rfl dX2_meanAt_88 ⟨by omega, by omega⟩ ⟨by omega, by omega⟩ (Nat.le_of_ble_eq_true rfl) (Nat.le_of_ble_eq_true rfl) ⟨Nat.le_refl _, Nat.le_refl _⟩ ?_
          refine v_istore_8 dX2_meanAt_91 (Nat.le_of_ble_eq_true rfl) rfl ?_
          refine v_iinc_9 dX2_meanAt_93 (Nat.le_of_ble_eq_true rfl) rfl ?_
          refine v_goto (tgt := 52) dX2_meanAt_96 rfl ?_
          exact v_weak [some (rr E o), some (iv s), some (iv k), some (iv h), some (rr E (o + 17 + 3 * k.toNat)), some (iv (fsW w k h)), some (iv (sm (fun x => vc (rdA w s k x)) (fsW w k h) ((x + 1) - (fsW w k h)).toNat)), some (iv (sm (fun x => vz (rdA w s k x)) (fsW w k h) ((x + 1) - (fsW w k h)).toNat)), some (iv (mx (fun x => rdA w s k x) (fsW w k h) ((x + 1) - (fsW w k h)).toNat)), some (iv (x + 1)), none] ⟨rfl, rfl, rfl, rfl, rfl, rfl, by rw [sm_st _ h_0, vc_pos c71], by rw [sm_st _ h_0, vz_pos c71], by rw [mx_st _ h_0], rfl, trivial⟩ (ih (x + 1) (by omega) (by omega) h_2 (by omega))
  refine Cn.of (L := [some (rr E o), some (iv s), some (iv k), some (iv h), none, none, none, none, none, none, none]) (by decide) (Nat.le_of_ble_eq_true rfl) rfl ?_
  refine v_aload_0 dX2_meanAt_0 ?_
  refine v_iload_2 dX2_meanAt_1 ?_
  refine l_X2_71 rfl dX2_meanAt_2 hO.1 ⟨Nat.le_of_ble_eq_true rfl, Nat.le_of_ble_eq_true rfl⟩ (Nat.le_of_ble_eq_true rfl) ⟨Nat.le_refl _, Nat.le_refl _⟩ (c_X2_substanceAt hO hw.hr hk (fun _ _ _ => ?_) (fun q => absurd ⟨h1, h2, h3⟩ q))
  refine v_astore_4 dX2_meanAt_5 (Nat.le_of_ble_eq_true rfl) rfl ?_
  refine v_aload_4 dX2_meanAt_7 ?_
  refine v_ifnull_s dX2_meanAt_9 ?_
  refine v_aload_0 dX2_meanAt_12 ?_
  refine v_iload_1 dX2_meanAt_13 ?_
  refine v_iload_2 dX2_meanAt_14 ?_
  refine v_iload_3 dX2_meanAt_15 ?_
  refine l_X2_67 rfl dX2_meanAt_16 hO.1 ⟨Nat.le_of_ble_eq_true rfl, Nat.le_of_ble_eq_true rfl⟩ (Nat.le_of_ble_eq_true rfl) ⟨Nat.le_refl _, Nat.le_refl _⟩ (c_X2_hasPlace hO hw.hr hs hk hh ?_)
  refine v_ifne_b (tgt := 24) dX2_meanAt_19 rfl (fun hP => ?_) (fun hP => ?_)
  · obtain ⟨f1, f2, f3⟩ := fs_bd hw (k := k) (h := h) h1 h2 (by omega)
    refine v_iconst dX2_meanAt_24 ?_
    refine v_iload_3 dX2_meanAt_25 ?_
    refine v_aload_4 dX2_meanAt_26 ?_
    refine g_X2_58 rfl dX2_meanAt_28 u1 ?_
    refine v_isub dX2_meanAt_31 ?_
    refine v_iconst dX2_meanAt_32 ?_
    refine v_iadd dX2_meanAt_33 ?_
    refine l_X2_75 rfl dX2_meanAt_34 ⟨by omega, by omega⟩ ⟨by omega, by omega⟩ (Nat.le_of_ble_eq_true rfl) (Nat.le_of_ble_eq_true rfl) ⟨Nat.le_refl _, Nat.le_refl _⟩ ?_
    refine v_istore_5 dX2_meanAt_37 (Nat.le_of_ble_eq_true rfl) rfl ?_
    refine v_iconst dX2_meanAt_39 ?_
    refine v_istore_6 dX2_meanAt_40 (Nat.le_of_ble_eq_true rfl) rfl ?_
    refine v_iconst dX2_meanAt_42 ?_
    refine v_istore_7 dX2_meanAt_43 (Nat.le_of_ble_eq_true rfl) rfl ?_
    refine v_iconst dX2_meanAt_45 ?_
    refine v_istore_8 dX2_meanAt_46 (Nat.le_of_ble_eq_true rfl) rfl ?_
    refine v_iload_5 dX2_meanAt_48 ?_
    refine v_istore_9 dX2_meanAt_50 (Nat.le_of_ble_eq_true rfl) rfl ?_
    exact v_weak [some (rr E o), some (iv s), some (iv k), some (iv h), some (rr E (o + 17 + 3 * k.toNat)), some (iv (fsW w k h)), some (iv (sm (fun x => vc (rdA w s k x)) (fsW w k h) ((fsW w k h) - (fsW w k h)).toNat)), some (iv (sm (fun x => vz (rdA w s k x)) (fsW w k h) ((fsW w k h) - (fsW w k h)).toNat)), some (iv (mx (fun x => rdA w s k x) (fsW w k h) ((fsW w k h) - (fsW w k h)).toNat)), some (iv (fsW w k h)), none] ⟨rfl, rfl, rfl, rfl, rfl, rfl, by rw [sm_z], by rw [sm_z], by rw [mx_z], rfl, trivial⟩ (lp (h + 2 - (fsW w k h)).toNat (fsW w k h) (by omega) (by omega) hP (by omega))
  · refine v_iconst dX2_meanAt_22 ?_
    exact v_iret dX2_meanAt_23 rfl (Nat.le_refl _) (Nat.le_refl _) (by rw [mn_neg hP] at hp; exact hp)

set_option maxRecDepth 100000 in
theorem c_X2_meanAt_n {E : Ev} {M : Mem} {Post : Option Value → Mem → Prop} {o : Nat} {w : Int → Int} (hO : OffAt E M o w) (hw : WF w) {s k h : Int} (hs : I32 s) (hk : I32 k) (hh : I32 h) (hn : ¬ (0 ≤ k ∧ k < w 1 ∧ k < 3)) (hp : Post (some (iv (mnW w s k h))) M) : Cn E rX2_meanAt mX2_meanAt [rr E o, iv s, iv k, iv h] M Post := by
  refine Cn.of (L := [some (rr E o), some (iv s), some (iv k), some (iv h), none, none, none, none, none, none, none]) (by decide) (Nat.le_of_ble_eq_true rfl) rfl ?_
  refine v_aload_0 dX2_meanAt_0 ?_
  refine v_iload_2 dX2_meanAt_1 ?_
  refine l_X2_71 rfl dX2_meanAt_2 hO.1 ⟨Nat.le_of_ble_eq_true rfl, Nat.le_of_ble_eq_true rfl⟩ (Nat.le_of_ble_eq_true rfl) ⟨Nat.le_refl _, Nat.le_refl _⟩ (c_X2_substanceAt hO hw.hr hk (fun a b c => absurd ⟨a, b, c⟩ hn) (fun _ => ?_))
  refine v_astore_4 dX2_meanAt_5 (Nat.le_of_ble_eq_true rfl) rfl ?_
  refine v_aload_4 dX2_meanAt_7 ?_
  refine v_ifnull_n (tgt := 22) dX2_meanAt_9 rfl ?_
  refine v_iconst dX2_meanAt_22 ?_
  exact v_iret dX2_meanAt_23 rfl (Nat.le_refl _) (Nat.le_refl _) (by rw [mn_neg (fun q => hn ⟨q.2.2.2.1, q.2.2.2.2.1, q.2.2.2.2.2.1⟩)] at hp; exact hp)

theorem c_X2_meanAt {E : Ev} {M : Mem} {Post : Option Value → Mem → Prop} {o : Nat} {w : Int → Int} (hO : OffAt E M o w) (hw : WF w) {s k h : Int} (hs : I32 s) (hk : I32 k) (hh : I32 h) (hp : Post (some (iv (mnW w s k h))) M) : Cn E rX2_meanAt mX2_meanAt [rr E o, iv s, iv k, iv h] M Post := by
  by_cases hc : 0 ≤ k ∧ k < w 1 ∧ k < 3
  · exact c_X2_meanAt_s hO hw hs hk hh hc.1 hc.2.1 hc.2.2 hp
  · exact c_X2_meanAt_n hO hw hs hk hh hc hp
