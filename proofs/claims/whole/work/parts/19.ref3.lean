set_option maxRecDepth 100000 in
theorem c_X8_readMany {E : Ev} {M : Mem} {Post : Option Value → Mem → Prop} {m a : Nat} {f0 f1 f2 f3 f4 f5 f6 f7 f8 f9 f10 f12 f13 f14 f15 f16 f17 : Value} {w : Int → Int} (hm : M[m]? = some (ob 8 [f0, f1, f2, f3, f4, f5, f6, f7, f8, f9, f10, rr E a, f12, f13, f14, f15, f16, f17])) (ha : M[a]? = some (ia E 0 770 w)) (hw : WF w) (hp : Post (some (iv (crW w))) M) : Cn E rX8_readMany mX8_readMany [rr E m] M Post := by
  have lp : ∀ (r : Nat) (x : Int), (50 ≤ x) → (x ≤ 770) → 770 - x < (r : Int) → V E rX8_readMany mX8_readMany (finM E rX8_readMany Post) 0 0 M 5 [some (rr E m), some (iv (sm (fun i => if 0 < w i then 1 else 0) 50 (x - 50).toNat)), some (iv x)] [] := by
    intro r
    induction r with
    | zero => intro x h_0 h_1 hz; exact absurd hz (by omega)
    | succ r ih =>
      intro x h_0 h_1 hz
      refine v_iload_2 dX8_readMany_5 ?_
      refine v_sipush dX8_readMany_6 (by decide) ?_
      refine v_icmp_ge (tgt := 30) dX8_readMany_9 rfl ⟨by omega, by omega⟩ ⟨by omega, by omega⟩ (fun c9 => ?_) (fun c9 => ?_)
      · refine v_iload_1 dX8_readMany_30 ?_
        exact v_iret dX8_readMany_31 rfl (Nat.le_refl _) (Nat.le_refl _) (by rw [cr_flat hw] at hp; rw [show x = 770 by omega]; exact hp)
      · refine v_aload_0 dX8_readMany_12 ?_
        refine g_X8_74 rfl dX8_readMany_13 hm ?_
        refine v_iload_2 dX8_readMany_16 ?_
        refine v_iaload dX8_readMany_17 ha (by omega) (by omega) (by decide) ?_
        have b1 := hw.2.2.2.2.2.2.2.2.2.1 ((x - 50) / 60) ((x - 50) % 60) (by omega) (by omega) (by omega) (by omega)
        rw [show 50 + 60 * ((x - 50) / 60) + (x - 50) % 60 = x by omega] at b1
        refine v_if_le (tgt := 24) dX8_readMany_18 rfl ⟨by omega, by omega⟩ (fun c18 => ?_) (fun c18 => ?_)
        · refine v_iinc_2 dX8_readMany_24 (Nat.le_of_ble_eq_true rfl) rfl ?_
          refine v_goto (tgt := 5) dX8_readMany_27 rfl ?_
          exact v_weak [some (rr E m), some (iv (sm (fun i => if 0 < w i then 1 else 0) 50 ((x + 1) - 50).toNat)), some (iv (x + 1))] ⟨rfl, by rw [sm_st _ h_0]; rw [if_neg (by omega), Int.add_zero], rfl, trivial⟩ (ih (x + 1) (by omega) (by omega) (by omega))
        · refine v_iinc_1 dX8_readMany_21 (Nat.le_of_ble_eq_true rfl) rfl ?_
          refine v_iinc_2 dX8_readMany_24 (Nat.le_of_ble_eq_true rfl) rfl ?_
          refine v_goto (tgt := 5) dX8_readMany_27 rfl ?_
          exact v_weak [some (rr E m), some (iv (sm (fun i => if 0 < w i then 1 else 0) 50 ((x + 1) - 50).toNat)), some (iv (x + 1))] ⟨rfl, by rw [sm_st _ h_0]; rw [if_pos (by omega)], rfl, trivial⟩ (ih (x + 1) (by omega) (by omega) (by omega))
  refine Cn.of (L := [some (rr E m), none, none]) (by decide) (Nat.le_of_ble_eq_true rfl) rfl ?_
  refine v_iconst dX8_readMany_0 ?_
  refine v_istore_1 dX8_readMany_1 (Nat.le_of_ble_eq_true rfl) rfl ?_
  refine v_bipush dX8_readMany_2 (by decide) ?_
  refine v_istore_2 dX8_readMany_4 (Nat.le_of_ble_eq_true rfl) rfl ?_
  exact v_weak [some (rr E m), some (iv (sm (fun i => if 0 < w i then 1 else 0) 50 ((50 : Int) - 50).toNat)), some (iv (50 : Int))] ⟨rfl, rfl, rfl, trivial⟩ (lp 721 50 (by omega) (by omega) (by omega))

theorem ds_ix {w : Int → Int} {d h s : Int} (hx : -1 < dsI w d h s) : ixW w s h = dsI w d h s := by
  unfold dsI at hx ⊢
  split at hx
  · next c => rw [if_pos c]
  · omega

set_option maxRecDepth 100000 in
theorem lp_X8_district {E : Ev} {M : Mem} {Post : Option Value → Mem → Prop} {m a : Nat} {f0 f1 f2 f3 f4 f5 f6 f7 f8 f9 f10 f12 f13 f14 f15 f16 f17 : Value} {w : Int → Int} (hm : M[m]? = some (ob 8 [f0, f1, f2, f3, f4, f5, f6, f7, f8, f9, f10, rr E a, f12, f13, f14, f15, f16, f17])) (ha : M[a]? = some (ia E 0 770 w)) (hw : WF w) {d h t : Int} (d0 : 0 ≤ d) (d1 : d ≤ 2) (h0 : 0 ≤ h) (h1 : h < w 0) (kx : V E rX8_district mX8_district (finM E rX8_district Post) 0 0 M 103 [some (rr E m), some (iv d), some (iv h), some (iv t), some (iv (bst (dsI w d h) 0 (w 2).toNat).2), some (iv (sm (fun s => if dsI w d h s = -1 then 0 else 1) 0 (w 2).toNat)), some (iv (w 2))] []) : V E rX8_district mX8_district (finM E rX8_district Post) 0 0 M 28 [some (rr E m), some (iv d), some (iv h), some (iv t), some (iv (-1)), some (iv 0), some (iv 0)] [] := by
  have lp : ∀ (r : Nat) (s : Int), (0 ≤ s) → (s ≤ w 2) → w 2 - s < (r : Int) → V E rX8_district mX8_district (finM E rX8_district Post) 0 0 M 28 [some (rr E m), some (iv d), some (iv h), some (iv t), some (iv (bst (dsI w d h) 0 (s - 0).toNat).2), some (iv (sm (fun s => if dsI w d h s = -1 then 0 else 1) 0 (s - 0).toNat)), some (iv s)] [] := by
    intro r
    induction r with
    | zero => intro s h_0 h_1 hz; exact absurd hz (by omega)
    | succ r ih =>
      intro s h_0 h_1 hz
      refine v_iload_6 dX8_district_28 ?_
      refine v_aload_0 dX8_district_30 ?_
      refine g_X8_74 rfl dX8_district_31 hm ?_
      refine v_iconst dX8_district_34 ?_
      refine v_iaload dX8_district_35 ha (by omega) (by omega) (by decide) ?_
      have n2 := hw.2.2.1
      have b1 := bst_val (f := dsI w d h) (fun x => (ds_bd hw d h x).1) 0 (s - 0).toNat
      have b2 := ix_bd hw s h
      have b3 := ix_bd hw (bst (dsI w d h) 0 (s - 0).toNat).2 h
      have b5 := ds_bd hw d h (bst (dsI w d h) 0 (s - 0).toNat).2
      refine v_icmp_ge (tgt := 103) dX8_district_36 rfl ⟨by omega, by omega⟩ ⟨by omega, by omega⟩ (fun c36 => ?_) (fun c36 => ?_)
      · rw [show s = w 2 by omega, Int.sub_zero]
        exact kx
      · refine v_aload_0 dX8_district_39 ?_
        refine g_X8_74 rfl dX8_district_40 hm ?_
        refine v_bipush dX8_district_43 (by decide) ?_
        refine v_iload_6 dX8_district_45 ?_
        refine v_iadd dX8_district_47 ?_
        refine v_iaload dX8_district_48 ha (by omega) (by omega) (by decide) ?_
        have b4 := hw.2.2.2.2.2.2.2.2.1 s (by omega) (by omega)
        refine v_iload_1 dX8_district_49 ?_
        refine v_icmp_ne (tgt := 97) dX8_district_50 rfl ⟨by omega, by omega⟩ ⟨by omega, by omega⟩ (fun c50 => ?_) (fun c50 => ?_)
        · have e9 : dsI w d h s = -1 := if_neg c50
          refine v_iinc_6 dX8_district_97 (Nat.le_of_ble_eq_true rfl) rfl ?_
          refine v_goto (tgt := 28) dX8_district_100 rfl ?_
          exact v_weak [some (rr E m), some (iv d), some (iv h), some (iv t), some (iv (bst (dsI w d h) 0 ((s + 1) - 0).toNat).2), some (iv (sm (fun s => if dsI w d h s = -1 then 0 else 1) 0 ((s + 1) - 0).toNat)), some (iv (s + 1))] ⟨rfl, rfl, rfl, rfl, by rw [bst_st _ h_0, e9]; rw [if_neg (by omega)], by rw [sm_st _ h_0, e9]; rw [if_pos rfl, Int.add_zero], rfl, trivial⟩ (ih (s + 1) (by omega) (by omega) (by omega))
        · have e9 : dsI w d h s = ixW w s h := if_pos c50
          refine v_aload_0 dX8_district_53 ?_
          refine v_iload_6 dX8_district_54 ?_
          refine v_iload_2 dX8_district_56 ?_
          refine l_X8_191 rfl dX8_district_57 hm ⟨Nat.le_of_ble_eq_true rfl, Nat.le_of_ble_eq_true rfl⟩ (Nat.le_of_ble_eq_true rfl) ⟨Nat.le_refl _, Nat.le_refl _⟩ (c_X8_indexOf hm ha hw (by omega) (by omega) h0 h1 ?_)
          refine v_iconst dX8_district_60 ?_
          refine v_icmp_ne (tgt := 67) dX8_district_61 rfl ⟨by omega, by omega⟩ ⟨by omega, by omega⟩ (fun c61 => ?_) (fun c61 => ?_)
          · refine v_iinc_5 dX8_district_67 (Nat.le_of_ble_eq_true rfl) rfl ?_
            refine v_iload_4 dX8_district_70 ?_
            refine v_iconst dX8_district_72 ?_
            refine v_icmp_eq (tgt := 93) dX8_district_73 rfl ⟨by omega, by omega⟩ ⟨by omega, by omega⟩ (fun c73 => ?_) (fun c73 => ?_)
            · refine v_iload_6 dX8_district_93 ?_
              refine v_istore_4 dX8_district_95 (Nat.le_of_ble_eq_true rfl) rfl ?_
              refine v_iinc_6 dX8_district_97 (Nat.le_of_ble_eq_true rfl) rfl ?_
              refine v_goto (tgt := 28) dX8_district_100 rfl ?_
              exact v_weak [some (rr E m), some (iv d), some (iv h), some (iv t), some (iv (bst (dsI w d h) 0 ((s + 1) - 0).toNat).2), some (iv (sm (fun s => if dsI w d h s = -1 then 0 else 1) 0 ((s + 1) - 0).toNat)), some (iv (s + 1))] ⟨rfl, rfl, rfl, rfl, by rw [bst_st _ h_0, e9]; rw [if_pos (by omega)], by rw [sm_st _ h_0, e9]; rw [if_neg c61], rfl, trivial⟩ (ih (s + 1) (by omega) (by omega) (by omega))
            · refine v_aload_0 dX8_district_76 ?_
              refine v_iload_6 dX8_district_77 ?_
              refine v_iload_2 dX8_district_79 ?_
              refine l_X8_191 rfl dX8_district_80 hm ⟨Nat.le_of_ble_eq_true rfl, Nat.le_of_ble_eq_true rfl⟩ (Nat.le_of_ble_eq_true rfl) ⟨Nat.le_refl _, Nat.le_refl _⟩ (c_X8_indexOf hm ha hw (by omega) (by omega) h0 h1 ?_)
              refine v_aload_0 dX8_district_83 ?_
              refine v_iload_4 dX8_district_84 ?_
              refine v_iload_2 dX8_district_86 ?_
              refine l_X8_191 rfl dX8_district_87 hm ⟨Nat.le_of_ble_eq_true rfl, Nat.le_of_ble_eq_true rfl⟩ (Nat.le_of_ble_eq_true rfl) ⟨Nat.le_refl _, Nat.le_refl _⟩ (c_X8_indexOf hm ha hw (by omega) (by omega) h0 h1 ?_)
              have e8 : ixW w (bst (dsI w d h) 0 (s - 0).toNat).2 h = dsI w d h (bst (dsI w d h) 0 (s - 0).toNat).2 := ds_ix (by omega)
              refine v_icmp_le (tgt := 97) dX8_district_90 rfl ⟨by omega, by omega⟩ ⟨by omega, by omega⟩ (fun c90 => ?_) (fun c90 => ?_)
              · refine v_iinc_6 dX8_district_97 (Nat.le_of_ble_eq_true rfl) rfl ?_
                refine v_goto (tgt := 28) dX8_district_100 rfl ?_
                exact v_weak [some (rr E m), some (iv d), some (iv h), some (iv t), some (iv (bst (dsI w d h) 0 ((s + 1) - 0).toNat).2), some (iv (sm (fun s => if dsI w d h s = -1 then 0 else 1) 0 ((s + 1) - 0).toNat)), some (iv (s + 1))] ⟨rfl, rfl, rfl, rfl, by rw [bst_st _ h_0, e9]; rw [if_neg (by omega)], by rw [sm_st _ h_0, e9]; rw [if_neg c61], rfl, trivial⟩ (ih (s + 1) (by omega) (by omega) (by omega))
              · refine v_iload_6 dX8_district_93 ?_
                refine v_istore_4 dX8_district_95 (Nat.le_of_ble_eq_true rfl) rfl ?_
                refine v_iinc_6 dX8_district_97 (Nat.le_of_ble_eq_true rfl) rfl ?_
                refine v_goto (tgt := 28) dX8_district_100 rfl ?_
                exact v_weak [some (rr E m), some (iv d), some (iv h), some (iv t), some (iv (bst (dsI w d h) 0 ((s + 1) - 0).toNat).2), some (iv (sm (fun s => if dsI w d h s = -1 then 0 else 1) 0 ((s + 1) - 0).toNat)), some (iv (s + 1))] ⟨rfl, rfl, rfl, rfl, by rw [bst_st _ h_0, e9]; rw [if_pos (by omega)], by rw [sm_st _ h_0, e9]; rw [if_neg c61], rfl, trivial⟩ (ih (s + 1) (by omega) (by omega) (by omega))
          · refine v_goto (tgt := 97) dX8_district_64 rfl ?_
            refine v_iinc_6 dX8_district_97 (Nat.le_of_ble_eq_true rfl) rfl ?_
            refine v_goto (tgt := 28) dX8_district_100 rfl ?_
            exact v_weak [some (rr E m), some (iv d), some (iv h), some (iv t), some (iv (bst (dsI w d h) 0 ((s + 1) - 0).toNat).2), some (iv (sm (fun s => if dsI w d h s = -1 then 0 else 1) 0 ((s + 1) - 0).toNat)), some (iv (s + 1))] ⟨rfl, rfl, rfl, rfl, by rw [bst_st _ h_0, e9]; rw [if_neg (by omega)], by rw [sm_st _ h_0, e9]; rw [if_pos c61, Int.add_zero], rfl, trivial⟩ (ih (s + 1) (by omega) (by omega) (by omega))
  exact v_weak [some (rr E m), some (iv d), some (iv h), some (iv t), some (iv (bst (dsI w d h) 0 ((0 : Int) - 0).toNat).2), some (iv (sm (fun s => if dsI w d h s = -1 then 0 else 1) 0 ((0 : Int) - 0).toNat)), some (iv (0 : Int))] ⟨rfl, rfl, rfl, rfl, rfl, rfl, rfl, trivial⟩ (lp (w 2 + 1).toNat 0 (by omega) (by have := hw.2.2.1; omega) (by have := hw.2.2.1; omega))

set_option maxRecDepth 100000 in
theorem c_X8_district {E : Ev} {M : Mem} {Post : Option Value → Mem → Prop} {m a : Nat} {f0 f1 f2 f3 f4 f5 f6 f7 f8 f9 f10 f12 f13 f14 f15 f16 f17 : Value} {w : Int → Int} (hm : M[m]? = some (ob 8 [f0, f1, f2, f3, f4, f5, f6, f7, f8, f9, f10, rr E a, f12, f13, f14, f15, f16, f17])) (ha : M[a]? = some (ia E 0 770 w)) (hw : WF w) {d h t : Int} (hd : I32 d) (hh : I32 h) (ht : I32 t) (hp : Post (some (iv (qDs w d h t))) M) : Cn E rX8_district mX8_district [rr E m, iv d, iv h, iv t] M Post := by
  unfold qDs at hp
  refine Cn.of (L := [some (rr E m), some (iv d), some (iv h), some (iv t), none, none, none]) (by decide) (Nat.le_of_ble_eq_true rfl) rfl ?_
  refine v_iload_1 dX8_district_0 ?_
  refine v_iconst dX8_district_1 ?_
  refine v_iconst dX8_district_2 ?_
  refine l_X8_89 rfl dX8_district_3 ⟨Nat.le_of_ble_eq_true rfl, Nat.le_of_ble_eq_true rfl⟩ (Nat.le_of_ble_eq_true rfl) ⟨Nat.le_refl _, Nat.le_refl _⟩ (c_X8_isIn hd ⟨by omega, by omega⟩ ⟨by omega, by omega⟩ ?_)
  refine v_ifeq_b (tgt := 17) dX8_district_6 rfl (fun c6 => ?_) (fun c6 => ?_)
  · refine v_iconst dX8_district_17 ?_
    exact v_iret dX8_district_18 rfl (Nat.le_refl _) (Nat.le_refl _) (by rw [if_neg (by omega)] at hp; exact hp)
  · refine v_aload_0 dX8_district_9 ?_
    refine v_iload_2 dX8_district_10 ?_
    refine l_X8_162 rfl dX8_district_11 hm ⟨Nat.le_of_ble_eq_true rfl, Nat.le_of_ble_eq_true rfl⟩ (Nat.le_of_ble_eq_true rfl) ⟨Nat.le_refl _, Nat.le_refl _⟩ (c_X8_isHour hm ha hw hh ?_)
    refine v_ifne_b (tgt := 19) dX8_district_14 rfl (fun c14 => ?_) (fun c14 => ?_)
    · refine v_iconst dX8_district_19 ?_
      refine v_istore_4 dX8_district_20 (Nat.le_of_ble_eq_true rfl) rfl ?_
      refine v_iconst dX8_district_22 ?_
      refine v_istore_5 dX8_district_23 (Nat.le_of_ble_eq_true rfl) rfl ?_
      refine v_iconst dX8_district_25 ?_
      refine v_istore_6 dX8_district_26 (Nat.le_of_ble_eq_true rfl) rfl ?_
      refine lp_X8_district hm ha hw (by omega) (by omega) (by omega) (by omega) ?_
      have wv := ws_val hw d h
      have n2 := hw.2.2.1
      refine v_iload_3 dX8_district_103 ?_
      refine v_iconst dX8_district_104 ?_
      refine v_icmp_ne (tgt := 111) dX8_district_105 rfl ht ⟨by omega, by omega⟩ (fun c105 => ?_) (fun c105 => ?_)
      · refine v_iload_4 dX8_district_111 ?_
        refine v_iconst dX8_district_113 ?_
        refine v_icmp_ne (tgt := 119) dX8_district_114 rfl ⟨by have : wsW w d h = (bst (dsI w d h) 0 (w 2).toNat).2 := rfl; omega, by have : wsW w d h = (bst (dsI w d h) 0 (w 2).toNat).2 := rfl; omega⟩ ⟨by omega, by omega⟩ (fun c114 => ?_) (fun c114 => ?_)
        · have c114 : ¬ wsW w d h = -1 := c114
          refine v_iload_3 dX8_district_119 ?_
          refine v_if_ne (tgt := 133) dX8_district_120 rfl ht (fun c120 => ?_) (fun c120 => ?_)
          · refine v_iload_3 dX8_district_133 ?_
            refine v_iconst dX8_district_134 ?_
            refine v_icmp_ne (tgt := 143) dX8_district_135 rfl ht ⟨by omega, by omega⟩ (fun c135 => ?_) (fun c135 => ?_)
            · refine v_iload_3 dX8_district_143 ?_
              refine v_iconst dX8_district_144 ?_
              refine v_icmp_ne (tgt := 162) dX8_district_145 rfl ht ⟨by omega, by omega⟩ (fun c145 => ?_) (fun c145 => ?_)
              · refine v_iconst dX8_district_162 ?_
                exact v_iret dX8_district_163 rfl (Nat.le_refl _) (Nat.le_refl _) (by rw [if_pos ⟨⟨by omega, by omega⟩, by omega, by omega⟩] at hp; rw [if_neg c105, if_neg c114, if_neg c120, if_neg c135, if_neg c145] at hp; exact hp)
              · refine v_aload_0 dX8_district_148 ?_
                refine v_aload_0 dX8_district_149 ?_
                refine v_iload_4 dX8_district_150 ?_
                refine v_iload_2 dX8_district_152 ?_
                refine l_X8_191 rfl dX8_district_153 hm ⟨Nat.le_of_ble_eq_true rfl, Nat.le_of_ble_eq_true rfl⟩ (Nat.le_of_ble_eq_true rfl) ⟨Nat.le_refl _, Nat.le_refl _⟩ (c_X8_indexOf (s := wsW w d h) hm ha hw (by omega) (by omega) (by omega) (by omega) ?_)
                refine l_X8_194 rfl dX8_district_156 hm ⟨Nat.le_of_ble_eq_true rfl, Nat.le_of_ble_eq_true rfl⟩ (Nat.le_of_ble_eq_true rfl) ⟨Nat.le_refl _, Nat.le_refl _⟩ (c_X8_bandOf hm ha hw ⟨by have := ix_bd hw (wsW w d h) h; omega, by have := ix_bd hw (wsW w d h) h; omega⟩ ?_)
                refine v_goto (tgt := 163) dX8_district_159 rfl ?_
                exact v_iret dX8_district_163 rfl (Nat.le_refl _) (Nat.le_refl _) (by rw [if_pos ⟨⟨by omega, by omega⟩, by omega, by omega⟩] at hp; rw [if_neg c105, if_neg c114, if_neg c120, if_neg c135, if_pos c145] at hp; exact hp)
            · refine v_iload_4 dX8_district_138 ?_
              refine v_goto (tgt := 163) dX8_district_140 rfl ?_
              exact v_iret dX8_district_163 rfl (Nat.le_refl _) (Nat.le_refl _) (by rw [if_pos ⟨⟨by omega, by omega⟩, by omega, by omega⟩] at hp; rw [if_neg c105, if_neg c114, if_neg c120, if_pos c135] at hp; exact hp)
          · refine v_aload_0 dX8_district_123 ?_
            refine v_iload_4 dX8_district_124 ?_
            refine v_iload_2 dX8_district_126 ?_
            refine l_X8_191 rfl dX8_district_127 hm ⟨Nat.le_of_ble_eq_true rfl, Nat.le_of_ble_eq_true rfl⟩ (Nat.le_of_ble_eq_true rfl) ⟨Nat.le_refl _, Nat.le_refl _⟩ (c_X8_indexOf (s := wsW w d h) hm ha hw (by omega) (by omega) (by omega) (by omega) ?_)
            refine v_goto (tgt := 163) dX8_district_130 rfl ?_
            exact v_iret dX8_district_163 rfl (Nat.le_refl _) (Nat.le_refl _) (by rw [if_pos ⟨⟨by omega, by omega⟩, by omega, by omega⟩] at hp; rw [if_neg c105, if_neg c114, if_pos c120] at hp; exact hp)
        · have c114 : wsW w d h = -1 := c114
          refine v_iconst dX8_district_117 ?_
          exact v_iret dX8_district_118 rfl (Nat.le_refl _) (Nat.le_refl _) (by rw [if_pos ⟨⟨by omega, by omega⟩, by omega, by omega⟩] at hp; rw [if_neg c105, if_pos c114] at hp; exact hp)
      · refine v_iload_5 dX8_district_108 ?_
        exact v_iret dX8_district_110 rfl (Nat.le_refl _) (Nat.le_refl _) (by rw [if_pos ⟨⟨by omega, by omega⟩, by omega, by omega⟩] at hp; rw [if_pos c105] at hp; exact hp)
    · refine v_iconst dX8_district_17 ?_
      exact v_iret dX8_district_18 rfl (Nat.le_refl _) (Nat.le_refl _) (by rw [if_neg (by omega)] at hp; exact hp)

set_option maxRecDepth 100000 in
theorem c_X8_canCorrect {E : Ev} {M : Mem} {Post : Option Value → Mem → Prop} {m a : Nat} {f0 f1 f2 f3 f4 f5 f6 f7 f8 f9 f10 f12 f13 f14 f15 f16 f17 : Value} {w : Int → Int} (hm : M[m]? = some (ob 8 [f0, f1, f2, f3, f4, f5, f6, f7, f8, f9, f10, rr E a, f12, f13, f14, f15, f16, f17])) (ha : M[a]? = some (ia E 0 770 w)) (hw : WF w) {s k h : Int} (hs : I32 s) (hk : I32 k) (hh : I32 h) {v : Int} (hv : I32 v) (hp : Post (some (iv (pI (Cc w s k h v)))) M) : Cn E rX8_canCorrect mX8_canCorrect [rr E m, iv s, iv k, iv h, iv v] M Post := by
  refine Cn.of (L := [some (rr E m), some (iv s), some (iv k), some (iv h), some (iv v)]) (by decide) (Nat.le_of_ble_eq_true rfl) rfl ?_
  refine v_aload_0 dX8_canCorrect_0 ?_
  refine v_iload_1 dX8_canCorrect_1 ?_
  refine v_iload_2 dX8_canCorrect_2 ?_
  refine v_iload_3 dX8_canCorrect_3 ?_
  refine l_X8_188 rfl dX8_canCorrect_4 hm ⟨Nat.le_of_ble_eq_true rfl, Nat.le_of_ble_eq_true rfl⟩ (Nat.le_of_ble_eq_true rfl) ⟨Nat.le_refl _, Nat.le_refl _⟩ (c_X8_are hm ha hw hs hk hh ?_)
  refine v_ifeq_b (tgt := 26) dX8_canCorrect_7 rfl (fun c => ?_) (fun c => ?_)
  · refine v_iconst dX8_canCorrect_26 ?_
    exact v_zret dX8_canCorrect_27 rfl (Nat.le_refl _) (Nat.le_refl _) (by first | exact Or.inl rfl | exact Or.inr rfl | exact pI_01 _) (ret_f (fun q => c q.1) hp)
  · refine v_iload_4 dX8_canCorrect_10 ?_
    refine v_iconst dX8_canCorrect_12 ?_
    refine v_sipush dX8_canCorrect_13 (by decide) ?_
    refine l_X8_89 rfl dX8_canCorrect_16 ⟨Nat.le_of_ble_eq_true rfl, Nat.le_of_ble_eq_true rfl⟩ (Nat.le_of_ble_eq_true rfl) ⟨Nat.le_refl _, Nat.le_refl _⟩ (c_X8_isIn hv ⟨by omega, by omega⟩ ⟨by omega, by omega⟩ ?_)
    refine v_ifeq_b (tgt := 26) dX8_canCorrect_19 rfl (fun c19 => ?_) (fun c19 => ?_)
    · refine v_iconst dX8_canCorrect_26 ?_
      exact v_zret dX8_canCorrect_27 rfl (Nat.le_refl _) (Nat.le_refl _) (by first | exact Or.inl rfl | exact Or.inr rfl | exact pI_01 _) (ret_f (fun q => by omega) hp)
    · refine v_iconst dX8_canCorrect_22 ?_
      refine v_goto (tgt := 27) dX8_canCorrect_23 rfl ?_
      exact v_zret dX8_canCorrect_27 rfl (Nat.le_refl _) (Nat.le_refl _) (by first | exact Or.inl rfl | exact Or.inr rfl | exact pI_01 _) (ret_t ⟨c, by omega, by omega⟩ hp)

/-- of the keeps loop: nothing found yet, or found -/
def kpI (w : Int → Int) (s k b v best : Int) : Prop := (best = -2 ∧ qKp w s k b = glW (kpB w s k b) (v + 1).toNat) ∨ (0 ≤ best ∧ best ≤ 999 ∧ qKp w s k b = best)
theorem kp_no {w : Int → Int} {s k b v best : Int} (h0 : -1 ≤ v) (hv : 0 ≤ v) (hb : best = -2) (hn : ixW (upI w (atW s k (w 0 - 1)) (v + 1)) s (w 0 - 1) = -1 ∨ w (4 + b) ≤ ixW (upI w (atW s k (w 0 - 1)) (v + 1)) s (w 0 - 1)) (h : kpI w s k b v best) : kpI w s k b (v + -1) best := by
  rcases h with ⟨q1, q2⟩ | ⟨q1, q2, q3⟩
  · refine Or.inl ⟨q1, ?_⟩
    have e : ¬ kpB w s k b v = true := by
      unfold kpB
      rw [decide_eq_true_eq]
      omega
    rw [q2, gl_st _ hv, if_neg e, show v + -1 + 1 = v by omega]
  · omega
theorem kp_yes {w : Int → Int} {s k b v best : Int} (h0 : -1 ≤ v) (hv : 0 ≤ v ∧ v ≤ 999) (hb : best = -2) (hn : ¬ ixW (upI w (atW s k (w 0 - 1)) (v + 1)) s (w 0 - 1) = -1) (hn2 : ixW (upI w (atW s k (w 0 - 1)) (v + 1)) s (w 0 - 1) < w (4 + b)) (h : kpI w s k b v best) : kpI w s k b (v + -1) v := by
  rcases h with ⟨q1, q2⟩ | ⟨q1, q2, q3⟩
  · refine Or.inr ⟨by omega, by omega, ?_⟩
    have e : kpB w s k b v = true := by
      unfold kpB
      rw [decide_eq_true_eq]
      exact ⟨hn, hn2⟩
    rw [q2, gl_st _ hv.1, if_pos e]
  · omega
theorem kp_end {w : Int → Int} {s k b v best : Int} (h : kpI w s k b v best) (hc : v < 0 ∨ ¬ best = -2) (h0 : -1 ≤ v) : best = qKp w s k b := by
  rcases h with ⟨q1, q2⟩ | ⟨q1, q2, q3⟩
  · rw [q2, q1, show (v + 1).toNat = 0 by omega]; rfl
  · exact q3.symm

set_option maxRecDepth 100000 in
theorem lp_X8_keeps {E : Ev} {M : Mem} {Post : Option Value → Mem → Prop} {m a : Nat} {f0 f1 f2 f3 f4 f5 f6 f7 f8 f9 f10 f12 f13 f14 f15 f16 f17 : Value} {w : Int → Int} (hm : M[m]? = some (ob 8 [f0, f1, f2, f3, f4, f5, f6, f7, f8, f9, f10, rr E a, f12, f13, f14, f15, f16, f17])) (ha : M[a]? = some (ia E 0 770 w)) (hw : WF w) {s k b : Int} (hP : Pl w s k (w 0 - 1)) (b0 : 0 ≤ b) (b1 : b ≤ 2) (hp : Post (some (iv (qKp w s k b))) M) : V E rX8_keeps mX8_keeps (finM E rX8_keeps Post) 0 0 M 59 [some (rr E m), some (iv s), some (iv k), some (iv b), some (iv (w 0 - 1)), some (iv (atW s k (w 0 - 1))), some (iv (w (atW s k (w 0 - 1)))), some (iv (-2)), some (iv 999), none] [] := by
  have lp : ∀ (r : Nat) (v best y : Int), (-1 ≤ v) → (v ≤ 999) → (kpI w s k b v best) → v + 1 < (r : Int) → V E rX8_keeps mX8_keeps (finM E rX8_keeps Post) 0 0 (M.set a (ia E 0 770 (upI w (atW s k (w 0 - 1)) y))) 59 [some (rr E m), some (iv s), some (iv k), some (iv b), some (iv (w 0 - 1)), some (iv (atW s k (w 0 - 1))), some (iv (w (atW s k (w 0 - 1)))), some (iv best), some (iv v), none] [] := by
    intro r
    induction r with
    | zero => intro v best y h_0 h_1 h_2 hz; exact absurd hz (by omega)
    | succ r ih =>
      intro v best y h_0 h_1 h_2 hz
      refine v_iload_8 dX8_keeps_59 ?_
      have hb9 : -2 ≤ best ∧ best ≤ 999 := by unfold kpI at h_2; omega
      refine v_if_lt (tgt := 120) dX8_keeps_61 rfl ⟨by omega, by omega⟩ (fun c61 => ?_) (fun c61 => ?_)
      · refine v_aload_0 dX8_keeps_120 ?_
        refine g_X8_74 rfl dX8_keeps_121 (gs_ne (ob_ia hm ha) hm) ?_
        refine v_iload_5 dX8_keeps_124 ?_
        refine v_iload_6 dX8_keeps_126 ?_
        refine v_iastore dX8_keeps_128 (gs_eq ha) (by unfold atW; omega) (by unfold atW; omega) (by decide) ?_
        rw [gs_gs, upI_up, upI_id, gs_id ha]
        refine v_iload_7 dX8_keeps_129 ?_
        exact v_iret dX8_keeps_131 rfl (Nat.le_refl _) (Nat.le_refl _) (by rw [kp_end h_2 (by omega) h_0]; exact hp)
      · refine v_iload_7 dX8_keeps_64 ?_
        refine v_bipush dX8_keeps_66 (by decide) ?_
        refine v_icmp_ne (tgt := 120) dX8_keeps_68 rfl ⟨by omega, by omega⟩ ⟨by omega, by omega⟩ (fun c68 => ?_) (fun c68 => ?_)
        · refine v_aload_0 dX8_keeps_120 ?_
          refine g_X8_74 rfl dX8_keeps_121 (gs_ne (ob_ia hm ha) hm) ?_
          refine v_iload_5 dX8_keeps_124 ?_
          refine v_iload_6 dX8_keeps_126 ?_
          refine v_iastore dX8_keeps_128 (gs_eq ha) (by unfold atW; omega) (by unfold atW; omega) (by decide) ?_
          rw [gs_gs, upI_up, upI_id, gs_id ha]
          refine v_iload_7 dX8_keeps_129 ?_
          exact v_iret dX8_keeps_131 rfl (Nat.le_refl _) (Nat.le_refl _) (by rw [kp_end h_2 (by omega) h_0]; exact hp)
        · refine v_aload_0 dX8_keeps_71 ?_
          refine g_X8_74 rfl dX8_keeps_72 (gs_ne (ob_ia hm ha) hm) ?_
          refine v_iload_5 dX8_keeps_75 ?_
          refine v_iload_8 dX8_keeps_77 ?_
          refine v_iconst dX8_keeps_79 ?_
          refine v_iadd dX8_keeps_80 ?_
          refine v_iastore dX8_keeps_81 (gs_eq ha) (by unfold atW; omega) (by unfold atW; omega) (by decide) ?_
          rw [gs_gs, upI_up]
          have hw2 := hw.up (v := v) hP (by omega) (by omega)
          have hb := ix_bd hw2 s (w 0 - 1)
          have e0 := up_lo w hP (v + 1) (j := 0) (by omega)
          have e2 := up_lo w hP (v + 1) (j := 2) (by omega)
          refine v_aload_0 dX8_keeps_82 ?_
          refine v_iload_1 dX8_keeps_83 ?_
          refine v_iload_4 dX8_keeps_84 ?_
          refine l_X8_191 rfl dX8_keeps_86 (gs_ne (ob_ia hm ha) hm) ⟨Nat.le_of_ble_eq_true rfl, Nat.le_of_ble_eq_true rfl⟩ (Nat.le_of_ble_eq_true rfl) ⟨Nat.le_refl _, Nat.le_refl _⟩ (c_X8_indexOf (gs_ne (ob_ia hm ha) hm) (gs_eq ha) hw2 (by omega) (by omega) (by omega) (by omega) ?_)
          refine v_istore_9 dX8_keeps_89 (Nat.le_of_ble_eq_true rfl) rfl ?_
          refine v_iload_9 dX8_keeps_91 ?_
          refine v_iconst dX8_keeps_93 ?_
          refine v_icmp_eq (tgt := 114) dX8_keeps_94 rfl ⟨by omega, by omega⟩ ⟨by omega, by omega⟩ (fun c94 => ?_) (fun c94 => ?_)
          · refine v_iinc_8 dX8_keeps_114 (Nat.le_of_ble_eq_true rfl) rfl ?_
            refine v_goto (tgt := 59) dX8_keeps_117 rfl ?_
            exact v_weak [some (rr E m), some (iv s), some (iv k), some (iv b), some (iv (w 0 - 1)), some (iv (atW s k (w 0 - 1))), some (iv (w (atW s k (w 0 - 1)))), some (iv best), some (iv (v + -1)), none] ⟨rfl, rfl, rfl, rfl, rfl, rfl, rfl, rfl, rfl, trivial⟩ (ih (v + -1) best (v + 1) (by omega) (by omega) (kp_no h_0 (by omega) (by omega) (Or.inl c94) h_2) (by omega))
          · refine v_iload_9 dX8_keeps_97 ?_
            refine v_aload_0 dX8_keeps_99 ?_
            refine g_X8_74 rfl dX8_keeps_100 (gs_ne (ob_ia hm ha) hm) ?_
            refine v_iconst dX8_keeps_103 ?_
            refine v_iload_3 dX8_keeps_104 ?_
            refine v_iadd dX8_keeps_105 ?_
            refine v_iaload dX8_keeps_106 (gs_eq ha) (by omega) (by omega) (by decide) ?_
            rw [up_lo w hP (v + 1) (by omega)]
            have b3 := bands_bd hw b0 (show b < 3 by omega)
            refine v_icmp_ge (tgt := 114) dX8_keeps_107 rfl ⟨by omega, by omega⟩ b3 (fun c107 => ?_) (fun c107 => ?_)
            · refine v_iinc_8 dX8_keeps_114 (Nat.le_of_ble_eq_true rfl) rfl ?_
              refine v_goto (tgt := 59) dX8_keeps_117 rfl ?_
              exact v_weak [some (rr E m), some (iv s), some (iv k), some (iv b), some (iv (w 0 - 1)), some (iv (atW s k (w 0 - 1))), some (iv (w (atW s k (w 0 - 1)))), some (iv best), some (iv (v + -1)), none] ⟨rfl, rfl, rfl, rfl, rfl, rfl, rfl, rfl, rfl, trivial⟩ (ih (v + -1) best (v + 1) (by omega) (by omega) (kp_no h_0 (by omega) (by omega) (Or.inr (by omega)) h_2) (by omega))
            · refine v_iload_8 dX8_keeps_110 ?_
              refine v_istore_7 dX8_keeps_112 (Nat.le_of_ble_eq_true rfl) rfl ?_
              refine v_iinc_8 dX8_keeps_114 (Nat.le_of_ble_eq_true rfl) rfl ?_
              refine v_goto (tgt := 59) dX8_keeps_117 rfl ?_
              exact v_weak [some (rr E m), some (iv s), some (iv k), some (iv b), some (iv (w 0 - 1)), some (iv (atW s k (w 0 - 1))), some (iv (w (atW s k (w 0 - 1)))), some (iv v), some (iv (v + -1)), none] ⟨rfl, rfl, rfl, rfl, rfl, rfl, rfl, rfl, rfl, trivial⟩ (ih (v + -1) v (v + 1) (by omega) (by omega) (kp_yes h_0 (by omega) (by omega) c94 (by omega) h_2) (by omega))
  have q := lp 1001 999 (-2) (w (atW s k (w 0 - 1))) (by omega) (by omega) (Or.inl ⟨rfl, if_pos ⟨hP, b0, b1⟩⟩) (by omega)
  rw [upI_id, gs_id ha] at q
  exact q

set_option maxRecDepth 100000 in
theorem c_X8_keeps {E : Ev} {M : Mem} {Post : Option Value → Mem → Prop} {m a : Nat} {f0 f1 f2 f3 f4 f5 f6 f7 f8 f9 f10 f12 f13 f14 f15 f16 f17 : Value} {w : Int → Int} (hm : M[m]? = some (ob 8 [f0, f1, f2, f3, f4, f5, f6, f7, f8, f9, f10, rr E a, f12, f13, f14, f15, f16, f17])) (ha : M[a]? = some (ia E 0 770 w)) (hw : WF w) {s k b : Int} (hs : I32 s) (hk : I32 k) (hb : I32 b) (hp : Post (some (iv (qKp w s k b))) M) : Cn E rX8_keeps mX8_keeps [rr E m, iv s, iv k, iv b] M Post := by
  refine Cn.of (L := [some (rr E m), some (iv s), some (iv k), some (iv b), none, none, none, none, none, none]) (by decide) (Nat.le_of_ble_eq_true rfl) rfl ?_
  refine v_aload_0 dX8_keeps_0 ?_
  refine g_X8_74 rfl dX8_keeps_1 hm ?_
  refine v_iconst dX8_keeps_4 ?_
  refine v_iaload dX8_keeps_5 ha (by omega) (by omega) (by decide) ?_
  refine v_iconst dX8_keeps_6 ?_
  refine v_isub dX8_keeps_7 ?_
  refine v_istore_4 dX8_keeps_8 (Nat.le_of_ble_eq_true rfl) rfl ?_
  refine v_aload_0 dX8_keeps_10 ?_
  refine v_iload_1 dX8_keeps_11 ?_
  refine v_iload_2 dX8_keeps_12 ?_
  refine v_iload_4 dX8_keeps_13 ?_
  refine l_X8_188 rfl dX8_keeps_15 hm ⟨Nat.le_of_ble_eq_true rfl, Nat.le_of_ble_eq_true rfl⟩ (Nat.le_of_ble_eq_true rfl) ⟨Nat.le_refl _, Nat.le_refl _⟩ (c_X8_are hm ha hw hs hk ⟨by have := hw.1; omega, by have := hw.1; omega⟩ ?_)
  refine v_ifeq_b (tgt := 30) dX8_keeps_18 rfl (fun hP => ?_) (fun hP => ?_)
  · refine v_iconst dX8_keeps_30 ?_
    exact v_iret dX8_keeps_31 rfl (Nat.le_refl _) (Nat.le_refl _) (by unfold qKp at hp; rw [if_neg (fun q => hP q.1)] at hp; exact hp)
  · refine v_iload_3 dX8_keeps_21 ?_
    refine v_iconst dX8_keeps_22 ?_
    refine v_iconst dX8_keeps_23 ?_
    refine l_X8_89 rfl dX8_keeps_24 ⟨Nat.le_of_ble_eq_true rfl, Nat.le_of_ble_eq_true rfl⟩ (Nat.le_of_ble_eq_true rfl) ⟨Nat.le_refl _, Nat.le_refl _⟩ (c_X8_isIn hb ⟨by omega, by omega⟩ ⟨by omega, by omega⟩ ?_)
    refine v_ifne_b (tgt := 32) dX8_keeps_27 rfl (fun c27 => ?_) (fun c27 => ?_)
    · refine v_iload_1 dX8_keeps_32 ?_
      refine v_iload_2 dX8_keeps_33 ?_
      refine v_iload_4 dX8_keeps_34 ?_
      refine l_X8_132 rfl dX8_keeps_36 ⟨Nat.le_of_ble_eq_true rfl, Nat.le_of_ble_eq_true rfl⟩ (Nat.le_of_ble_eq_true rfl) ⟨Nat.le_refl _, Nat.le_refl _⟩ (c_X8_at ?_)
      refine v_istore_5 dX8_keeps_39 (Nat.le_of_ble_eq_true rfl) rfl ?_
      refine v_aload_0 dX8_keeps_41 ?_
      refine g_X8_74 rfl dX8_keeps_42 hm ?_
      refine v_iload_5 dX8_keeps_45 ?_
      refine v_iaload dX8_keeps_47 ha (by omega) (by omega) (by decide) ?_
      refine v_istore_6 dX8_keeps_48 (Nat.le_of_ble_eq_true rfl) rfl ?_
      refine v_bipush dX8_keeps_50 (by decide) ?_
      refine v_istore_7 dX8_keeps_52 (Nat.le_of_ble_eq_true rfl) rfl ?_
      refine v_sipush dX8_keeps_54 (by decide) ?_
      refine v_istore_8 dX8_keeps_57 (Nat.le_of_ble_eq_true rfl) rfl ?_
      exact lp_X8_keeps hm ha hw hP (by omega) (by omega) hp
    · refine v_iconst dX8_keeps_30 ?_
      exact v_iret dX8_keeps_31 rfl (Nat.le_refl _) (Nat.le_refl _) (by unfold qKp at hp; rw [if_neg (fun q => by omega)] at hp; exact hp)
