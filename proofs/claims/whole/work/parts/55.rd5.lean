theorem rds_st1 {T : Int → Int} {L s k h p : Int} {w : Int → Int} (h0 : 0 ≤ h) (h5 : h ≤ 24) : sRds T L s k (24 - h).toNat h p w = if 0 < h ∧ tkK T L p = 3 then .inr (p, w) else if isW T L wX p then (if h = 24 then .inl (3, tkS T L p) else sRds T L s k (24 - (h + 1)).toNat (h + 1) (tkB T L p) (rdW w s k h (-1))) else nmS T L p 0 999 fun v p2 => if h = 24 then .inl (3, tkS T L p) else sRds T L s k (24 - (h + 1)).toNat (h + 1) p2 (rdW w s k h v) := by
  have q := rds_st (T := T) (L := L) (s := s) (k := k) (p := p) (w := w) h0 h5 (Sum.inr : RW → Rs RW)
  simp only [bn_inr] at q
  exact q
theorem rd_put {w : Int → Int} {s k h v : Int} (hw : PW w) (s0 : 0 ≤ s) (s1 : s < w 2) (k0 : 0 ≤ k) (k1 : k < w 1) (h0 : 0 ≤ h) (h24 : h < 24) : puW (upI w 0 (max (w 0) (h + 1))) s k h v = rdW w s k h v := by
  have a1 := hw.1
  have a2 := hw.2.1
  have a3 := hw.2.2.1
  unfold puW
  rw [if_pos]
  · rfl
  · unfold Pl
    rw [upI_n _ _ (show (2 : Int) ≠ 0 by omega), upI_n _ _ (show (1 : Int) ≠ 0 by omega), upI_s]
    omega
theorem HR_up {w : Int → Int} {h : Int} (hw : PW w) (h0 : 0 ≤ h) (h24 : h < 24) (w3 : 0 ≤ w 3 ∧ w 3 ≤ 100) : HR (upI w 0 (max (w 0) (h + 1))) := by
  have a1 := hw.1
  have a2 := hw.2.1
  have a3 := hw.2.2.1
  refine ⟨?_, ?_, ?_, ?_⟩
  · rw [upI_s]; exact ⟨by omega, by omega⟩
  · rw [upI_n _ _ (by omega)]; exact ⟨by omega, by omega⟩
  · rw [upI_n _ _ (by omega)]; exact ⟨by omega, by omega⟩
  · rw [upI_n _ _ (by omega)]; exact ⟨by omega, by omega⟩
theorem P5_up0 {w : Int → Int} (h : P5 w) (x : Int) : P5 (upI w 0 x) := by
  intro k k0 k1
  rw [upI_n _ _ (by omega)] at k1 ⊢
  exact h k k0 k1

set_option maxRecDepth 100000 in
theorem lp_reads {E : Ev} {M0 : Mem} {Post : Option Value → Mem → Prop} {r a b o : Nat} {T : Int → Int} {L ln fk fp td s k : Int} (har : a < r ∨ r + 2 ≤ a) (hbr : b < r ∨ r + 2 ≤ b) (hro : r + 2 ≤ o ∨ o + 26 ≤ r) (hao : a < o ∨ o + 26 ≤ a) (hbo : b < o ∨ o + 26 ≤ b) (s0 : 0 ≤ s) (k0 : 0 ≤ k) : ∀ (h p tk : Int) (w : Int → Int) (M : Mem), (CO E M r a b T L p ln fk fp tk td) → (OffAt E M o w) → (PW w) → (0 ≤ h) → (h ≤ 24) → (FdR r o M0 M) → (s < w 2) → (k < w 1) → (0 ≤ w 3 ∧ w 3 ≤ 100) → (CP E r a b T L o ln fk fp td M0 Post (sRds T L s k (24 - h).toNat h p w)) → V E rX5_readsReads mX5_readsReads (finM E rX5_readsReads Post) 0 0 M 3 [some (rr E r), some (rr E o), some (iv s), some (iv k), some (iv h)] [] := by
  have lp : ∀ (cq : Nat) (h p tk : Int) (w : Int → Int) (M : Mem), (CO E M r a b T L p ln fk fp tk td) → (OffAt E M o w) → (PW w) → (0 ≤ h) → (h ≤ 24) → (FdR r o M0 M) → (s < w 2) → (k < w 1) → (0 ≤ w 3 ∧ w 3 ≤ 100) → (CP E r a b T L o ln fk fp td M0 Post (sRds T L s k (24 - h).toNat h p w)) → 24 - h < (cq : Int) → V E rX5_readsReads mX5_readsReads (finM E rX5_readsReads Post) 0 0 M 3 [some (rr E r), some (rr E o), some (iv s), some (iv k), some (iv h)] [] := by
    intro cq
    induction cq with
    | zero => intro h p tk w M h_0 h_1 h_2 h_3 h_4 h_5 h_6 h_7 h_8 h_9 hz; exact absurd hz (by omega)
    | succ cq ih =>
      intro h p tk w M hC hO h_2 h_3 h_4 h_5 h_6 h_7 hw3 hp hz
      obtain ⟨hm, hk, hA, pa, pb⟩ := id hC
      obtain ⟨nu, hK, hN⟩ := id hk
      have kb := tkK_bd T L p
      have w9 := h_2.1
      have a2 := h_2.2.1
      have a3 := h_2.2.2.1
      rw [rds_st1 h_3 h_4] at hp
      refine v_iload_4 dX5_readsReads_3 ?_
      refine v_bipush dX5_readsReads_5 (by decide) ?_
      refine v_icmp_ge (tgt := 95) dX5_readsReads_7 rfl ⟨by omega, by omega⟩ ⟨by omega, by omega⟩ (fun c7 => ?_) (fun c7 => ?_)
      · refine v_aload_0 dX5_readsReads_95 ?_
        refine g_X5_14 rfl dX5_readsReads_96 hm ?_
        refine g_X5_85 rfl dX5_readsReads_99 hK ?_
        refine v_iconst dX5_readsReads_102 ?_
        refine v_icmp_eq (tgt := 121) dX5_readsReads_103 rfl ⟨by omega, by omega⟩ ⟨by omega, by omega⟩ (fun c103 => ?_) (fun c103 => ?_)
        · refine v_iconst dX5_readsReads_121 ?_
          refine v_goto (tgt := 126) dX5_readsReads_122 rfl ?_
          exact v_zret dX5_readsReads_126 rfl (Nat.le_refl _) (Nat.le_refl _) (Or.inr rfl) (by rw [if_pos ⟨by omega, by omega⟩] at hp; exact hp _ _ hC hO h_5)
        · refine v_aload_0 dX5_readsReads_106 ?_
          rw [if_neg (by omega)] at hp
          refine l_X5_123 rfl dX5_readsReads_107 hm ⟨Nat.le_of_ble_eq_true rfl, Nat.le_of_ble_eq_true rfl⟩ (Nat.le_of_ble_eq_true rfl) ⟨Nat.le_refl _, Nat.le_refl _⟩ (c_isRead hC har hbr (fun z1 M1 hf1 hz1 => ?_))
          have hb1 : z1 = 0 ∨ z1 = 1 := by rcases hz1 with ⟨e, _⟩ | ⟨e, _⟩ <;> omega
          refine v_if_eq (tgt := 125) dX5_readsReads_110 rfl ⟨by omega, by omega⟩ (fun c110 => ?_) (fun c110 => ?_)
          · obtain ⟨-, nw1, f1, no1, hF1⟩ := hz1.resolve_left (fun q => absurd q.1 (by omega))
            clear hz1
            rw [if_neg nw1, nm_no no1] at hp
            refine v_iconst dX5_readsReads_125 ?_
            exact v_zret dX5_readsReads_126 rfl (Nat.le_refl _) (Nat.le_refl _) (Or.inl rfl) (hp _ hF1 ⟨_, hO.fr (fun c c1 c2 => hf1.2 c (by omega))⟩ (h_5.tr hf1.dr))
          · obtain ⟨-, ok1, e1⟩ := hz1.resolve_right (fun q => absurd q.1 (by omega))
            clear hz1
            subst e1
            have hp : CP E r a b T L o ln fk fp td M0 Post (.inl (3, tkS T L p)) := by
              rcases ok1 with q | ⟨q, q2⟩
              · rw [if_pos q, if_pos (show h = 24 by omega)] at hp; exact hp
              · rw [if_neg q, nm_ok q2, if_pos (show h = 24 by omega)] at hp; exact hp
            refine v_aload_0 dX5_readsReads_113 ?_
            refine v_iconst dX5_readsReads_114 ?_
            refine l_X5_73 rfl dX5_readsReads_115 hm ⟨Nat.le_of_ble_eq_true rfl, Nat.le_of_ble_eq_true rfl⟩ (Nat.le_of_ble_eq_true rfl) ⟨Nat.le_refl _, Nat.le_refl _⟩ (c_refuses hC har hbr (fun M3 hF hf3 => ?_))
            refine v_if_eq (tgt := 125) dX5_readsReads_118 rfl ⟨by decide, by decide⟩ (fun c118 => ?_) (fun c118 => absurd c118 (by decide))
            refine v_iconst dX5_readsReads_125 ?_
            exact v_zret dX5_readsReads_126 rfl (Nat.le_refl _) (Nat.le_refl _) (Or.inl rfl) (hp _ hF ⟨_, hO.fr (fun c c1 c2 => hf3.2 c (by omega))⟩ (h_5.tr hf3.dr))
      · refine v_iload_4 dX5_readsReads_10 ?_
        refine v_if_le (tgt := 28) dX5_readsReads_12 rfl ⟨by omega, by omega⟩ (fun c12 => ?_) (fun c12 => ?_)
        · refine v_aload_0 dX5_readsReads_28 ?_
          rw [if_neg (by omega)] at hp
          refine l_X5_123 rfl dX5_readsReads_29 hm ⟨Nat.le_of_ble_eq_true rfl, Nat.le_of_ble_eq_true rfl⟩ (Nat.le_of_ble_eq_true rfl) ⟨Nat.le_refl _, Nat.le_refl _⟩ (c_isRead hC har hbr (fun z1 M1 hf1 hz1 => ?_))
          have hb1 : z1 = 0 ∨ z1 = 1 := by rcases hz1 with ⟨e, _⟩ | ⟨e, _⟩ <;> omega
          refine v_if_ne (tgt := 37) dX5_readsReads_32 rfl ⟨by omega, by omega⟩ (fun c32 => ?_) (fun c32 => ?_)
          · obtain ⟨-, ok1, e1⟩ := hz1.resolve_right (fun q => absurd q.1 (by omega))
            clear hz1
            subst e1
            have hkn : tkK T L p = 1 ∨ tkK T L p = 2 := by rcases ok1 with q | ⟨-, q⟩ <;> omega
            refine v_aload_1 dX5_readsReads_37 ?_
            refine v_aload_1 dX5_readsReads_38 ?_
            refine g_X5_126 rfl dX5_readsReads_39 hO.1 ?_
            refine v_iload_4 dX5_readsReads_42 ?_
            refine v_iconst dX5_readsReads_44 ?_
            refine v_iadd dX5_readsReads_45 ?_
            refine l_X5_129 rfl dX5_readsReads_46 ⟨by omega, by omega⟩ ⟨by omega, by omega⟩ (Nat.le_of_ble_eq_true rfl) (Nat.le_of_ble_eq_true rfl) ⟨Nat.le_refl _, Nat.le_refl _⟩ ?_
            refine p_X5_126 rfl dX5_readsReads_49 hO.1 ?_
            have hO2 := hO.hdr2 h_2.p5 (w2 := upI w 0 (max (w 0) (h + 1))) (fun j j0 j3 => upI_n w _ (by omega)) (upI_n w _ (by decide)) (upI_s w 0 _)
            have hf2 : Fr o (o + 26) M1 (M1.set o (ob 2 [rr E (o + 1), rr E (o + 2), rr E (o + 3), rr E (o + 4), iv (w 3), iv (w 1), iv (w 2), iv (max (w 0) (h + 1))])) := Fr.set (by omega) (by omega)
            have hx2 : FdR r o M0 _ := h_5.tr hf2.dof
            have hC2 := hC.fr (hf2.2 _ (by omega)) (hf2.2 _ (by omega)) (hf2.2 _ (by omega)) (hf2.2 _ (by omega))
            obtain ⟨hm2, hk2, hA2, pa2, pb2⟩ := id hC2
            obtain ⟨nu2, hK2, hN2⟩ := id hk2
            have kb2 := tkK_bd T L p
            refine v_aload_1 dX5_readsReads_52 ?_
            refine v_iload_2 dX5_readsReads_53 ?_
            refine v_iload_3 dX5_readsReads_54 ?_
            refine v_iload_4 dX5_readsReads_55 ?_
            refine v_aload_0 dX5_readsReads_57 ?_
            refine g_X5_14 rfl dX5_readsReads_58 hm2 ?_
            refine g_X5_85 rfl dX5_readsReads_61 hK2 ?_
            refine v_iconst dX5_readsReads_64 ?_
            refine v_icmp_ne (tgt := 78) dX5_readsReads_65 rfl ⟨by omega, by omega⟩ ⟨by omega, by omega⟩ (fun c65 => ?_) (fun c65 => ?_)
            · refine v_iconst dX5_readsReads_78 ?_
              refine l_X5_135 rfl dX5_readsReads_79 hO2.1 ⟨Nat.le_of_ble_eq_true rfl, Nat.le_of_ble_eq_true rfl⟩ (Nat.le_of_ble_eq_true rfl) ⟨Nat.le_refl _, Nat.le_refl _⟩ (c_X2_putRead hO2 (HR_up h_2 h_3 (by omega) hw3) (P5_up0 h_2.p5 _) ⟨by omega, by omega⟩ ⟨by omega, by omega⟩ ⟨by omega, by omega⟩ (fun M3 hO3 hf3 => ?_))
              rw [rd_put h_2 s0 h_6 k0 h_7 h_3 (by omega)] at hO3
              have hx3 : FdR r o M0 M3 := hx2.tr hf3.dof
              have hC3 := hC2.fr (hf3.2 _ (by omega)) (hf3.2 _ (by omega)) (hf3.2 _ (by omega)) (hf3.2 _ (by omega))
              obtain ⟨hm3, hk3, hA3, pa3, pb3⟩ := id hC3
              obtain ⟨nu3, hK3, hN3⟩ := id hk3
              have kb3 := tkK_bd T L p
              refine v_aload_0 dX5_readsReads_82 ?_
              refine g_X5_14 rfl dX5_readsReads_83 hm3 ?_
              refine l_X5_116 rfl dX5_readsReads_86 hK3 ⟨Nat.le_of_ble_eq_true rfl, Nat.le_of_ble_eq_true rfl⟩ (Nat.le_of_ble_eq_true rfl) ⟨Nat.le_refl _, Nat.le_refl _⟩ (c_next hC3 har hbr (fun M4 hC4 hf4 => ?_))
              have hx4 : FdR r o M0 M4 := hx3.tr (Fr.dr (hf4.wide (by omega) (by omega)))
              have hO4 := hO3.fr (fun c c1 c2 => hf4.2 c (by omega))
              refine v_iinc_4 dX5_readsReads_89 (Nat.le_of_ble_eq_true rfl) rfl ?_
              refine v_goto (tgt := 3) dX5_readsReads_92 rfl ?_
              have iw : isW T L wX p := ok1.resolve_right (fun q => by have := q.2.1; omega)
              rw [if_pos iw, if_neg (show ¬ h = 24 by omega)] at hp
              have q := rdW_pw h_2 (v := (-1)) s0 (by omega) k0 (by omega) h_3 (by omega) (by omega) (by omega)
              exact ih (h + 1) _ _ _ M4 hC4 hO4 q.1 (by omega) (by omega) hx4 (by rw [q.2 2 (by omega) (by omega)]; exact h_6) (by rw [q.2 1 (by omega) (by omega)]; exact h_7) (by rw [q.2 3 (by omega) (by omega)]; exact hw3) hp (by omega)
            · refine v_aload_0 dX5_readsReads_68 ?_
              refine g_X5_14 rfl dX5_readsReads_69 hm2 ?_
              refine g_X5_113 rfl dX5_readsReads_72 hK2 ?_
              rw [hN2 (by omega)]
              refine v_goto (tgt := 79) dX5_readsReads_75 rfl ?_
              refine l_X5_135 rfl dX5_readsReads_79 hO2.1 ⟨Nat.le_of_ble_eq_true rfl, Nat.le_of_ble_eq_true rfl⟩ (Nat.le_of_ble_eq_true rfl) ⟨Nat.le_refl _, Nat.le_refl _⟩ (c_X2_putRead hO2 (HR_up h_2 h_3 (by omega) hw3) (P5_up0 h_2.p5 _) ⟨by omega, by omega⟩ ⟨by omega, by omega⟩ ⟨by omega, by omega⟩ (fun M3 hO3 hf3 => ?_))
              rw [rd_put h_2 s0 h_6 k0 h_7 h_3 (by omega)] at hO3
              have hx3 : FdR r o M0 M3 := hx2.tr hf3.dof
              have hC3 := hC2.fr (hf3.2 _ (by omega)) (hf3.2 _ (by omega)) (hf3.2 _ (by omega)) (hf3.2 _ (by omega))
              obtain ⟨hm3, hk3, hA3, pa3, pb3⟩ := id hC3
              obtain ⟨nu3, hK3, hN3⟩ := id hk3
              have kb3 := tkK_bd T L p
              refine v_aload_0 dX5_readsReads_82 ?_
              refine g_X5_14 rfl dX5_readsReads_83 hm3 ?_
              refine l_X5_116 rfl dX5_readsReads_86 hK3 ⟨Nat.le_of_ble_eq_true rfl, Nat.le_of_ble_eq_true rfl⟩ (Nat.le_of_ble_eq_true rfl) ⟨Nat.le_refl _, Nat.le_refl _⟩ (c_next hC3 har hbr (fun M4 hC4 hf4 => ?_))
              have hx4 : FdR r o M0 M4 := hx3.tr (Fr.dr (hf4.wide (by omega) (by omega)))
              have hO4 := hO3.fr (fun c c1 c2 => hf4.2 c (by omega))
              refine v_iinc_4 dX5_readsReads_89 (Nat.le_of_ble_eq_true rfl) rfl ?_
              refine v_goto (tgt := 3) dX5_readsReads_92 rfl ?_
              have iw : ¬ isW T L wX p := fun q => by have := q.1; omega
              have okn := (ok1.resolve_left iw).2
              rw [if_neg iw, nm_ok okn, if_neg (show ¬ h = 24 by omega)] at hp
              have nb := tkN_bd okn.1
              have q := rdW_pw h_2 (v := (tkN T L p)) s0 (by omega) k0 (by omega) h_3 (by omega) (by omega) (by omega)
              exact ih (h + 1) _ _ _ M4 hC4 hO4 q.1 (by omega) (by omega) hx4 (by rw [q.2 2 (by omega) (by omega)]; exact h_6) (by rw [q.2 1 (by omega) (by omega)]; exact h_7) (by rw [q.2 3 (by omega) (by omega)]; exact hw3) hp (by omega)
          · obtain ⟨-, nw1, f1, no1, hF1⟩ := hz1.resolve_left (fun q => absurd q.1 (by omega))
            clear hz1
            rw [if_neg nw1, nm_no no1] at hp
            refine v_iconst dX5_readsReads_35 ?_
            exact v_zret dX5_readsReads_36 rfl (Nat.le_refl _) (Nat.le_refl _) (Or.inl rfl) (hp _ hF1 ⟨_, hO.fr (fun c c1 c2 => hf1.2 c (by omega))⟩ (h_5.tr hf1.dr))
        · refine v_aload_0 dX5_readsReads_15 ?_
          refine g_X5_14 rfl dX5_readsReads_16 hm ?_
          refine g_X5_85 rfl dX5_readsReads_19 hK ?_
          refine v_iconst dX5_readsReads_22 ?_
          refine v_icmp_ne (tgt := 28) dX5_readsReads_23 rfl ⟨by omega, by omega⟩ ⟨by omega, by omega⟩ (fun c23 => ?_) (fun c23 => ?_)
          · refine v_aload_0 dX5_readsReads_28 ?_
            rw [if_neg (by omega)] at hp
            refine l_X5_123 rfl dX5_readsReads_29 hm ⟨Nat.le_of_ble_eq_true rfl, Nat.le_of_ble_eq_true rfl⟩ (Nat.le_of_ble_eq_true rfl) ⟨Nat.le_refl _, Nat.le_refl _⟩ (c_isRead hC har hbr (fun z1 M1 hf1 hz1 => ?_))
            have hb1 : z1 = 0 ∨ z1 = 1 := by rcases hz1 with ⟨e, _⟩ | ⟨e, _⟩ <;> omega
            refine v_if_ne (tgt := 37) dX5_readsReads_32 rfl ⟨by omega, by omega⟩ (fun c32 => ?_) (fun c32 => ?_)
            · obtain ⟨-, ok1, e1⟩ := hz1.resolve_right (fun q => absurd q.1 (by omega))
              clear hz1
              subst e1
              have hkn : tkK T L p = 1 ∨ tkK T L p = 2 := by rcases ok1 with q | ⟨-, q⟩ <;> omega
              refine v_aload_1 dX5_readsReads_37 ?_
              refine v_aload_1 dX5_readsReads_38 ?_
              refine g_X5_126 rfl dX5_readsReads_39 hO.1 ?_
              refine v_iload_4 dX5_readsReads_42 ?_
              refine v_iconst dX5_readsReads_44 ?_
              refine v_iadd dX5_readsReads_45 ?_
              refine l_X5_129 rfl dX5_readsReads_46 ⟨by omega, by omega⟩ ⟨by omega, by omega⟩ (Nat.le_of_ble_eq_true rfl) (Nat.le_of_ble_eq_true rfl) ⟨Nat.le_refl _, Nat.le_refl _⟩ ?_
              refine p_X5_126 rfl dX5_readsReads_49 hO.1 ?_
              have hO2 := hO.hdr2 h_2.p5 (w2 := upI w 0 (max (w 0) (h + 1))) (fun j j0 j3 => upI_n w _ (by omega)) (upI_n w _ (by decide)) (upI_s w 0 _)
              have hf2 : Fr o (o + 26) M1 (M1.set o (ob 2 [rr E (o + 1), rr E (o + 2), rr E (o + 3), rr E (o + 4), iv (w 3), iv (w 1), iv (w 2), iv (max (w 0) (h + 1))])) := Fr.set (by omega) (by omega)
              have hx2 : FdR r o M0 _ := h_5.tr hf2.dof
              have hC2 := hC.fr (hf2.2 _ (by omega)) (hf2.2 _ (by omega)) (hf2.2 _ (by omega)) (hf2.2 _ (by omega))
              obtain ⟨hm2, hk2, hA2, pa2, pb2⟩ := id hC2
              obtain ⟨nu2, hK2, hN2⟩ := id hk2
              have kb2 := tkK_bd T L p
              refine v_aload_1 dX5_readsReads_52 ?_
              refine v_iload_2 dX5_readsReads_53 ?_
              refine v_iload_3 dX5_readsReads_54 ?_
              refine v_iload_4 dX5_readsReads_55 ?_
              refine v_aload_0 dX5_readsReads_57 ?_
              refine g_X5_14 rfl dX5_readsReads_58 hm2 ?_
              refine g_X5_85 rfl dX5_readsReads_61 hK2 ?_
              refine v_iconst dX5_readsReads_64 ?_
              refine v_icmp_ne (tgt := 78) dX5_readsReads_65 rfl ⟨by omega, by omega⟩ ⟨by omega, by omega⟩ (fun c65 => ?_) (fun c65 => ?_)
              · refine v_iconst dX5_readsReads_78 ?_
                refine l_X5_135 rfl dX5_readsReads_79 hO2.1 ⟨Nat.le_of_ble_eq_true rfl, Nat.le_of_ble_eq_true rfl⟩ (Nat.le_of_ble_eq_true rfl) ⟨Nat.le_refl _, Nat.le_refl _⟩ (c_X2_putRead hO2 (HR_up h_2 h_3 (by omega) hw3) (P5_up0 h_2.p5 _) ⟨by omega, by omega⟩ ⟨by omega, by omega⟩ ⟨by omega, by omega⟩ (fun M3 hO3 hf3 => ?_))
                rw [rd_put h_2 s0 h_6 k0 h_7 h_3 (by omega)] at hO3
                have hx3 : FdR r o M0 M3 := hx2.tr hf3.dof
                have hC3 := hC2.fr (hf3.2 _ (by omega)) (hf3.2 _ (by omega)) (hf3.2 _ (by omega)) (hf3.2 _ (by omega))
                obtain ⟨hm3, hk3, hA3, pa3, pb3⟩ := id hC3
                obtain ⟨nu3, hK3, hN3⟩ := id hk3
                have kb3 := tkK_bd T L p
                refine v_aload_0 dX5_readsReads_82 ?_
                refine g_X5_14 rfl dX5_readsReads_83 hm3 ?_
                refine l_X5_116 rfl dX5_readsReads_86 hK3 ⟨Nat.le_of_ble_eq_true rfl, Nat.le_of_ble_eq_true rfl⟩ (Nat.le_of_ble_eq_true rfl) ⟨Nat.le_refl _, Nat.le_refl _⟩ (c_next hC3 har hbr (fun M4 hC4 hf4 => ?_))
                have hx4 : FdR r o M0 M4 := hx3.tr (Fr.dr (hf4.wide (by omega) (by omega)))
                have hO4 := hO3.fr (fun c c1 c2 => hf4.2 c (by omega))
                refine v_iinc_4 dX5_readsReads_89 (Nat.le_of_ble_eq_true rfl) rfl ?_
                refine v_goto (tgt := 3) dX5_readsReads_92 rfl ?_
                have iw : isW T L wX p := ok1.resolve_right (fun q => by have := q.2.1; omega)
                rw [if_pos iw, if_neg (show ¬ h = 24 by omega)] at hp
                have q := rdW_pw h_2 (v := (-1)) s0 (by omega) k0 (by omega) h_3 (by omega) (by omega) (by omega)
                exact ih (h + 1) _ _ _ M4 hC4 hO4 q.1 (by omega) (by omega) hx4 (by rw [q.2 2 (by omega) (by omega)]; exact h_6) (by rw [q.2 1 (by omega) (by omega)]; exact h_7) (by rw [q.2 3 (by omega) (by omega)]; exact hw3) hp (by omega)
              · refine v_aload_0 dX5_readsReads_68 ?_
                refine g_X5_14 rfl dX5_readsReads_69 hm2 ?_
                refine g_X5_113 rfl dX5_readsReads_72 hK2 ?_
                rw [hN2 (by omega)]
                refine v_goto (tgt := 79) dX5_readsReads_75 rfl ?_
                refine l_X5_135 rfl dX5_readsReads_79 hO2.1 ⟨Nat.le_of_ble_eq_true rfl, Nat.le_of_ble_eq_true rfl⟩ (Nat.le_of_ble_eq_true rfl) ⟨Nat.le_refl _, Nat.le_refl _⟩ (c_X2_putRead hO2 (HR_up h_2 h_3 (by omega) hw3) (P5_up0 h_2.p5 _) ⟨by omega, by omega⟩ ⟨by omega, by omega⟩ ⟨by omega, by omega⟩ (fun M3 hO3 hf3 => ?_))
                rw [rd_put h_2 s0 h_6 k0 h_7 h_3 (by omega)] at hO3
                have hx3 : FdR r o M0 M3 := hx2.tr hf3.dof
                have hC3 := hC2.fr (hf3.2 _ (by omega)) (hf3.2 _ (by omega)) (hf3.2 _ (by omega)) (hf3.2 _ (by omega))
                obtain ⟨hm3, hk3, hA3, pa3, pb3⟩ := id hC3
                obtain ⟨nu3, hK3, hN3⟩ := id hk3
                have kb3 := tkK_bd T L p
                refine v_aload_0 dX5_readsReads_82 ?_
                refine g_X5_14 rfl dX5_readsReads_83 hm3 ?_
                refine l_X5_116 rfl dX5_readsReads_86 hK3 ⟨Nat.le_of_ble_eq_true rfl, Nat.le_of_ble_eq_true rfl⟩ (Nat.le_of_ble_eq_true rfl) ⟨Nat.le_refl _, Nat.le_refl _⟩ (c_next hC3 har hbr (fun M4 hC4 hf4 => ?_))
                have hx4 : FdR r o M0 M4 := hx3.tr (Fr.dr (hf4.wide (by omega) (by omega)))
                have hO4 := hO3.fr (fun c c1 c2 => hf4.2 c (by omega))
                refine v_iinc_4 dX5_readsReads_89 (Nat.le_of_ble_eq_true rfl) rfl ?_
                refine v_goto (tgt := 3) dX5_readsReads_92 rfl ?_
                have iw : ¬ isW T L wX p := fun q => by have := q.1; omega
                have okn := (ok1.resolve_left iw).2
                rw [if_neg iw, nm_ok okn, if_neg (show ¬ h = 24 by omega)] at hp
                have nb := tkN_bd okn.1
                have q := rdW_pw h_2 (v := (tkN T L p)) s0 (by omega) k0 (by omega) h_3 (by omega) (by omega) (by omega)
                exact ih (h + 1) _ _ _ M4 hC4 hO4 q.1 (by omega) (by omega) hx4 (by rw [q.2 2 (by omega) (by omega)]; exact h_6) (by rw [q.2 1 (by omega) (by omega)]; exact h_7) (by rw [q.2 3 (by omega) (by omega)]; exact hw3) hp (by omega)
            · obtain ⟨-, nw1, f1, no1, hF1⟩ := hz1.resolve_left (fun q => absurd q.1 (by omega))
              clear hz1
              rw [if_neg nw1, nm_no no1] at hp
              refine v_iconst dX5_readsReads_35 ?_
              exact v_zret dX5_readsReads_36 rfl (Nat.le_refl _) (Nat.le_refl _) (Or.inl rfl) (hp _ hF1 ⟨_, hO.fr (fun c c1 c2 => hf1.2 c (by omega))⟩ (h_5.tr hf1.dr))
          · refine v_iconst dX5_readsReads_26 ?_
            exact v_zret dX5_readsReads_27 rfl (Nat.le_refl _) (Nat.le_refl _) (Or.inr rfl) (by rw [if_pos ⟨by omega, by omega⟩] at hp; exact hp _ _ hC hO h_5)
  intro h p tk w M a1 a2 a3 a4 a5 a6 a7 a8 a9 b1
  exact lp 25 h p tk w M a1 a2 a3 a4 a5 a6 a7 a8 a9 b1 (by omega)

set_option maxRecDepth 100000 in
theorem c_readsReads {E : Ev} {M : Mem} {Post : Option Value → Mem → Prop} {r a b o : Nat} {T : Int → Int} {L p ln fk fp tk td : Int} {w : Int → Int} (hC : CO E M r a b T L p ln fk fp tk td) (hO : OffAt E M o w) (har : a < r ∨ r + 2 ≤ a) (hbr : b < r ∨ r + 2 ≤ b) (hro : r + 2 ≤ o ∨ o + 26 ≤ r) (hao : a < o ∨ o + 26 ≤ a) (hbo : b < o ∨ o + 26 ≤ b) {s k : Int} (hw : PW w) (hw3 : 0 ≤ w 3 ∧ w 3 ≤ 100) (s0 : 0 ≤ s) (s1 : s < w 2) (k0 : 0 ≤ k) (k1 : k < w 1) (hp : CP E r a b T L o ln fk fp td M Post (sRds T L s k 24 0 p w)) : Cn E rX5_readsReads mX5_readsReads [rr E r, rr E o, iv s, iv k] M Post := by
  refine Cn.of (L := [some (rr E r), some (rr E o), some (iv s), some (iv k), none]) (by decide) (Nat.le_of_ble_eq_true rfl) rfl ?_
  refine v_iconst dX5_readsReads_0 ?_
  refine v_istore_4 dX5_readsReads_1 (Nat.le_of_ble_eq_true rfl) rfl ?_
  exact lp_reads har hbr hro hao hbo s0 k0 0 p tk w M hC hO hw (by omega) (by omega) FdR.rf s1 k1 hw3 hp
