theorem PW.p5 {w : Int → Int} (h : PW w) : P5 w := fun k k0 k1 => (h.2.2.2.1 k k0 k1).1.2.2.2.2.2
theorem pts_st1 {T : Int → Int} {L k i p : Int} {w : Int → Int} (h0 : 0 ≤ i) (h5 : i ≤ 5) : sPts T L k (5 - i).toNat i (llW w k i) (liW w k i) p w = if 2 ≤ i ∧ tkK T L p = 3 then .inr (p, w) else bnS (ptS T L k i p w) (fun r => sPts T L k (5 - (i + 1)).toNat (i + 1) (llW r.2 k (i + 1)) (liW r.2 k (i + 1)) r.1 r.2) := by
  have h := pts_st (T := T) (L := L) (p := p) (k := k) (w := w) h0 h5 (Sum.inr : RW → Rs RW)
  rw [bn_inr] at h
  rw [h]
  congr 1
  congr 1
  funext r
  exact bn_inr _
theorem CP_mk {E : Ev} {r a b : Nat} {T : Int → Int} {L : Int} {o : Nat} {ln fk fp td : Int} {M : Mem} {Post : Option Value → Mem → Prop} {x : Rs RW} (h : ∀ (z : Int) (M2 : Mem), FdR r o M M2 → ((z = 1 ∧ ∃ p w tk, x = .inr (p, w) ∧ CO E M2 r a b T L p ln fk fp tk td ∧ OffAt E M2 o w) ∨ (z = 0 ∧ ∃ f pl, x = .inl (f, pl) ∧ CF E M2 r a b T L f pl ∧ ∃ w, OffAt E M2 o w)) → Post (some (iv z)) M2) : CP E r a b T L o ln fk fp td M Post x := by
  rcases x with ⟨f, pl⟩ | ⟨p, w⟩
  · exact fun M2 h1 h2 h3 => h 0 M2 h3 (Or.inr ⟨rfl, f, pl, rfl, h1, h2⟩)
  · exact fun M2 tk h1 h2 h3 => h 1 M2 h3 (Or.inl ⟨rfl, p, w, tk, rfl, h1, h2⟩)
theorem P5_pt {w : Int → Int} {k i x y : Int} (h : P5 w) (k0 : 0 ≤ k) (i0 : 0 ≤ i) (i5 : i < 5) : P5 (ptW w k i x y) := by
  intro k2 h0 h1
  rw [pt_n w (by omega) i0] at h1
  by_cases e : k2 = k
  · rw [e]
    show upI _ (9 + 13 * k) (i + 1) (9 + 13 * k) ≤ 5
    rw [upI_s]; omega
  · rw [pt_n w (by omega) i0]
    exact h k2 h0 h1
theorem P5_sb {w : Int → Int} {x y : Int} (h : P5 w) (w0 : 0 ≤ w 1) : P5 (sbR w x y) := by
  intro k2 h0 h1
  rw [sb_1 w w0] at h1
  by_cases e : k2 = w 1
  · rw [e]; unfold sbR; rw [upI_s]; omega
  · rw [sb_n w (by omega) (by omega)]
    exact h k2 h0 (by omega)

set_option maxRecDepth 100000 in
theorem lp_points {E : Ev} {M0 : Mem} {Post : Option Value → Mem → Prop} {r a b o : Nat} {T : Int → Int} {L ln fk fp td k : Int} (har : a < r ∨ r + 2 ≤ a) (hbr : b < r ∨ r + 2 ≤ b) (hro : r + 2 ≤ o ∨ o + 26 ≤ r) (hao : a < o ∨ o + 26 ≤ a) (hbo : b < o ∨ o + 26 ≤ b) (k0 : 0 ≤ k) (k3 : k < 3) : ∀ (i ll li p tk : Int) (ws : Int → Int) (M : Mem), (CO E M r a b T L p ln fk fp tk td) → (OffAt E M o ws) → (0 ≤ i) → (i ≤ 5) → (k < ws 1) → (ws (9 + 13 * k) = i) → (P5 ws) → (FdR r o M0 M) → (ll = llW ws k i) → (li = liW ws k i) → (0 ≤ ll ∧ ll ≤ 1000) → (0 ≤ li ∧ li ≤ 500) → (CP E r a b T L o ln fk fp td M0 Post (sPts T L k (5 - i).toNat i ll li p ws)) → V E rX5_readsPoints mX5_readsPoints (finM E rX5_readsPoints Post) 0 0 M 7 [some (rr E r), some (rr E (o + 17 + 3 * k.toNat)), some (iv ll), some (iv li), some (iv i), none] [] := by
  have lp : ∀ (cq : Nat) (i ll li p tk : Int) (ws : Int → Int) (M : Mem), (CO E M r a b T L p ln fk fp tk td) → (OffAt E M o ws) → (0 ≤ i) → (i ≤ 5) → (k < ws 1) → (ws (9 + 13 * k) = i) → (P5 ws) → (FdR r o M0 M) → (ll = llW ws k i) → (li = liW ws k i) → (0 ≤ ll ∧ ll ≤ 1000) → (0 ≤ li ∧ li ≤ 500) → (CP E r a b T L o ln fk fp td M0 Post (sPts T L k (5 - i).toNat i ll li p ws)) → 5 - i < (cq : Int) → V E rX5_readsPoints mX5_readsPoints (finM E rX5_readsPoints Post) 0 0 M 7 [some (rr E r), some (rr E (o + 17 + 3 * k.toNat)), some (iv ll), some (iv li), some (iv i), none] [] := by
    intro cq
    induction cq with
    | zero => intro i ll li p tk ws M h_0 h_1 h_2 h_3 h_4 h_5 h_6 h_7 h_8 h_9 h_10 h_11 h_12 hz; exact absurd hz (by omega)
    | succ cq ih =>
      intro i ll li p tk ws M hC hO h_2 h_3 h_4 h_5 h_6 h_7 h_8 h_9 h_10 h_11 hp hz
      obtain ⟨hm, hk, hA, pa, pb⟩ := id hC
      obtain ⟨nu, hK, hN⟩ := id hk
      have kb := tkK_bd T L p
      rw [h_8, h_9, pts_st1 h_2 h_3] at hp
      refine v_iload_4 dX5_readsPoints_7 ?_
      refine v_iconst dX5_readsPoints_9 ?_
      refine v_icmp_ge (tgt := 90) dX5_readsPoints_10 rfl ⟨by omega, by omega⟩ ⟨by omega, by omega⟩ (fun c10 => ?_) (fun c10 => ?_)
      · refine v_aload_0 dX5_readsPoints_90 ?_
        refine g_X5_14 rfl dX5_readsPoints_91 hm ?_
        refine g_X5_85 rfl dX5_readsPoints_94 hK ?_
        refine v_iconst dX5_readsPoints_97 ?_
        refine v_icmp_eq (tgt := 120) dX5_readsPoints_98 rfl ⟨by omega, by omega⟩ ⟨by omega, by omega⟩ (fun c98 => ?_) (fun c98 => ?_)
        · refine v_iconst dX5_readsPoints_120 ?_
          refine v_goto (tgt := 125) dX5_readsPoints_121 rfl ?_
          exact v_zret dX5_readsPoints_125 rfl (Nat.le_refl _) (Nat.le_refl _) (Or.inr rfl) (by rw [if_pos ⟨by omega, by omega⟩] at hp; exact hp _ _ hC hO h_7)
        · refine v_aload_0 dX5_readsPoints_101 ?_
          refine v_iload_2 dX5_readsPoints_102 ?_
          refine v_sipush dX5_readsPoints_103 (by decide) ?_
          rw [if_neg (by omega)] at hp
          unfold ptS at hp
          rw [← h_8] at hp
          refine l_X5_93 rfl dX5_readsPoints_106 hm ⟨Nat.le_of_ble_eq_true rfl, Nat.le_of_ble_eq_true rfl⟩ (Nat.le_of_ble_eq_true rfl) ⟨Nat.le_refl _, Nat.le_refl _⟩ (c_within hC har hbr ⟨by omega, by omega⟩ ⟨by omega, by omega⟩ (fun z M2 hf hz => ?_))
          have hb : z = 0 ∨ z = 1 := by rcases hz with ⟨e, _⟩ | ⟨e, _⟩ <;> omega
          refine v_if_eq (tgt := 124) dX5_readsPoints_109 rfl ⟨by omega, by omega⟩ (fun c109 => ?_) (fun c109 => ?_)
          · obtain ⟨-, ff, no, hF⟩ := hz.resolve_left (fun q => absurd q.1 (by omega))
            rw [nm_no no] at hp
            clear hz
            refine v_iconst dX5_readsPoints_124 ?_
            exact v_zret dX5_readsPoints_125 rfl (Nat.le_refl _) (Nat.le_refl _) (Or.inl rfl) (hp _ hF ⟨_, hO.fr (fun c c1 c2 => hf.2 c (by omega))⟩ (h_7.tr hf.dr))
          · obtain ⟨-, ok, e2⟩ := hz.resolve_right (fun q => absurd q.1 (by omega))
            subst e2
            rw [nm_ok ok] at hp
            try dsimp only at hp
            rw [if_pos (show i = 5 by omega)] at hp
            refine v_aload_0 dX5_readsPoints_112 ?_
            refine v_iconst dX5_readsPoints_113 ?_
            refine l_X5_73 rfl dX5_readsPoints_114 hm ⟨Nat.le_of_ble_eq_true rfl, Nat.le_of_ble_eq_true rfl⟩ (Nat.le_of_ble_eq_true rfl) ⟨Nat.le_refl _, Nat.le_refl _⟩ (c_refuses hC har hbr (fun M3 hF hf3 => ?_))
            refine v_if_eq (tgt := 124) dX5_readsPoints_117 rfl ⟨by decide, by decide⟩ (fun c117 => ?_) (fun c117 => absurd c117 (by decide))
            refine v_iconst dX5_readsPoints_124 ?_
            exact v_zret dX5_readsPoints_125 rfl (Nat.le_refl _) (Nat.le_refl _) (Or.inl rfl) (hp _ hF ⟨_, hO.fr (fun c c1 c2 => hf3.2 c (by omega))⟩ (h_7.tr hf3.dr))
      · refine v_iload_4 dX5_readsPoints_13 ?_
        refine v_iconst dX5_readsPoints_15 ?_
        refine v_icmp_lt (tgt := 32) dX5_readsPoints_16 rfl ⟨by omega, by omega⟩ ⟨by omega, by omega⟩ (fun c16 => ?_) (fun c16 => ?_)
        · refine v_aload_0 dX5_readsPoints_32 ?_
          refine v_iload_2 dX5_readsPoints_33 ?_
          refine v_sipush dX5_readsPoints_34 (by decide) ?_
          rw [if_neg (by omega)] at hp
          unfold ptS at hp
          rw [← h_8] at hp
          refine l_X5_42 rfl dX5_readsPoints_37 hm ⟨Nat.le_of_ble_eq_true rfl, Nat.le_of_ble_eq_true rfl⟩ (Nat.le_of_ble_eq_true rfl) ⟨Nat.le_refl _, Nat.le_refl _⟩ (c_takesNumber hC har hbr ⟨by omega, by omega⟩ ⟨by omega, by omega⟩ (fun z1 M1 hf1 hz1 => ?_))
          have hb1 : z1 = 0 ∨ z1 = 1 := by rcases hz1 with ⟨e, _⟩ | ⟨e, _⟩ <;> omega
          have hx1 : FdR r o M0 M1 := h_7.tr hf1.dr
          have hO1 := hO.fr (fun c c1 c2 => hf1.2 c (by omega))
          refine v_if_ne (tgt := 45) dX5_readsPoints_40 rfl ⟨by omega, by omega⟩ (fun c40 => ?_) (fun c40 => ?_)
          · obtain ⟨-, ok1, hC1⟩ := hz1.resolve_right (fun q => absurd q.1 (by omega))
            obtain ⟨hm1, hk1, hA1, pa1, pb1⟩ := id hC1
            obtain ⟨nu1, hK1, hN1⟩ := id hk1
            have kb1 := tkK_bd T L (tkB T L p)
            rw [nm_ok ok1] at hp
            have nb1 := tkN_bd ok1.1
            try dsimp only at hp
            rw [if_neg (show ¬ i = 5 by omega), ← h_9] at hp
            refine v_aload_0 dX5_readsPoints_45 ?_
            refine g_X5_46 rfl dX5_readsPoints_46 hm1 ?_
            refine v_istore_5 dX5_readsPoints_49 (Nat.le_of_ble_eq_true rfl) rfl ?_
            refine v_aload_0 dX5_readsPoints_51 ?_
            refine v_iload_3 dX5_readsPoints_52 ?_
            refine v_sipush dX5_readsPoints_53 (by decide) ?_
            refine l_X5_42 rfl dX5_readsPoints_56 hm1 ⟨Nat.le_of_ble_eq_true rfl, Nat.le_of_ble_eq_true rfl⟩ (Nat.le_of_ble_eq_true rfl) ⟨Nat.le_refl _, Nat.le_refl _⟩ (c_takesNumber hC1 har hbr ⟨by omega, by omega⟩ ⟨by omega, by omega⟩ (fun z2 M2 hf2 hz2 => ?_))
            have hb2 : z2 = 0 ∨ z2 = 1 := by rcases hz2 with ⟨e, _⟩ | ⟨e, _⟩ <;> omega
            have hx2 : FdR r o M0 M2 := hx1.tr hf2.dr
            have hO2 := hO1.fr (fun c c1 c2 => hf2.2 c (by omega))
            refine v_if_ne (tgt := 64) dX5_readsPoints_59 rfl ⟨by omega, by omega⟩ (fun c59 => ?_) (fun c59 => ?_)
            · obtain ⟨-, ok2, hC2⟩ := hz2.resolve_right (fun q => absurd q.1 (by omega))
              obtain ⟨hm2, hk2, hA2, pa2, pb2⟩ := id hC2
              obtain ⟨nu2, hK2, hN2⟩ := id hk2
              have kb2 := tkK_bd T L (tkB T L (tkB T L p))
              rw [nm_ok ok2] at hp
              have nb2 := tkN_bd ok2.1
              replace hp : CP E r a b T L o ln fk fp td M0 Post (sPts T L k (5 - (i + 1)).toNat (i + 1) (llW (ptW ws k i (tkN T L p) (tkN T L (tkB T L p))) k (i + 1)) (liW (ptW ws k i (tkN T L p) (tkN T L (tkB T L p))) k (i + 1)) (tkB T L (tkB T L p)) (ptW ws k i (tkN T L p) (tkN T L (tkB T L p)))) := hp
              refine v_aload_1 dX5_readsPoints_64 ?_
              refine v_iload_5 dX5_readsPoints_65 ?_
              refine v_aload_0 dX5_readsPoints_67 ?_
              refine g_X5_46 rfl dX5_readsPoints_68 hm2 ?_
              obtain ⟨pp, qq, nn, lv, ix, u1, u2, u3, u4⟩ := hO2.sub k0 k3
              refine l_X5_88 rfl dX5_readsPoints_71 u1 ⟨Nat.le_of_ble_eq_true rfl, Nat.le_of_ble_eq_true rfl⟩ (Nat.le_of_ble_eq_true rfl) ⟨Nat.le_refl _, Nat.le_refl _⟩ (c_addPoint hO2 h_6 k0 h_4 k3 h_5 h_2 (by omega) (fun M3 hO3 hf3 => ?_))
              have hx3 : FdR r o M0 M3 := hx2.tr hf3.dof
              have hC3 := hC2.fr (hf3.2 _ (by omega)) (hf3.2 _ (by omega)) (hf3.2 _ (by omega)) (hf3.2 _ (by omega))
              obtain ⟨hm3, hk3, hA3, pa3, pb3⟩ := id hC3
              obtain ⟨nu3, hK3, hN3⟩ := id hk3
              have kb3 := tkK_bd T L (tkB T L (tkB T L p))
              refine v_iload_5 dX5_readsPoints_74 ?_
              refine v_iconst dX5_readsPoints_76 ?_
              refine v_iadd dX5_readsPoints_77 ?_
              refine v_istore_2 dX5_readsPoints_78 (Nat.le_of_ble_eq_true rfl) rfl ?_
              refine v_aload_0 dX5_readsPoints_79 ?_
              refine g_X5_46 rfl dX5_readsPoints_80 hm3 ?_
              refine v_istore_3 dX5_readsPoints_83 (Nat.le_of_ble_eq_true rfl) rfl ?_
              refine v_iinc_4 dX5_readsPoints_84 (Nat.le_of_ble_eq_true rfl) rfl ?_
              refine v_goto (tgt := 7) dX5_readsPoints_87 rfl ?_
              exact v_weak [some (rr E r), some (rr E (o + 17 + 3 * k.toNat)), some (iv (tkN T L p + 1)), some (iv (tkN T L (tkB T L p))), some (iv (i + 1)), none] ⟨rfl, rfl, rfl, rfl, rfl, trivial⟩ (ih (i + 1) _ _ _ _ _ M3 hC3 hO3 (by omega) (by omega) (by rw [pt_n ws (by omega) h_2]; exact h_4) (upI_s _ _ _) (P5_pt h_6 k0 h_2 (by omega)) hx3 (pt_ll ws h_2 _ _).symm (pt_li ws h_2 _ _).symm ⟨by omega, by omega⟩ ⟨by omega, by omega⟩ (by rw [pt_ll ws h_2, pt_li ws h_2] at hp; exact hp) (by omega))
            · obtain ⟨-, ff2, no2, hF2⟩ := hz2.resolve_left (fun q => absurd q.1 (by omega))
              rw [nm_no no2] at hp
              refine v_iconst dX5_readsPoints_62 ?_
              exact v_zret dX5_readsPoints_63 rfl (Nat.le_refl _) (Nat.le_refl _) (Or.inl rfl) (hp _ hF2 ⟨_, hO2⟩ hx2)
          · obtain ⟨-, ff1, no1, hF1⟩ := hz1.resolve_left (fun q => absurd q.1 (by omega))
            rw [nm_no no1] at hp
            refine v_iconst dX5_readsPoints_43 ?_
            exact v_zret dX5_readsPoints_44 rfl (Nat.le_refl _) (Nat.le_refl _) (Or.inl rfl) (hp _ hF1 ⟨_, hO1⟩ hx1)
        · refine v_aload_0 dX5_readsPoints_19 ?_
          refine g_X5_14 rfl dX5_readsPoints_20 hm ?_
          refine g_X5_85 rfl dX5_readsPoints_23 hK ?_
          refine v_iconst dX5_readsPoints_26 ?_
          refine v_icmp_ne (tgt := 32) dX5_readsPoints_27 rfl ⟨by omega, by omega⟩ ⟨by omega, by omega⟩ (fun c27 => ?_) (fun c27 => ?_)
          · refine v_aload_0 dX5_readsPoints_32 ?_
            refine v_iload_2 dX5_readsPoints_33 ?_
            refine v_sipush dX5_readsPoints_34 (by decide) ?_
            rw [if_neg (by omega)] at hp
            unfold ptS at hp
            rw [← h_8] at hp
            refine l_X5_42 rfl dX5_readsPoints_37 hm ⟨Nat.le_of_ble_eq_true rfl, Nat.le_of_ble_eq_true rfl⟩ (Nat.le_of_ble_eq_true rfl) ⟨Nat.le_refl _, Nat.le_refl _⟩ (c_takesNumber hC har hbr ⟨by omega, by omega⟩ ⟨by omega, by omega⟩ (fun z1 M1 hf1 hz1 => ?_))
            have hb1 : z1 = 0 ∨ z1 = 1 := by rcases hz1 with ⟨e, _⟩ | ⟨e, _⟩ <;> omega
            have hx1 : FdR r o M0 M1 := h_7.tr hf1.dr
            have hO1 := hO.fr (fun c c1 c2 => hf1.2 c (by omega))
            refine v_if_ne (tgt := 45) dX5_readsPoints_40 rfl ⟨by omega, by omega⟩ (fun c40 => ?_) (fun c40 => ?_)
            · obtain ⟨-, ok1, hC1⟩ := hz1.resolve_right (fun q => absurd q.1 (by omega))
              obtain ⟨hm1, hk1, hA1, pa1, pb1⟩ := id hC1
              obtain ⟨nu1, hK1, hN1⟩ := id hk1
              have kb1 := tkK_bd T L (tkB T L p)
              rw [nm_ok ok1] at hp
              have nb1 := tkN_bd ok1.1
              try dsimp only at hp
              rw [if_neg (show ¬ i = 5 by omega), ← h_9] at hp
              refine v_aload_0 dX5_readsPoints_45 ?_
              refine g_X5_46 rfl dX5_readsPoints_46 hm1 ?_
              refine v_istore_5 dX5_readsPoints_49 (Nat.le_of_ble_eq_true rfl) rfl ?_
              refine v_aload_0 dX5_readsPoints_51 ?_
              refine v_iload_3 dX5_readsPoints_52 ?_
              refine v_sipush dX5_readsPoints_53 (by decide) ?_
              refine l_X5_42 rfl dX5_readsPoints_56 hm1 ⟨Nat.le_of_ble_eq_true rfl, Nat.le_of_ble_eq_true rfl⟩ (Nat.le_of_ble_eq_true rfl) ⟨Nat.le_refl _, Nat.le_refl _⟩ (c_takesNumber hC1 har hbr ⟨by omega, by omega⟩ ⟨by omega, by omega⟩ (fun z2 M2 hf2 hz2 => ?_))
              have hb2 : z2 = 0 ∨ z2 = 1 := by rcases hz2 with ⟨e, _⟩ | ⟨e, _⟩ <;> omega
              have hx2 : FdR r o M0 M2 := hx1.tr hf2.dr
              have hO2 := hO1.fr (fun c c1 c2 => hf2.2 c (by omega))
              refine v_if_ne (tgt := 64) dX5_readsPoints_59 rfl ⟨by omega, by omega⟩ (fun c59 => ?_) (fun c59 => ?_)
              · obtain ⟨-, ok2, hC2⟩ := hz2.resolve_right (fun q => absurd q.1 (by omega))
                obtain ⟨hm2, hk2, hA2, pa2, pb2⟩ := id hC2
                obtain ⟨nu2, hK2, hN2⟩ := id hk2
                have kb2 := tkK_bd T L (tkB T L (tkB T L p))
                rw [nm_ok ok2] at hp
                have nb2 := tkN_bd ok2.1
                replace hp : CP E r a b T L o ln fk fp td M0 Post (sPts T L k (5 - (i + 1)).toNat (i + 1) (llW (ptW ws k i (tkN T L p) (tkN T L (tkB T L p))) k (i + 1)) (liW (ptW ws k i (tkN T L p) (tkN T L (tkB T L p))) k (i + 1)) (tkB T L (tkB T L p)) (ptW ws k i (tkN T L p) (tkN T L (tkB T L p)))) := hp
                refine v_aload_1 dX5_readsPoints_64 ?_
                refine v_iload_5 dX5_readsPoints_65 ?_
                refine v_aload_0 dX5_readsPoints_67 ?_
                refine g_X5_46 rfl dX5_readsPoints_68 hm2 ?_
                obtain ⟨pp, qq, nn, lv, ix, u1, u2, u3, u4⟩ := hO2.sub k0 k3
                refine l_X5_88 rfl dX5_readsPoints_71 u1 ⟨Nat.le_of_ble_eq_true rfl, Nat.le_of_ble_eq_true rfl⟩ (Nat.le_of_ble_eq_true rfl) ⟨Nat.le_refl _, Nat.le_refl _⟩ (c_addPoint hO2 h_6 k0 h_4 k3 h_5 h_2 (by omega) (fun M3 hO3 hf3 => ?_))
                have hx3 : FdR r o M0 M3 := hx2.tr hf3.dof
                have hC3 := hC2.fr (hf3.2 _ (by omega)) (hf3.2 _ (by omega)) (hf3.2 _ (by omega)) (hf3.2 _ (by omega))
                obtain ⟨hm3, hk3, hA3, pa3, pb3⟩ := id hC3
                obtain ⟨nu3, hK3, hN3⟩ := id hk3
                have kb3 := tkK_bd T L (tkB T L (tkB T L p))
                refine v_iload_5 dX5_readsPoints_74 ?_
                refine v_iconst dX5_readsPoints_76 ?_
                refine v_iadd dX5_readsPoints_77 ?_
                refine v_istore_2 dX5_readsPoints_78 (Nat.le_of_ble_eq_true rfl) rfl ?_
                refine v_aload_0 dX5_readsPoints_79 ?_
                refine g_X5_46 rfl dX5_readsPoints_80 hm3 ?_
                refine v_istore_3 dX5_readsPoints_83 (Nat.le_of_ble_eq_true rfl) rfl ?_
                refine v_iinc_4 dX5_readsPoints_84 (Nat.le_of_ble_eq_true rfl) rfl ?_
                refine v_goto (tgt := 7) dX5_readsPoints_87 rfl ?_
                exact v_weak [some (rr E r), some (rr E (o + 17 + 3 * k.toNat)), some (iv (tkN T L p + 1)), some (iv (tkN T L (tkB T L p))), some (iv (i + 1)), none] ⟨rfl, rfl, rfl, rfl, rfl, trivial⟩ (ih (i + 1) _ _ _ _ _ M3 hC3 hO3 (by omega) (by omega) (by rw [pt_n ws (by omega) h_2]; exact h_4) (upI_s _ _ _) (P5_pt h_6 k0 h_2 (by omega)) hx3 (pt_ll ws h_2 _ _).symm (pt_li ws h_2 _ _).symm ⟨by omega, by omega⟩ ⟨by omega, by omega⟩ (by rw [pt_ll ws h_2, pt_li ws h_2] at hp; exact hp) (by omega))
              · obtain ⟨-, ff2, no2, hF2⟩ := hz2.resolve_left (fun q => absurd q.1 (by omega))
                rw [nm_no no2] at hp
                refine v_iconst dX5_readsPoints_62 ?_
                exact v_zret dX5_readsPoints_63 rfl (Nat.le_refl _) (Nat.le_refl _) (Or.inl rfl) (hp _ hF2 ⟨_, hO2⟩ hx2)
            · obtain ⟨-, ff1, no1, hF1⟩ := hz1.resolve_left (fun q => absurd q.1 (by omega))
              rw [nm_no no1] at hp
              refine v_iconst dX5_readsPoints_43 ?_
              exact v_zret dX5_readsPoints_44 rfl (Nat.le_refl _) (Nat.le_refl _) (Or.inl rfl) (hp _ hF1 ⟨_, hO1⟩ hx1)
          · refine v_iconst dX5_readsPoints_30 ?_
            exact v_zret dX5_readsPoints_31 rfl (Nat.le_refl _) (Nat.le_refl _) (Or.inr rfl) (by rw [if_pos ⟨by omega, by omega⟩] at hp; exact hp _ _ hC hO h_7)
  intro i ll li p tk ws M a1 a2 a3 a4 a5 a6 a7 a8 a9 b1 b2 b3 b4
  exact lp 7 i ll li p tk ws M a1 a2 a3 a4 a5 a6 a7 a8 a9 b1 b2 b3 b4 (by omega)

set_option maxRecDepth 100000 in
theorem c_readsPoints {E : Ev} {M : Mem} {Post : Option Value → Mem → Prop} {r a b o : Nat} {T : Int → Int} {L p ln fk fp tk td : Int} {w : Int → Int} {k : Int} (hC : CO E M r a b T L p ln fk fp tk td) (hO : OffAt E M o w) (har : a < r ∨ r + 2 ≤ a) (hbr : b < r ∨ r + 2 ≤ b) (hro : r + 2 ≤ o ∨ o + 26 ≤ r) (hao : a < o ∨ o + 26 ≤ a) (hbo : b < o ∨ o + 26 ≤ b) (h5 : P5 w) (k0 : 0 ≤ k) (k1 : k < w 1) (k3 : k < 3) (hi : w (9 + 13 * k) = 0) (hp : CP E r a b T L o ln fk fp td M Post (sPts T L k 5 0 0 0 p w)) : Cn E rX5_readsPoints mX5_readsPoints [rr E r, rr E (o + 17 + 3 * k.toNat)] M Post := by
  refine Cn.of (L := [some (rr E r), some (rr E (o + 17 + 3 * k.toNat)), none, none, none, none]) (by decide) (Nat.le_of_ble_eq_true rfl) rfl ?_
  refine v_iconst dX5_readsPoints_0 ?_
  refine v_istore_2 dX5_readsPoints_1 (Nat.le_of_ble_eq_true rfl) rfl ?_
  refine v_iconst dX5_readsPoints_2 ?_
  refine v_istore_3 dX5_readsPoints_3 (Nat.le_of_ble_eq_true rfl) rfl ?_
  refine v_iconst dX5_readsPoints_4 ?_
  refine v_istore_4 dX5_readsPoints_5 (Nat.le_of_ble_eq_true rfl) rfl ?_
  exact lp_points har hbr hro hao hbo k0 k3 0 0 0 p tk w M hC hO (by omega) (by omega) k1 hi h5 FdR.rf rfl rfl ⟨by omega, by omega⟩ ⟨by omega, by omega⟩ hp
