set_option maxRecDepth 100000 in
theorem c_readsSubst {E : Ev} {M : Mem} {Post : Option Value → Mem → Prop} {r a b o : Nat} {T : Int → Int} {L p ln fk fp tk td : Int} {w : Int → Int} (hC : CO E M r a b T L p ln fk fp tk td) (hO : OffAt E M o w) (har : a < r ∨ r + 2 ≤ a) (hbr : b < r ∨ r + 2 ≤ b) (hro : r + 2 ≤ o ∨ o + 26 ≤ r) (hao : a < o ∨ o + 26 ≤ a) (hbo : b < o ∨ o + 26 ≤ b) (hw : PW w) (w0 : 0 ≤ w 1) (w3 : w 1 < 3) (hp : CP E r a b T L o (ln + 1) fk fp td M Post (sSub T L p w)) : Cn E rX5_readsSubstance mX5_readsSubstance [rr E r, rr E o] M Post := by
  obtain ⟨hm, hk, hA, pa, pb⟩ := id hC
  obtain ⟨nu, hK, hN⟩ := id hk
  have kb := tkK_bd T L p
  refine Cn.of (L := [some (rr E r), some (rr E o), none, none]) (by decide) (Nat.le_of_ble_eq_true rfl) rfl ?_
  refine v_aload_0 dX5_readsSubstance_0 ?_
  refine v_ldcS (i := 2) (by decide) rfl rfl dX5_readsSubstance_1 ?_
  refine l_X5_38 rfl dX5_readsSubstance_3 hm ⟨Nat.le_of_ble_eq_true rfl, Nat.le_of_ble_eq_true rfl⟩ (Nat.le_of_ble_eq_true rfl) ⟨Nat.le_refl _, Nat.le_refl _⟩ (c_takesWord hC har hbr (i := 2) (by decide) (fun z1 M1 hf1 hz1 => ?_))
  have hb1 : z1 = 0 ∨ z1 = 1 := by rcases hz1 with ⟨e, _⟩ | ⟨e, _⟩ <;> omega
  have hx1 : FdR r o M M1 := FdR.rf.tr hf1.dr
  have hO1 := hO.fr (fun c c1 c2 => hf1.2 c (by omega))
  refine v_if_eq (tgt := 19) dX5_readsSubstance_6 rfl ⟨by omega, by omega⟩ (fun c6 => ?_) (fun c6 => ?_)
  · unfold sSub at hp
    obtain ⟨-, no1, hF1⟩ := hz1.resolve_left (fun q => absurd q.1 (by omega))
    have no1 : ¬ isW T L wSubst p := no1
    rw [wd_no no1] at hp
    refine v_iconst dX5_readsSubstance_19 ?_
    exact v_zret dX5_readsSubstance_20 rfl (Nat.le_refl _) (Nat.le_refl _) (Or.inl rfl) (hp _ hF1 ⟨_, hO1⟩ hx1)
  · unfold sSub at hp
    obtain ⟨-, ok1, hC1⟩ := hz1.resolve_right (fun q => absurd q.1 (by omega))
    have ok1 : isW T L wSubst p := ok1
    obtain ⟨hm1, hk1, hA1, pa1, pb1⟩ := id hC1
    obtain ⟨nu1, hK1, hN1⟩ := id hk1
    have kb1 := tkK_bd T L (tkB T L p)
    rw [wd_ok ok1] at hp
    refine v_aload_0 dX5_readsSubstance_9 ?_
    refine v_iconst dX5_readsSubstance_10 ?_
    refine v_bipush dX5_readsSubstance_11 (by decide) ?_
    refine l_X5_42 rfl dX5_readsSubstance_13 hm1 ⟨Nat.le_of_ble_eq_true rfl, Nat.le_of_ble_eq_true rfl⟩ (Nat.le_of_ble_eq_true rfl) ⟨Nat.le_refl _, Nat.le_refl _⟩ (c_takesNumber hC1 har hbr ⟨by omega, by omega⟩ ⟨by omega, by omega⟩ (fun z2 M2 hf2 hz2 => ?_))
    have hb2 : z2 = 0 ∨ z2 = 1 := by rcases hz2 with ⟨e, _⟩ | ⟨e, _⟩ <;> omega
    have hx2 : FdR r o M M2 := hx1.tr hf2.dr
    have hO2 := hO1.fr (fun c c1 c2 => hf2.2 c (by omega))
    refine v_if_ne (tgt := 21) dX5_readsSubstance_16 rfl ⟨by omega, by omega⟩ (fun c16 => ?_) (fun c16 => ?_)
    · obtain ⟨-, ok2, hC2⟩ := hz2.resolve_right (fun q => absurd q.1 (by omega))
      obtain ⟨hm2, hk2, hA2, pa2, pb2⟩ := id hC2
      obtain ⟨nu2, hK2, hN2⟩ := id hk2
      have kb2 := tkK_bd T L (tkB T L (tkB T L p))
      rw [nm_ok ok2] at hp
      have nb2 := tkN_bd ok2.1
      refine v_aload_0 dX5_readsSubstance_21 ?_
      refine g_X5_46 rfl dX5_readsSubstance_22 hm2 ?_
      refine v_istore_2 dX5_readsSubstance_25 (Nat.le_of_ble_eq_true rfl) rfl ?_
      refine v_aload_0 dX5_readsSubstance_26 ?_
      refine v_iconst dX5_readsSubstance_27 ?_
      refine v_iload_2 dX5_readsSubstance_28 ?_
      refine l_X5_42 rfl dX5_readsSubstance_29 hm2 ⟨Nat.le_of_ble_eq_true rfl, Nat.le_of_ble_eq_true rfl⟩ (Nat.le_of_ble_eq_true rfl) ⟨Nat.le_refl _, Nat.le_refl _⟩ (c_takesNumber hC2 har hbr ⟨by omega, by omega⟩ ⟨by omega, by omega⟩ (fun z3 M3 hf3 hz3 => ?_))
      have hb3 : z3 = 0 ∨ z3 = 1 := by rcases hz3 with ⟨e, _⟩ | ⟨e, _⟩ <;> omega
      have hx3 : FdR r o M M3 := hx2.tr hf3.dr
      have hO3 := hO2.fr (fun c c1 c2 => hf3.2 c (by omega))
      refine v_if_ne (tgt := 37) dX5_readsSubstance_32 rfl ⟨by omega, by omega⟩ (fun c32 => ?_) (fun c32 => ?_)
      · obtain ⟨-, ok3, hC3⟩ := hz3.resolve_right (fun q => absurd q.1 (by omega))
        obtain ⟨hm3, hk3, hA3, pa3, pb3⟩ := id hC3
        obtain ⟨nu3, hK3, hN3⟩ := id hk3
        have kb3 := tkK_bd T L (tkB T L (tkB T L (tkB T L p)))
        rw [nm_ok ok3] at hp
        have nb3 := tkN_bd ok3.1
        refine v_aload_1 dX5_readsSubstance_37 ?_
        refine v_iload_2 dX5_readsSubstance_38 ?_
        refine v_aload_0 dX5_readsSubstance_39 ?_
        refine g_X5_46 rfl dX5_readsSubstance_40 hm3 ?_
        refine l_X5_77 rfl dX5_readsSubstance_43 hO3.1 ⟨Nat.le_of_ble_eq_true rfl, Nat.le_of_ble_eq_true rfl⟩ (Nat.le_of_ble_eq_true rfl) ⟨Nat.le_refl _, Nat.le_refl _⟩ (c_addSubst hO3 hw.p5 w0 w3 (fun M4 hO4 hf4 => ?_))
        have hx4 : FdR r o M M4 := hx3.tr hf4.dof
        have hC4 := hC3.fr (hf4.2 _ (by omega)) (hf4.2 _ (by omega)) (hf4.2 _ (by omega)) (hf4.2 _ (by omega))
        obtain ⟨hm4, hk4, hA4, pa4, pb4⟩ := id hC4
        obtain ⟨nu4, hK4, hN4⟩ := id hk4
        have kb4 := tkK_bd T L (tkB T L (tkB T L (tkB T L p)))
        refine v_astore_3 dX5_readsSubstance_46 (Nat.le_of_ble_eq_true rfl) rfl ?_
        refine v_aload_3 dX5_readsSubstance_47 ?_
        refine v_ifnull_s dX5_readsSubstance_48 ?_
        refine v_aload_0 dX5_readsSubstance_51 ?_
        refine v_aload_3 dX5_readsSubstance_52 ?_
        refine l_X5_81 rfl dX5_readsSubstance_53 hm4 ⟨Nat.le_of_ble_eq_true rfl, Nat.le_of_ble_eq_true rfl⟩ (Nat.le_of_ble_eq_true rfl) ⟨Nat.le_refl _, Nat.le_refl _⟩ (c_readsPoints (k := w 1) hC4 hO4 har hbr hro hao hbo (P5_sb hw.p5 w0) w0 (by rw [sb_1 w w0]; omega) (by omega) (by unfold sbR; rw [upI_s]) (CP_mk (fun z5 M5 hf5 hz5 => ?_)))
        have hb5 : z5 = 0 ∨ z5 = 1 := by rcases hz5 with ⟨e, _⟩ | ⟨e, _⟩ <;> omega
        have hx5 : FdR r o M M5 := hx4.tr hf5
        refine v_if_eq (tgt := 70) dX5_readsSubstance_56 rfl ⟨by omega, by omega⟩ (fun c56 => ?_) (fun c56 => ?_)
        · obtain ⟨-, f9, pl9, e9, hF5, w9, hO5⟩ := hz5.resolve_left (fun q => absurd q.1 (by omega))
          rw [e9] at hp
          refine v_iconst dX5_readsSubstance_70 ?_
          exact v_zret dX5_readsSubstance_71 rfl (Nat.le_refl _) (Nat.le_refl _) (Or.inl rfl) (hp _ hF5 ⟨_, hO5⟩ hx5)
        · obtain ⟨-, p9, w9, tk9, e9, hC5, hO5⟩ := hz5.resolve_right (fun q => absurd q.1 (by omega))
          rw [e9] at hp
          replace hp : CP E r a b T L o (ln + 1) fk fp td M Post (smS T L p9 fun p => .inr (p, w9)) := hp
          obtain ⟨hm5, hk5, hA5, pa5, pb5⟩ := id hC5
          obtain ⟨nu5, hK5, hN5⟩ := id hk5
          have kb5 := tkK_bd T L p9
          refine v_aload_0 dX5_readsSubstance_59 ?_
          refine l_X5_55 rfl dX5_readsSubstance_60 hm5 ⟨Nat.le_of_ble_eq_true rfl, Nat.le_of_ble_eq_true rfl⟩ (Nat.le_of_ble_eq_true rfl) ⟨Nat.le_refl _, Nat.le_refl _⟩ (c_takesSemi hC5 har hbr (fun z6 M6 hf6 hz6 => ?_))
          have hb6 : z6 = 0 ∨ z6 = 1 := by rcases hz6 with ⟨e, _⟩ | ⟨e, _⟩ <;> omega
          have hx6 : FdR r o M M6 := hx5.tr hf6.dr
          have hO6 := hO5.fr (fun c c1 c2 => hf6.2 c (by omega))
          refine v_if_eq (tgt := 70) dX5_readsSubstance_63 rfl ⟨by omega, by omega⟩ (fun c63 => ?_) (fun c63 => ?_)
          · obtain ⟨-, no6, hF6⟩ := hz6.resolve_left (fun q => absurd q.1 (by omega))
            rw [sm_no no6] at hp
            refine v_iconst dX5_readsSubstance_70 ?_
            exact v_zret dX5_readsSubstance_71 rfl (Nat.le_refl _) (Nat.le_refl _) (Or.inl rfl) (hp _ hF6 ⟨_, hO6⟩ hx6)
          · obtain ⟨-, ok6, hC6⟩ := hz6.resolve_right (fun q => absurd q.1 (by omega))
            rw [sm_ok ok6] at hp
            refine v_iconst dX5_readsSubstance_66 ?_
            refine v_goto (tgt := 71) dX5_readsSubstance_67 rfl ?_
            exact v_zret dX5_readsSubstance_71 rfl (Nat.le_refl _) (Nat.le_refl _) (Or.inr rfl) (hp _ _ hC6 hO6 hx6)
      · obtain ⟨-, ff3, no3, hF3⟩ := hz3.resolve_left (fun q => absurd q.1 (by omega))
        rw [nm_no no3] at hp
        refine v_iconst dX5_readsSubstance_35 ?_
        exact v_zret dX5_readsSubstance_36 rfl (Nat.le_refl _) (Nat.le_refl _) (Or.inl rfl) (hp _ hF3 ⟨_, hO3⟩ hx3)
    · obtain ⟨-, ff2, no2, hF2⟩ := hz2.resolve_left (fun q => absurd q.1 (by omega))
      rw [nm_no no2] at hp
      refine v_iconst dX5_readsSubstance_19 ?_
      exact v_zret dX5_readsSubstance_20 rfl (Nat.le_refl _) (Nat.le_refl _) (Or.inl rfl) (hp _ hF2 ⟨_, hO2⟩ hx2)

def CPn (E : Ev) (r a b : Nat) (T : Int → Int) (L : Int) (o : Nat) (fk fp td : Int) (M : Mem) (Post : Option Value → Mem → Prop) : Rs (RW × Int) → Prop
  | .inl (f, pl) => ∀ M2, CF E M2 r a b T L f pl → (∃ w, OffAt E M2 o w) → FdR r o M M2 → Post (some (iv 0)) M2
  | .inr ((p, w), n) => ∀ M2 tk, CO E M2 r a b T L p n fk fp tk td → OffAt E M2 o w → FdR r o M M2 → Post (some (iv 1)) M2
theorem subs_z {T : Int → Int} {L p n : Int} {w : Int → Int} (h : isW T L wSubst p) : sSubs T L 0 p w n = .inl (3, tkS T L p) := by rw [sSubs, if_pos h]
theorem stas_z {T : Int → Int} {L p n : Int} {w : Int → Int} (h : isW T L wStat p) : sStas T L 0 p w n = .inl (3, tkS T L p) := by rw [sStas, if_pos h]

theorem cp_or {n : Int} {P : Prop} [Decidable P] {α : Type} {Q : α → Prop} {x y : α} (h : n + 1 ≠ 0) (hp : Q (if P then x else y)) : Q (if n + 1 = 0 ∨ P then x else y) := by
  by_cases c : P
  · rw [if_pos c] at hp; rw [if_pos (Or.inr c)]; exact hp
  · rw [if_neg c] at hp; rw [if_neg (fun q => q.elim h c)]; exact hp

set_option maxRecDepth 100000 in
theorem lp_readsSubsts {E : Ev} {M0 : Mem} {Post : Option Value → Mem → Prop} {r a b o : Nat} {T : Int → Int} {L fk fp td : Int} (har : a < r ∨ r + 2 ≤ a) (hbr : b < r ∨ r + 2 ≤ b) (hro : r + 2 ≤ o ∨ o + 26 ≤ r) (hao : a < o ∨ o + 26 ≤ a) (hbo : b < o ∨ o + 26 ≤ b) : ∀ (n p ln tk : Int) (w : Int → Int) (M : Mem), (CO E M r a b T L p ln fk fp tk td) → (OffAt E M o w) → (w 1 = n) → (PW w) → (FdR r o M0 M) → (0 ≤ n ∧ n ≤ 3) → (CPn E r a b T L o fk fp td M0 Post (if n = 0 ∨ isW T L wSubst p then sSubs T L (3 - n).toNat p w ln else .inr ((p, w), ln))) → V E rX5_readsSubstances mX5_readsSubstances (finM E rX5_readsSubstances Post) 0 0 M 2 [some (rr E r), some (rr E o), some (iv n)] [] := by
  have lp : ∀ (cq : Nat) (n p ln tk : Int) (w : Int → Int) (M : Mem), (CO E M r a b T L p ln fk fp tk td) → (OffAt E M o w) → (w 1 = n) → (PW w) → (FdR r o M0 M) → (0 ≤ n ∧ n ≤ 3) → (CPn E r a b T L o fk fp td M0 Post (if n = 0 ∨ isW T L wSubst p then sSubs T L (3 - n).toNat p w ln else .inr ((p, w), ln))) → 3 - n < (cq : Int) → V E rX5_readsSubstances mX5_readsSubstances (finM E rX5_readsSubstances Post) 0 0 M 2 [some (rr E r), some (rr E o), some (iv n)] [] := by
    intro cq
    induction cq with
    | zero => intro n p ln tk w M h_0 h_1 h_2 h_3 h_4 h_5 h_6 hz; exact absurd hz (by omega)
    | succ cq ih =>
      intro n p ln tk w M hC hO h_2 h_3 h_4 h_5 hp hz
      obtain ⟨hm, hk, hA, pa, pb⟩ := id hC
      obtain ⟨nu, hK, hN⟩ := id hk
      have kb := tkK_bd T L p
      refine v_iload_2 dX5_readsSubstances_2 ?_
      refine v_iconst dX5_readsSubstances_3 ?_
      refine v_icmp_ge (tgt := 41) dX5_readsSubstances_4 rfl ⟨by omega, by omega⟩ ⟨by omega, by omega⟩ (fun ct => ?_) (fun ct => ?_)
      · refine v_aload_0 dX5_readsSubstances_41 ?_
        refine g_X5_14 rfl dX5_readsSubstances_42 hm ?_
        refine v_ldcS (i := 2) (by decide) rfl rfl dX5_readsSubstances_45 ?_
        refine l_X5_66 rfl dX5_readsSubstances_47 hK ⟨Nat.le_of_ble_eq_true rfl, Nat.le_of_ble_eq_true rfl⟩ (Nat.le_of_ble_eq_true rfl) ⟨Nat.le_refl _, Nat.le_refl _⟩ (c_X6_isWord hA hk pa pb (i := 2) (by decide) ?_)
        rw [show wS.getD 2 [] = wSubst from rfl]
        refine v_ifeq_b (tgt := 61) dX5_readsSubstances_50 rfl (fun cW => ?_) (fun cW => ?_)
        · rw [if_neg (fun q => q.elim (fun e => by omega) cW)] at hp
          refine v_iconst dX5_readsSubstances_61 ?_
          refine v_goto (tgt := 66) dX5_readsSubstances_62 rfl ?_
          exact v_zret dX5_readsSubstances_66 rfl (Nat.le_refl _) (Nat.le_refl _) (Or.inr rfl) (hp _ _ hC hO h_4)
        · rw [if_pos (Or.inr cW), show (3 - n).toNat = 0 by omega, subs_z cW] at hp
          refine v_aload_0 dX5_readsSubstances_53 ?_
          refine v_iconst dX5_readsSubstances_54 ?_
          refine l_X5_73 rfl dX5_readsSubstances_55 hm ⟨Nat.le_of_ble_eq_true rfl, Nat.le_of_ble_eq_true rfl⟩ (Nat.le_of_ble_eq_true rfl) ⟨Nat.le_refl _, Nat.le_refl _⟩ (c_refuses hC har hbr (fun M9 hF hf9 => ?_))
          refine v_if_eq (tgt := 65) dX5_readsSubstances_58 rfl ⟨by decide, by decide⟩ (fun c3 => ?_) (fun c3 => absurd c3 (by decide))
          refine v_iconst dX5_readsSubstances_65 ?_
          exact v_zret dX5_readsSubstances_66 rfl (Nat.le_refl _) (Nat.le_refl _) (Or.inl rfl) (hp _ hF ⟨_, hO.fr (fun c c1 c2 => hf9.2 c (by omega))⟩ (h_4.tr hf9.dr))
      · refine v_iload_2 dX5_readsSubstances_7 ?_
        refine v_if_le (tgt := 25) dX5_readsSubstances_8 rfl ⟨by omega, by omega⟩ (fun c8 => ?_) (fun c8 => ?_)
        · rw [if_pos (Or.inl (by omega))] at hp
          refine v_aload_0 dX5_readsSubstances_25 ?_
          refine v_aload_1 dX5_readsSubstances_26 ?_
          rw [show (3 - n).toNat = (3 - (n + 1)).toNat + 1 by omega, sSubs] at hp
          refine l_X5_69 rfl dX5_readsSubstances_27 hm ⟨Nat.le_of_ble_eq_true rfl, Nat.le_of_ble_eq_true rfl⟩ (Nat.le_of_ble_eq_true rfl) ⟨Nat.le_refl _, Nat.le_refl _⟩ (c_readsSubst hC hO har hbr hro hao hbo h_3 (by omega) (by omega) (CP_mk (fun z2 M2 hf2 hz2 => ?_)))
          have hb2 : z2 = 0 ∨ z2 = 1 := by rcases hz2 with ⟨e, _⟩ | ⟨e, _⟩ <;> omega
          have hx2 : FdR r o M0 M2 := h_4.tr hf2
          refine v_if_ne (tgt := 35) dX5_readsSubstances_30 rfl ⟨by omega, by omega⟩ (fun c30 => ?_) (fun c30 => ?_)
          · obtain ⟨-, p2, w2, tk2, e2, hC2, hO2⟩ := hz2.resolve_right (fun q => absurd q.1 (by omega))
            rw [e2] at hp
            replace hp : CPn E r a b T L o fk fp td M0 Post (if isW T L wSubst p2 then sSubs T L (3 - (n + 1)).toNat p2 w2 (ln + 1) else .inr ((p2, w2), ln + 1)) := hp
            obtain ⟨i1, i2, i3⟩ := sub_inv h_3 (by omega) e2
            refine v_iinc_2 dX5_readsSubstances_35 (Nat.le_of_ble_eq_true rfl) rfl ?_
            refine v_goto (tgt := 2) dX5_readsSubstances_38 rfl ?_
            exact ih (n + 1) p2 (ln + 1) tk2 w2 M2 hC2 hO2 (by omega) i1 hx2 ⟨by omega, by omega⟩ (cp_or (by omega) hp) (by omega)
          · obtain ⟨-, f9, pl9, e9, hF2, w9, hO2⟩ := hz2.resolve_left (fun q => absurd q.1 (by omega))
            rw [e9] at hp
            refine v_iconst dX5_readsSubstances_33 ?_
            exact v_zret dX5_readsSubstances_34 rfl (Nat.le_refl _) (Nat.le_refl _) (Or.inl rfl) (hp _ hF2 ⟨_, hO2⟩ hx2)
        · refine v_aload_0 dX5_readsSubstances_11 ?_
          refine g_X5_14 rfl dX5_readsSubstances_12 hm ?_
          refine v_ldcS (i := 2) (by decide) rfl rfl dX5_readsSubstances_15 ?_
          refine l_X5_66 rfl dX5_readsSubstances_17 hK ⟨Nat.le_of_ble_eq_true rfl, Nat.le_of_ble_eq_true rfl⟩ (Nat.le_of_ble_eq_true rfl) ⟨Nat.le_refl _, Nat.le_refl _⟩ (c_X6_isWord hA hk pa pb (i := 2) (by decide) ?_)
          rw [show wS.getD 2 [] = wSubst from rfl]
          refine v_ifne_b (tgt := 25) dX5_readsSubstances_20 rfl (fun cW => ?_) (fun cW => ?_)
          · rw [if_pos (Or.inr cW)] at hp
            refine v_aload_0 dX5_readsSubstances_25 ?_
            refine v_aload_1 dX5_readsSubstances_26 ?_
            rw [show (3 - n).toNat = (3 - (n + 1)).toNat + 1 by omega, sSubs] at hp
            refine l_X5_69 rfl dX5_readsSubstances_27 hm ⟨Nat.le_of_ble_eq_true rfl, Nat.le_of_ble_eq_true rfl⟩ (Nat.le_of_ble_eq_true rfl) ⟨Nat.le_refl _, Nat.le_refl _⟩ (c_readsSubst hC hO har hbr hro hao hbo h_3 (by omega) (by omega) (CP_mk (fun z2 M2 hf2 hz2 => ?_)))
            have hb2 : z2 = 0 ∨ z2 = 1 := by rcases hz2 with ⟨e, _⟩ | ⟨e, _⟩ <;> omega
            have hx2 : FdR r o M0 M2 := h_4.tr hf2
            refine v_if_ne (tgt := 35) dX5_readsSubstances_30 rfl ⟨by omega, by omega⟩ (fun c30 => ?_) (fun c30 => ?_)
            · obtain ⟨-, p2, w2, tk2, e2, hC2, hO2⟩ := hz2.resolve_right (fun q => absurd q.1 (by omega))
              rw [e2] at hp
              replace hp : CPn E r a b T L o fk fp td M0 Post (if isW T L wSubst p2 then sSubs T L (3 - (n + 1)).toNat p2 w2 (ln + 1) else .inr ((p2, w2), ln + 1)) := hp
              obtain ⟨i1, i2, i3⟩ := sub_inv h_3 (by omega) e2
              refine v_iinc_2 dX5_readsSubstances_35 (Nat.le_of_ble_eq_true rfl) rfl ?_
              refine v_goto (tgt := 2) dX5_readsSubstances_38 rfl ?_
              exact ih (n + 1) p2 (ln + 1) tk2 w2 M2 hC2 hO2 (by omega) i1 hx2 ⟨by omega, by omega⟩ (cp_or (by omega) hp) (by omega)
            · obtain ⟨-, f9, pl9, e9, hF2, w9, hO2⟩ := hz2.resolve_left (fun q => absurd q.1 (by omega))
              rw [e9] at hp
              refine v_iconst dX5_readsSubstances_33 ?_
              exact v_zret dX5_readsSubstances_34 rfl (Nat.le_refl _) (Nat.le_refl _) (Or.inl rfl) (hp _ hF2 ⟨_, hO2⟩ hx2)
          · rw [if_neg (fun q => q.elim (fun e => by omega) cW)] at hp
            refine v_iconst dX5_readsSubstances_23 ?_
            exact v_zret dX5_readsSubstances_24 rfl (Nat.le_refl _) (Nat.le_refl _) (Or.inr rfl) (hp _ _ hC hO h_4)
  intro n p ln tk w M a1 a2 a3 a4 a5 a6 a7
  exact lp 4 n p ln tk w M a1 a2 a3 a4 a5 a6 a7 (by omega)

set_option maxRecDepth 100000 in
theorem c_readsSubsts {E : Ev} {M : Mem} {Post : Option Value → Mem → Prop} {r a b o : Nat} {T : Int → Int} {L p ln fk fp tk td : Int} {w : Int → Int} (hC : CO E M r a b T L p ln fk fp tk td) (hO : OffAt E M o w) (har : a < r ∨ r + 2 ≤ a) (hbr : b < r ∨ r + 2 ≤ b) (hro : r + 2 ≤ o ∨ o + 26 ≤ r) (hao : a < o ∨ o + 26 ≤ a) (hbo : b < o ∨ o + 26 ≤ b) (hw : PW w) (hz0 : w 1 = 0) (hp : CPn E r a b T L o fk fp td M Post (sSubs T L 3 p w ln)) : Cn E rX5_readsSubstances mX5_readsSubstances [rr E r, rr E o] M Post := by
  refine Cn.of (L := [some (rr E r), some (rr E o), none]) (by decide) (Nat.le_of_ble_eq_true rfl) rfl ?_
  refine v_iconst dX5_readsSubstances_0 ?_
  refine v_istore_2 dX5_readsSubstances_1 (Nat.le_of_ble_eq_true rfl) rfl ?_
  exact lp_readsSubsts har hbr hro hao hbo 0 p ln tk w M hC hO hz0 hw FdR.rf ⟨by omega, by omega⟩ (by rw [if_pos (Or.inl rfl)]; exact hp)

set_option maxRecDepth 100000 in
theorem lp_readsStats {E : Ev} {M0 : Mem} {Post : Option Value → Mem → Prop} {r a b o : Nat} {T : Int → Int} {L fk fp td : Int} (har : a < r ∨ r + 2 ≤ a) (hbr : b < r ∨ r + 2 ≤ b) (hro : r + 2 ≤ o ∨ o + 26 ≤ r) (hao : a < o ∨ o + 26 ≤ a) (hbo : b < o ∨ o + 26 ≤ b) : ∀ (n p ln tk : Int) (w : Int → Int) (M : Mem), (CO E M r a b T L p ln fk fp tk td) → (OffAt E M o w) → (w 2 = n) → (PW w) → (FdR r o M0 M) → (0 ≤ n ∧ n ≤ 4) → (CPn E r a b T L o fk fp td M0 Post (if n = 0 ∨ isW T L wStat p then sStas T L (4 - n).toNat p w ln else .inr ((p, w), ln))) → V E rX5_readsStations mX5_readsStations (finM E rX5_readsStations Post) 0 0 M 2 [some (rr E r), some (rr E o), some (iv n)] [] := by
  have lp : ∀ (cq : Nat) (n p ln tk : Int) (w : Int → Int) (M : Mem), (CO E M r a b T L p ln fk fp tk td) → (OffAt E M o w) → (w 2 = n) → (PW w) → (FdR r o M0 M) → (0 ≤ n ∧ n ≤ 4) → (CPn E r a b T L o fk fp td M0 Post (if n = 0 ∨ isW T L wStat p then sStas T L (4 - n).toNat p w ln else .inr ((p, w), ln))) → 4 - n < (cq : Int) → V E rX5_readsStations mX5_readsStations (finM E rX5_readsStations Post) 0 0 M 2 [some (rr E r), some (rr E o), some (iv n)] [] := by
    intro cq
    induction cq with
    | zero => intro n p ln tk w M h_0 h_1 h_2 h_3 h_4 h_5 h_6 hz; exact absurd hz (by omega)
    | succ cq ih =>
      intro n p ln tk w M hC hO h_2 h_3 h_4 h_5 hp hz
      obtain ⟨hm, hk, hA, pa, pb⟩ := id hC
      obtain ⟨nu, hK, hN⟩ := id hk
      have kb := tkK_bd T L p
      refine v_iload_2 dX5_readsStations_2 ?_
      refine v_iconst dX5_readsStations_3 ?_
      refine v_icmp_ge (tgt := 68) dX5_readsStations_4 rfl ⟨by omega, by omega⟩ ⟨by omega, by omega⟩ (fun ct => ?_) (fun ct => ?_)
      · refine v_aload_0 dX5_readsStations_68 ?_
        refine g_X5_14 rfl dX5_readsStations_69 hm ?_
        refine v_ldcS (i := 3) (by decide) rfl rfl dX5_readsStations_72 ?_
        refine l_X5_66 rfl dX5_readsStations_74 hK ⟨Nat.le_of_ble_eq_true rfl, Nat.le_of_ble_eq_true rfl⟩ (Nat.le_of_ble_eq_true rfl) ⟨Nat.le_refl _, Nat.le_refl _⟩ (c_X6_isWord hA hk pa pb (i := 3) (by decide) ?_)
        rw [show wS.getD 3 [] = wStat from rfl]
        refine v_ifeq_b (tgt := 88) dX5_readsStations_77 rfl (fun cW => ?_) (fun cW => ?_)
        · rw [if_neg (fun q => q.elim (fun e => by omega) cW)] at hp
          refine v_iconst dX5_readsStations_88 ?_
          refine v_goto (tgt := 93) dX5_readsStations_89 rfl ?_
          exact v_zret dX5_readsStations_93 rfl (Nat.le_refl _) (Nat.le_refl _) (Or.inr rfl) (hp _ _ hC hO h_4)
        · rw [if_pos (Or.inr cW), show (4 - n).toNat = 0 by omega, stas_z cW] at hp
          refine v_aload_0 dX5_readsStations_80 ?_
          refine v_iconst dX5_readsStations_81 ?_
          refine l_X5_73 rfl dX5_readsStations_82 hm ⟨Nat.le_of_ble_eq_true rfl, Nat.le_of_ble_eq_true rfl⟩ (Nat.le_of_ble_eq_true rfl) ⟨Nat.le_refl _, Nat.le_refl _⟩ (c_refuses hC har hbr (fun M9 hF hf9 => ?_))
          refine v_if_eq (tgt := 92) dX5_readsStations_85 rfl ⟨by decide, by decide⟩ (fun c3 => ?_) (fun c3 => absurd c3 (by decide))
          refine v_iconst dX5_readsStations_92 ?_
          exact v_zret dX5_readsStations_93 rfl (Nat.le_refl _) (Nat.le_refl _) (Or.inl rfl) (hp _ hF ⟨_, hO.fr (fun c c1 c2 => hf9.2 c (by omega))⟩ (h_4.tr hf9.dr))
      · refine v_iload_2 dX5_readsStations_7 ?_
        refine v_if_le (tgt := 25) dX5_readsStations_8 rfl ⟨by omega, by omega⟩ (fun c8 => ?_) (fun c8 => ?_)
        · rw [if_pos (Or.inl (by omega))] at hp
          refine v_aload_0 dX5_readsStations_25 ?_
          rw [show (4 - n).toNat = (4 - (n + 1)).toNat + 1 by omega, sStas] at hp
          unfold sSta at hp
          refine v_ldcS (i := 3) (by decide) rfl rfl dX5_readsStations_26 ?_
          refine l_X5_38 rfl dX5_readsStations_28 hm ⟨Nat.le_of_ble_eq_true rfl, Nat.le_of_ble_eq_true rfl⟩ (Nat.le_of_ble_eq_true rfl) ⟨Nat.le_refl _, Nat.le_refl _⟩ (c_takesWord hC har hbr (i := 3) (by decide) (fun z1 M1 hf1 hz1 => ?_))
          have hb1 : z1 = 0 ∨ z1 = 1 := by rcases hz1 with ⟨e, _⟩ | ⟨e, _⟩ <;> omega
          have hx1 : FdR r o M0 M1 := h_4.tr hf1.dr
          have hO1 := hO.fr (fun c c1 c2 => hf1.2 c (by omega))
          refine v_if_eq (tgt := 43) dX5_readsStations_31 rfl ⟨by omega, by omega⟩ (fun c31 => ?_) (fun c31 => ?_)
          · obtain ⟨-, no1, hF1⟩ := hz1.resolve_left (fun q => absurd q.1 (by omega))
            have no1 : ¬ isW T L wStat p := no1
            rw [wd_no no1] at hp
            refine v_iconst dX5_readsStations_43 ?_
            exact v_zret dX5_readsStations_44 rfl (Nat.le_refl _) (Nat.le_refl _) (Or.inl rfl) (hp _ hF1 ⟨_, hO1⟩ hx1)
          · obtain ⟨-, ok1, hC1⟩ := hz1.resolve_right (fun q => absurd q.1 (by omega))
            have ok1 : isW T L wStat p := ok1
            obtain ⟨hm1, hk1, hA1, pa1, pb1⟩ := id hC1
            obtain ⟨nu1, hK1, hN1⟩ := id hk1
            have kb1 := tkK_bd T L (tkB T L p)
            rw [wd_ok ok1] at hp
            refine v_aload_0 dX5_readsStations_34 ?_
            refine v_iconst dX5_readsStations_35 ?_
            refine v_iconst dX5_readsStations_36 ?_
            refine l_X5_42 rfl dX5_readsStations_37 hm1 ⟨Nat.le_of_ble_eq_true rfl, Nat.le_of_ble_eq_true rfl⟩ (Nat.le_of_ble_eq_true rfl) ⟨Nat.le_refl _, Nat.le_refl _⟩ (c_takesNumber hC1 har hbr ⟨by omega, by omega⟩ ⟨by omega, by omega⟩ (fun z2 M2 hf2 hz2 => ?_))
            have hb2 : z2 = 0 ∨ z2 = 1 := by rcases hz2 with ⟨e, _⟩ | ⟨e, _⟩ <;> omega
            have hx2 : FdR r o M0 M2 := hx1.tr hf2.dr
            have hO2 := hO1.fr (fun c c1 c2 => hf2.2 c (by omega))
            refine v_if_ne (tgt := 45) dX5_readsStations_40 rfl ⟨by omega, by omega⟩ (fun c40 => ?_) (fun c40 => ?_)
            · obtain ⟨-, ok2, hC2⟩ := hz2.resolve_right (fun q => absurd q.1 (by omega))
              obtain ⟨hm2, hk2, hA2, pa2, pb2⟩ := id hC2
              obtain ⟨nu2, hK2, hN2⟩ := id hk2
              have kb2 := tkK_bd T L (tkB T L (tkB T L p))
              rw [nm_ok ok2] at hp
              have nb2 := tkN_bd ok2.1
              refine v_aload_1 dX5_readsStations_45 ?_
              refine v_aload_0 dX5_readsStations_46 ?_
              refine g_X5_46 rfl dX5_readsStations_47 hm2 ?_
              refine l_X5_98 rfl dX5_readsStations_50 hO2.1 ⟨Nat.le_of_ble_eq_true rfl, Nat.le_of_ble_eq_true rfl⟩ (Nat.le_of_ble_eq_true rfl) ⟨Nat.le_refl _, Nat.le_refl _⟩ (c_addStation hO2 h_3.p5 (by have := h_3.2.2.1; omega) (by omega) h_3.2.1.2 (fun M3 hO3 hf3 => ?_))
              have hx3 : FdR r o M0 M3 := hx2.tr hf3.dof
              have hC3 := hC2.fr (hf3.2 _ (by omega)) (hf3.2 _ (by omega)) (hf3.2 _ (by omega)) (hf3.2 _ (by omega))
              obtain ⟨hm3, hk3, hA3, pa3, pb3⟩ := id hC3
              obtain ⟨nu3, hK3, hN3⟩ := id hk3
              have kb3 := tkK_bd T L (tkB T L (tkB T L p))
              refine v_aload_0 dX5_readsStations_53 ?_
              refine l_X5_55 rfl dX5_readsStations_54 hm3 ⟨Nat.le_of_ble_eq_true rfl, Nat.le_of_ble_eq_true rfl⟩ (Nat.le_of_ble_eq_true rfl) ⟨Nat.le_refl _, Nat.le_refl _⟩ (c_takesSemi hC3 har hbr (fun z4 M4 hf4 hz4 => ?_))
              have hb4 : z4 = 0 ∨ z4 = 1 := by rcases hz4 with ⟨e, _⟩ | ⟨e, _⟩ <;> omega
              have hx4 : FdR r o M0 M4 := hx3.tr hf4.dr
              have hO4 := hO3.fr (fun c c1 c2 => hf4.2 c (by omega))
              refine v_if_ne (tgt := 62) dX5_readsStations_57 rfl ⟨by omega, by omega⟩ (fun c57 => ?_) (fun c57 => ?_)
              · obtain ⟨-, ok4, hC4⟩ := hz4.resolve_right (fun q => absurd q.1 (by omega))
                rw [sm_ok ok4] at hp
                replace hp : CPn E r a b T L o fk fp td M0 Post (if isW T L wStat (tkB T L (tkB T L (tkB T L p))) then sStas T L (4 - (n + 1)).toNat (tkB T L (tkB T L (tkB T L p))) (upI (upI w (46 + w 2) (tkN T L (tkB T L p))) 2 (w 2 + 1)) (ln + 1) else .inr (((tkB T L (tkB T L (tkB T L p))), (upI (upI w (46 + w 2) (tkN T L (tkB T L p))) 2 (w 2 + 1))), ln + 1)) := hp
                have e2 : sSta T L p w = .inr ((tkB T L (tkB T L (tkB T L p))), (upI (upI w (46 + w 2) (tkN T L (tkB T L p))) 2 (w 2 + 1))) := by unfold sSta; rw [wd_ok ok1, nm_ok ok2, sm_ok ok4]
                obtain ⟨i1, i2, i3⟩ := sta_inv h_3 (by omega) e2
                refine v_iinc_2 dX5_readsStations_62 (Nat.le_of_ble_eq_true rfl) rfl ?_
                refine v_goto (tgt := 2) dX5_readsStations_65 rfl ?_
                exact ih (n + 1) _ (ln + 1) _ _ M4 hC4 hO4 (by omega) i1 hx4 ⟨by omega, by omega⟩ (cp_or (by omega) hp) (by omega)
              · obtain ⟨-, no4, hF4⟩ := hz4.resolve_left (fun q => absurd q.1 (by omega))
                rw [sm_no no4] at hp
                refine v_iconst dX5_readsStations_60 ?_
                exact v_zret dX5_readsStations_61 rfl (Nat.le_refl _) (Nat.le_refl _) (Or.inl rfl) (hp _ hF4 ⟨_, hO4⟩ hx4)
            · obtain ⟨-, ff2, no2, hF2⟩ := hz2.resolve_left (fun q => absurd q.1 (by omega))
              rw [nm_no no2] at hp
              refine v_iconst dX5_readsStations_43 ?_
              exact v_zret dX5_readsStations_44 rfl (Nat.le_refl _) (Nat.le_refl _) (Or.inl rfl) (hp _ hF2 ⟨_, hO2⟩ hx2)
        · refine v_aload_0 dX5_readsStations_11 ?_
          refine g_X5_14 rfl dX5_readsStations_12 hm ?_
          refine v_ldcS (i := 3) (by decide) rfl rfl dX5_readsStations_15 ?_
          refine l_X5_66 rfl dX5_readsStations_17 hK ⟨Nat.le_of_ble_eq_true rfl, Nat.le_of_ble_eq_true rfl⟩ (Nat.le_of_ble_eq_true rfl) ⟨Nat.le_refl _, Nat.le_refl _⟩ (c_X6_isWord hA hk pa pb (i := 3) (by decide) ?_)
          rw [show wS.getD 3 [] = wStat from rfl]
          refine v_ifne_b (tgt := 25) dX5_readsStations_20 rfl (fun cW => ?_) (fun cW => ?_)
          · rw [if_pos (Or.inr cW)] at hp
            refine v_aload_0 dX5_readsStations_25 ?_
            rw [show (4 - n).toNat = (4 - (n + 1)).toNat + 1 by omega, sStas] at hp
            unfold sSta at hp
            refine v_ldcS (i := 3) (by decide) rfl rfl dX5_readsStations_26 ?_
            refine l_X5_38 rfl dX5_readsStations_28 hm ⟨Nat.le_of_ble_eq_true rfl, Nat.le_of_ble_eq_true rfl⟩ (Nat.le_of_ble_eq_true rfl) ⟨Nat.le_refl _, Nat.le_refl _⟩ (c_takesWord hC har hbr (i := 3) (by decide) (fun z1 M1 hf1 hz1 => ?_))
            have hb1 : z1 = 0 ∨ z1 = 1 := by rcases hz1 with ⟨e, _⟩ | ⟨e, _⟩ <;> omega
            have hx1 : FdR r o M0 M1 := h_4.tr hf1.dr
            have hO1 := hO.fr (fun c c1 c2 => hf1.2 c (by omega))
            refine v_if_eq (tgt := 43) dX5_readsStations_31 rfl ⟨by omega, by omega⟩ (fun c31 => ?_) (fun c31 => ?_)
            · obtain ⟨-, no1, hF1⟩ := hz1.resolve_left (fun q => absurd q.1 (by omega))
              have no1 : ¬ isW T L wStat p := no1
              rw [wd_no no1] at hp
              refine v_iconst dX5_readsStations_43 ?_
              exact v_zret dX5_readsStations_44 rfl (Nat.le_refl _) (Nat.le_refl _) (Or.inl rfl) (hp _ hF1 ⟨_, hO1⟩ hx1)
            · obtain ⟨-, ok1, hC1⟩ := hz1.resolve_right (fun q => absurd q.1 (by omega))
              have ok1 : isW T L wStat p := ok1
              obtain ⟨hm1, hk1, hA1, pa1, pb1⟩ := id hC1
              obtain ⟨nu1, hK1, hN1⟩ := id hk1
              have kb1 := tkK_bd T L (tkB T L p)
              rw [wd_ok ok1] at hp
              refine v_aload_0 dX5_readsStations_34 ?_
              refine v_iconst dX5_readsStations_35 ?_
              refine v_iconst dX5_readsStations_36 ?_
              refine l_X5_42 rfl dX5_readsStations_37 hm1 ⟨Nat.le_of_ble_eq_true rfl, Nat.le_of_ble_eq_true rfl⟩ (Nat.le_of_ble_eq_true rfl) ⟨Nat.le_refl _, Nat.le_refl _⟩ (c_takesNumber hC1 har hbr ⟨by omega, by omega⟩ ⟨by omega, by omega⟩ (fun z2 M2 hf2 hz2 => ?_))
              have hb2 : z2 = 0 ∨ z2 = 1 := by rcases hz2 with ⟨e, _⟩ | ⟨e, _⟩ <;> omega
              have hx2 : FdR r o M0 M2 := hx1.tr hf2.dr
              have hO2 := hO1.fr (fun c c1 c2 => hf2.2 c (by omega))
              refine v_if_ne (tgt := 45) dX5_readsStations_40 rfl ⟨by omega, by omega⟩ (fun c40 => ?_) (fun c40 => ?_)
              · obtain ⟨-, ok2, hC2⟩ := hz2.resolve_right (fun q => absurd q.1 (by omega))
                obtain ⟨hm2, hk2, hA2, pa2, pb2⟩ := id hC2
                obtain ⟨nu2, hK2, hN2⟩ := id hk2
                have kb2 := tkK_bd T L (tkB T L (tkB T L p))
                rw [nm_ok ok2] at hp
                have nb2 := tkN_bd ok2.1
                refine v_aload_1 dX5_readsStations_45 ?_
                refine v_aload_0 dX5_readsStations_46 ?_
                refine g_X5_46 rfl dX5_readsStations_47 hm2 ?_
                refine l_X5_98 rfl dX5_readsStations_50 hO2.1 ⟨Nat.le_of_ble_eq_true rfl, Nat.le_of_ble_eq_true rfl⟩ (Nat.le_of_ble_eq_true rfl) ⟨Nat.le_refl _, Nat.le_refl _⟩ (c_addStation hO2 h_3.p5 (by have := h_3.2.2.1; omega) (by omega) h_3.2.1.2 (fun M3 hO3 hf3 => ?_))
                have hx3 : FdR r o M0 M3 := hx2.tr hf3.dof
                have hC3 := hC2.fr (hf3.2 _ (by omega)) (hf3.2 _ (by omega)) (hf3.2 _ (by omega)) (hf3.2 _ (by omega))
                obtain ⟨hm3, hk3, hA3, pa3, pb3⟩ := id hC3
                obtain ⟨nu3, hK3, hN3⟩ := id hk3
                have kb3 := tkK_bd T L (tkB T L (tkB T L p))
                refine v_aload_0 dX5_readsStations_53 ?_
                refine l_X5_55 rfl dX5_readsStations_54 hm3 ⟨Nat.le_of_ble_eq_true rfl, Nat.le_of_ble_eq_true rfl⟩ (Nat.le_of_ble_eq_true rfl) ⟨Nat.le_refl _, Nat.le_refl _⟩ (c_takesSemi hC3 har hbr (fun z4 M4 hf4 hz4 => ?_))
                have hb4 : z4 = 0 ∨ z4 = 1 := by rcases hz4 with ⟨e, _⟩ | ⟨e, _⟩ <;> omega
                have hx4 : FdR r o M0 M4 := hx3.tr hf4.dr
                have hO4 := hO3.fr (fun c c1 c2 => hf4.2 c (by omega))
                refine v_if_ne (tgt := 62) dX5_readsStations_57 rfl ⟨by omega, by omega⟩ (fun c57 => ?_) (fun c57 => ?_)
                · obtain ⟨-, ok4, hC4⟩ := hz4.resolve_right (fun q => absurd q.1 (by omega))
                  rw [sm_ok ok4] at hp
                  replace hp : CPn E r a b T L o fk fp td M0 Post (if isW T L wStat (tkB T L (tkB T L (tkB T L p))) then sStas T L (4 - (n + 1)).toNat (tkB T L (tkB T L (tkB T L p))) (upI (upI w (46 + w 2) (tkN T L (tkB T L p))) 2 (w 2 + 1)) (ln + 1) else .inr (((tkB T L (tkB T L (tkB T L p))), (upI (upI w (46 + w 2) (tkN T L (tkB T L p))) 2 (w 2 + 1))), ln + 1)) := hp
                  have e2 : sSta T L p w = .inr ((tkB T L (tkB T L (tkB T L p))), (upI (upI w (46 + w 2) (tkN T L (tkB T L p))) 2 (w 2 + 1))) := by unfold sSta; rw [wd_ok ok1, nm_ok ok2, sm_ok ok4]
                  obtain ⟨i1, i2, i3⟩ := sta_inv h_3 (by omega) e2
                  refine v_iinc_2 dX5_readsStations_62 (Nat.le_of_ble_eq_true rfl) rfl ?_
                  refine v_goto (tgt := 2) dX5_readsStations_65 rfl ?_
                  exact ih (n + 1) _ (ln + 1) _ _ M4 hC4 hO4 (by omega) i1 hx4 ⟨by omega, by omega⟩ (cp_or (by omega) hp) (by omega)
                · obtain ⟨-, no4, hF4⟩ := hz4.resolve_left (fun q => absurd q.1 (by omega))
                  rw [sm_no no4] at hp
                  refine v_iconst dX5_readsStations_60 ?_
                  exact v_zret dX5_readsStations_61 rfl (Nat.le_refl _) (Nat.le_refl _) (Or.inl rfl) (hp _ hF4 ⟨_, hO4⟩ hx4)
              · obtain ⟨-, ff2, no2, hF2⟩ := hz2.resolve_left (fun q => absurd q.1 (by omega))
                rw [nm_no no2] at hp
                refine v_iconst dX5_readsStations_43 ?_
                exact v_zret dX5_readsStations_44 rfl (Nat.le_refl _) (Nat.le_refl _) (Or.inl rfl) (hp _ hF2 ⟨_, hO2⟩ hx2)
          · rw [if_neg (fun q => q.elim (fun e => by omega) cW)] at hp
            refine v_iconst dX5_readsStations_23 ?_
            exact v_zret dX5_readsStations_24 rfl (Nat.le_refl _) (Nat.le_refl _) (Or.inr rfl) (hp _ _ hC hO h_4)
  intro n p ln tk w M a1 a2 a3 a4 a5 a6 a7
  exact lp 5 n p ln tk w M a1 a2 a3 a4 a5 a6 a7 (by omega)

set_option maxRecDepth 100000 in
theorem c_readsStats {E : Ev} {M : Mem} {Post : Option Value → Mem → Prop} {r a b o : Nat} {T : Int → Int} {L p ln fk fp tk td : Int} {w : Int → Int} (hC : CO E M r a b T L p ln fk fp tk td) (hO : OffAt E M o w) (har : a < r ∨ r + 2 ≤ a) (hbr : b < r ∨ r + 2 ≤ b) (hro : r + 2 ≤ o ∨ o + 26 ≤ r) (hao : a < o ∨ o + 26 ≤ a) (hbo : b < o ∨ o + 26 ≤ b) (hw : PW w) (hz0 : w 2 = 0) (hp : CPn E r a b T L o fk fp td M Post (sStas T L 4 p w ln)) : Cn E rX5_readsStations mX5_readsStations [rr E r, rr E o] M Post := by
  refine Cn.of (L := [some (rr E r), some (rr E o), none]) (by decide) (Nat.le_of_ble_eq_true rfl) rfl ?_
  refine v_iconst dX5_readsStations_0 ?_
  refine v_istore_2 dX5_readsStations_1 (Nat.le_of_ble_eq_true rfl) rfl ?_
  exact lp_readsStats har hbr hro hao hbo 0 p ln tk w M hC hO hz0 hw FdR.rf ⟨by omega, by omega⟩ (by rw [if_pos (Or.inl rfl)]; exact hp)
