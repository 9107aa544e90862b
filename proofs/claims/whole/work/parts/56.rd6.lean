theorem and_ts (td : Int → Bool) (i : Nat) (hi : i < 12) : (tsN td 12).toNat &&& 2 ^ i = if td i = true then 2 ^ i else 0 := by
  apply Nat.eq_of_testBit_eq
  intro j
  rw [Nat.testBit_and, ts_tb, Nat.testBit_two_pow]
  by_cases e : i = j
  · subst e
    cases h : td i <;> simp [hi]
  · rw [decide_eq_false e, Bool.and_false]
    cases h : td i
    · simp
    · simp [Nat.testBit_two_pow, e]
theorem and_td (td : Int → Bool) {i : Int} (h0 : 0 ≤ i) (hi : i < 12) : Int32.ofInt (tsN td 12) &&& Int32.ofInt (2 ^ i.toNat) = Int32.ofInt (if td i = true then 2 ^ i.toNat else 0) := by
  have hp := pow_le i.toNat (by omega)
  have t1 := ts_bd td 12
  have tp : (2 : Int) ^ 12 = 4096 := rfl
  have e1 : ((2 : Int) ^ i.toNat).toNat = 2 ^ i.toNat := by
    have : (2 : Int) ^ i.toNat = ((2 ^ i.toNat : Nat) : Int) := by simp
    rw [this, Int.toNat_natCast]
  have ep : (0 : Int) < 2 ^ i.toNat := by have := Nat.two_pow_pos i.toNat; omega
  apply Int32.toBitVec_inj.mp
  apply BitVec.eq_of_toNat_eq
  rw [Int32.toBitVec_and, BitVec.toNat_and, i_toNat (by omega) (by omega), i_toNat (by omega) (by omega), e1, and_ts td i.toNat (by omega), toNat_cast h0]
  by_cases c : td i = true
  · rw [if_pos c, if_pos c, i_toNat (by omega) (by omega), e1]
  · rw [if_neg c, if_neg c]; rfl
def CPt (E : Ev) (r a b : Nat) (T : Int → Int) (L : Int) (o : Nat) (ln fk fp : Int) (M : Mem) (Post : Option Value → Mem → Prop) : Rs (RW × (Int → Bool)) → Prop
  | .inl (f, pl) => ∀ M2, CF E M2 r a b T L f pl → (∃ w, OffAt E M2 o w) → FdR r o M M2 → Post (some (iv 0)) M2
  | .inr ((p, w), td) => ∀ M2 tk, CO E M2 r a b T L p ln fk fp tk (tsN td 12) → OffAt E M2 o w → FdR r o M M2 → Post (some (iv 1)) M2
theorem CPt_mk {E : Ev} {r a b : Nat} {T : Int → Int} {L : Int} {o : Nat} {ln fk fp : Int} {M : Mem} {Post : Option Value → Mem → Prop} {x : Rs (RW × (Int → Bool))} (h : ∀ (z : Int) (M2 : Mem), FdR r o M M2 → ((z = 1 ∧ ∃ p w td tk, x = .inr ((p, w), td) ∧ CO E M2 r a b T L p ln fk fp tk (tsN td 12) ∧ OffAt E M2 o w) ∨ (z = 0 ∧ ∃ f pl, x = .inl (f, pl) ∧ CF E M2 r a b T L f pl ∧ ∃ w, OffAt E M2 o w)) → Post (some (iv z)) M2) : CPt E r a b T L o ln fk fp M Post x := by
  rcases x with ⟨f, pl⟩ | ⟨⟨p, w⟩, td⟩
  · exact fun M2 h1 h2 h3 => h 0 M2 h3 (Or.inr ⟨rfl, f, pl, rfl, h1, h2⟩)
  · exact fun M2 tk h1 h2 h3 => h 1 M2 h3 (Or.inl ⟨rfl, p, w, td, tk, rfl, h1, h2⟩)
def CPw (E : Ev) (r a b : Nat) (T : Int → Int) (L : Int) (o : Nat) (fk fp : Int) (M : Mem) (Post : Option Value → Mem → Prop) : Rs ((Int → Int) × Int) → Prop
  | .inl (f, pl) => ∀ M2, CF E M2 r a b T L f pl → (∃ w, OffAt E M2 o w) → FdR r o M M2 → Post (some (iv 0)) M2
  | .inr (w, n) => ∀ M2 p tk td, CO E M2 r a b T L p n fk fp tk td → OffAt E M2 o w → FdR r o M M2 → Post (some (iv 1)) M2

theorem pow_pos2 (n : Nat) : (0 : Int) < 2 ^ n := by
  have := Nat.two_pow_pos n
  have e : (2 : Int) ^ n = ((2 ^ n : Nat) : Int) := by simp
  omega

set_option maxRecDepth 100000 in
theorem c_readsSeries {E : Ev} {M : Mem} {Post : Option Value → Mem → Prop} {r a b o : Nat} {T : Int → Int} {L p ln fk fp tk : Int} {td : Int → Bool} {w : Int → Int} (hC : CO E M r a b T L p ln fk fp tk (tsN td 12)) (hO : OffAt E M o w) (har : a < r ∨ r + 2 ≤ a) (hbr : b < r ∨ r + 2 ≤ b) (hro : r + 2 ≤ o ∨ o + 26 ≤ r) (hao : a < o ∨ o + 26 ≤ a) (hbo : b < o ∨ o + 26 ≤ b) (hw : PW w) (hw3 : 0 ≤ w 3 ∧ w 3 ≤ 100) (hp : CPt E r a b T L o (ln + 1) fk fp M Post (sSer T L p w td)) : Cn E rX5_readsSeries mX5_readsSeries [rr E r, rr E o] M Post := by
  obtain ⟨hm, hk, hA, pa, pb⟩ := id hC
  obtain ⟨nu, hK, hN⟩ := id hk
  have kb := tkK_bd T L p
  have a2 := hw.2.1
  have a3 := hw.2.2.1
  refine Cn.of (L := [some (rr E r), some (rr E o), none, none, none]) (by decide) (Nat.le_of_ble_eq_true rfl) rfl ?_
  refine v_aload_0 dX5_readsSeries_0 ?_
  refine v_ldcS (i := 4) (by decide) rfl rfl dX5_readsSeries_1 ?_
  refine l_X5_38 rfl dX5_readsSeries_3 hm ⟨Nat.le_of_ble_eq_true rfl, Nat.le_of_ble_eq_true rfl⟩ (Nat.le_of_ble_eq_true rfl) ⟨Nat.le_refl _, Nat.le_refl _⟩ (c_takesWord hC har hbr (i := 4) (by decide) (fun z1 M1 hf1 hz1 => ?_))
  have hb1 : z1 = 0 ∨ z1 = 1 := by rcases hz1 with ⟨e, _⟩ | ⟨e, _⟩ <;> omega
  have hx1 : FdR r o M M1 := FdR.rf.tr hf1.dr
  have hO1 := hO.fr (fun c c1 c2 => hf1.2 c (by omega))
  refine v_if_eq (tgt := 23) dX5_readsSeries_6 rfl ⟨by omega, by omega⟩ (fun c6 => ?_) (fun c6 => ?_)
  · unfold sSer at hp
    obtain ⟨-, no1, hF1⟩ := hz1.resolve_left (fun q => absurd q.1 (by omega))
    have no1 : ¬ isW T L wSeries p := no1
    rw [wd_no no1] at hp
    refine v_iconst dX5_readsSeries_23 ?_
    exact v_zret dX5_readsSeries_24 rfl (Nat.le_refl _) (Nat.le_refl _) (Or.inl rfl) (hp _ hF1 ⟨_, hO1⟩ hx1)
  · unfold sSer at hp
    obtain ⟨-, ok1, hC1⟩ := hz1.resolve_right (fun q => absurd q.1 (by omega))
    have ok1 : isW T L wSeries p := ok1
    obtain ⟨hm1, hk1, hA1, pa1, pb1⟩ := id hC1
    obtain ⟨nu1, hK1, hN1⟩ := id hk1
    have kb1 := tkK_bd T L (tkB T L p)
    rw [wd_ok ok1] at hp
    clear hz1
    refine v_aload_0 dX5_readsSeries_9 ?_
    refine v_iconst dX5_readsSeries_10 ?_
    refine v_aload_1 dX5_readsSeries_11 ?_
    refine g_X5_107 rfl dX5_readsSeries_12 hO1.1 ?_
    refine v_iconst dX5_readsSeries_15 ?_
    refine v_isub dX5_readsSeries_16 ?_
    refine l_X5_42 rfl dX5_readsSeries_17 hm1 ⟨Nat.le_of_ble_eq_true rfl, Nat.le_of_ble_eq_true rfl⟩ (Nat.le_of_ble_eq_true rfl) ⟨Nat.le_refl _, Nat.le_refl _⟩ (c_takesNumber hC1 har hbr ⟨by omega, by omega⟩ ⟨by omega, by omega⟩ (fun z2 M2 hf2 hz2 => ?_))
    have hb2 : z2 = 0 ∨ z2 = 1 := by rcases hz2 with ⟨e, _⟩ | ⟨e, _⟩ <;> omega
    have hx2 : FdR r o M M2 := hx1.tr hf2.dr
    have hO2 := hO1.fr (fun c c1 c2 => hf2.2 c (by omega))
    refine v_if_ne (tgt := 25) dX5_readsSeries_20 rfl ⟨by omega, by omega⟩ (fun c20 => ?_) (fun c20 => ?_)
    · obtain ⟨-, ok2, hC2⟩ := hz2.resolve_right (fun q => absurd q.1 (by omega))
      obtain ⟨hm2, hk2, hA2, pa2, pb2⟩ := id hC2
      obtain ⟨nu2, hK2, hN2⟩ := id hk2
      have kb2 := tkK_bd T L (tkB T L (tkB T L p))
      rw [nm_ok ok2] at hp
      have nb2 := tkN_bd ok2.1
      clear hz2
      refine v_aload_0 dX5_readsSeries_25 ?_
      refine g_X5_46 rfl dX5_readsSeries_26 hm2 ?_
      refine v_istore_2 dX5_readsSeries_29 (Nat.le_of_ble_eq_true rfl) rfl ?_
      refine v_aload_0 dX5_readsSeries_30 ?_
      refine v_iconst dX5_readsSeries_31 ?_
      refine v_aload_1 dX5_readsSeries_32 ?_
      refine g_X5_110 rfl dX5_readsSeries_33 hO2.1 ?_
      refine v_iconst dX5_readsSeries_36 ?_
      refine v_isub dX5_readsSeries_37 ?_
      refine l_X5_93 rfl dX5_readsSeries_38 hm2 ⟨Nat.le_of_ble_eq_true rfl, Nat.le_of_ble_eq_true rfl⟩ (Nat.le_of_ble_eq_true rfl) ⟨Nat.le_refl _, Nat.le_refl _⟩ (c_within hC2 har hbr ⟨by omega, by omega⟩ ⟨by omega, by omega⟩ (fun z3 M3 hf3 hz3 => ?_))
      have hb3 : z3 = 0 ∨ z3 = 1 := by rcases hz3 with ⟨e, _⟩ | ⟨e, _⟩ <;> omega
      have hx3 : FdR r o M M3 := hx2.tr hf3.dr
      have hO3 := hO2.fr (fun c c1 c2 => hf3.2 c (by omega))
      refine v_if_ne (tgt := 46) dX5_readsSeries_41 rfl ⟨by omega, by omega⟩ (fun c41 => ?_) (fun c41 => ?_)
      · obtain ⟨-, ok3, e3⟩ := hz3.resolve_right (fun q => absurd q.1 (by omega))
        clear hz3
        subst e3
        rw [nm_ok ok3] at hp
        have nb3 := tkN_bd ok3.1
        have hbit : 0 ≤ (3 * (tkN T L (tkB T L p)) + (tkN T L (tkB T L (tkB T L p)))) ∧ (3 * (tkN T L (tkB T L p)) + (tkN T L (tkB T L (tkB T L p)))) < 12 := by omega
        refine v_aload_0 dX5_readsSeries_46 ?_
        refine g_X5_14 rfl dX5_readsSeries_47 hm2 ?_
        refine g_X5_113 rfl dX5_readsSeries_50 hK2 ?_
        rw [hN2 ok3.1]
        refine v_istore_3 dX5_readsSeries_53 (Nat.le_of_ble_eq_true rfl) rfl ?_
        refine v_iconst dX5_readsSeries_54 ?_
        refine v_iload_2 dX5_readsSeries_55 ?_
        refine v_iconst dX5_readsSeries_56 ?_
        refine v_imul dX5_readsSeries_57 ?_
        refine v_iload_3 dX5_readsSeries_58 ?_
        refine v_iadd dX5_readsSeries_59 ?_
        rw [show (tkN T L (tkB T L p)) * 3 + (tkN T L (tkB T L (tkB T L p))) = (3 * (tkN T L (tkB T L p)) + (tkN T L (tkB T L (tkB T L p)))) by omega]
        refine v_ishl dX5_readsSeries_60 (by have t := shl_one (3 * (tkN T L (tkB T L p)) + (tkN T L (tkB T L (tkB T L p)))).toNat (by omega); rwa [toNat_cast hbit.1] at t) ?_
        refine v_istore_4 dX5_readsSeries_61 (Nat.le_of_ble_eq_true rfl) rfl ?_
        refine v_aload_0 dX5_readsSeries_63 ?_
        refine g_X5_30 rfl dX5_readsSeries_64 hm2 ?_
        refine v_iload_4 dX5_readsSeries_67 ?_
        refine v_iand dX5_readsSeries_69 (and_td td hbit.1 hbit.2) ?_
        refine v_if_eq (tgt := 79) dX5_readsSeries_70 rfl (by have q := pow_le (3 * (tkN T L (tkB T L p)) + (tkN T L (tkB T L (tkB T L p)))).toNat (by omega); have q2 : (0 : Int) < 2 ^ (3 * (tkN T L (tkB T L p)) + (tkN T L (tkB T L (tkB T L p)))).toNat := pow_pos2 _; split <;> exact ⟨by omega, by omega⟩) (fun c70 => ?_) (fun c70 => ?_)
        · have nt : ¬ td (3 * (tkN T L (tkB T L p)) + (tkN T L (tkB T L (tkB T L p)))) = true := fun q => by rw [if_pos q] at c70; have q2 : (0 : Int) < 2 ^ (3 * (tkN T L (tkB T L p)) + (tkN T L (tkB T L (tkB T L p)))).toNat := pow_pos2 _; omega
          rw [if_neg nt] at hp
          refine v_aload_0 dX5_readsSeries_79 ?_
          refine v_dupr dX5_readsSeries_80 ?_
          refine g_X5_30 rfl dX5_readsSeries_81 hm2 ?_
          refine v_iload_4 dX5_readsSeries_84 ?_
          refine v_ior dX5_readsSeries_86 (or_td td hbit.1 hbit.2) ?_
          refine p_X5_30 rfl dX5_readsSeries_87 hm2 ?_
          have hf4 : Fr r (r + 2) M3 (M3.set r (ob 5 [rr E (r + 1), iv ln, iv fk, iv fp, iv (tkN T L (tkB T L p)), iv (tsN (upB td (3 * (tkN T L (tkB T L p)) + (tkN T L (tkB T L (tkB T L p))))) 12)])) := Fr.set (Nat.le_refl r) (by omega)
          have hC4 : CO E _ r a b T L (tkB T L (tkB T L p)) ln fk fp (tkN T L (tkB T L p)) (tsN (upB td (3 * (tkN T L (tkB T L p)) + (tkN T L (tkB T L (tkB T L p))))) 12) := ⟨gs_eq (c := ob 5 [rr E (r + 1), iv ln, iv fk, iv fp, iv (tkN T L (tkB T L p)), iv (tsN (upB td (3 * (tkN T L (tkB T L p)) + (tkN T L (tkB T L (tkB T L p))))) 12)]) hm2, hk2.fr (List.getElem?_set_ne (by omega)), hA2.fr (List.getElem?_set_ne (by omega)) (List.getElem?_set_ne (by omega)), pa2, pb2⟩
          have hx4 : FdR r o M _ := hx2.tr hf4.dr
          have hO4 := hO2.fr (fun c c1 c2 => hf4.2 c (by omega))
          obtain ⟨hm4, hk4, hA4, pa4, pb4⟩ := id hC4
          obtain ⟨nu4, hK4, hN4⟩ := id hk4
          have kb4 := tkK_bd T L (tkB T L (tkB T L p))
          refine v_aload_0 dX5_readsSeries_90 ?_
          refine g_X5_14 rfl dX5_readsSeries_91 hm4 ?_
          refine l_X5_116 rfl dX5_readsSeries_94 hK4 ⟨Nat.le_of_ble_eq_true rfl, Nat.le_of_ble_eq_true rfl⟩ (Nat.le_of_ble_eq_true rfl) ⟨Nat.le_refl _, Nat.le_refl _⟩ (c_next hC4 har hbr (fun M5 hC5 hf5 => ?_))
          have hx5 : FdR r o M M5 := hx4.tr (Fr.dr (hf5.wide (by omega) (by omega)))
          have hO5 := hO4.fr (fun c c1 c2 => hf5.2 c (by omega))
          obtain ⟨hm5, hk5, hA5, pa5, pb5⟩ := id hC5
          obtain ⟨nu5, hK5, hN5⟩ := id hk5
          have kb5 := tkK_bd T L (tkB T L (tkB T L (tkB T L p)))
          refine v_aload_0 dX5_readsSeries_97 ?_
          refine v_aload_1 dX5_readsSeries_98 ?_
          refine v_iload_2 dX5_readsSeries_99 ?_
          refine v_iload_3 dX5_readsSeries_100 ?_
          refine l_X5_119 rfl dX5_readsSeries_101 hm5 ⟨Nat.le_of_ble_eq_true rfl, Nat.le_of_ble_eq_true rfl⟩ (Nat.le_of_ble_eq_true rfl) ⟨Nat.le_refl _, Nat.le_refl _⟩ (c_readsReads hC5 hO5 har hbr hro hao hbo hw hw3 (by omega) (by omega) (by omega) (by omega) (CP_mk (fun z6 M6 hf6 hz6 => ?_)))
          have hb6 : z6 = 0 ∨ z6 = 1 := by rcases hz6 with ⟨e, _⟩ | ⟨e, _⟩ <;> omega
          have hx6 : FdR r o M M6 := hx5.tr hf6
          refine v_if_eq (tgt := 118) dX5_readsSeries_104 rfl ⟨by omega, by omega⟩ (fun c104 => ?_) (fun c104 => ?_)
          · obtain ⟨-, f9, pl9, e9, hF6, w9, hO6⟩ := hz6.resolve_left (fun q => absurd q.1 (by omega))
            clear hz6
            rw [e9] at hp
            refine v_iconst dX5_readsSeries_118 ?_
            exact v_zret dX5_readsSeries_119 rfl (Nat.le_refl _) (Nat.le_refl _) (Or.inl rfl) (hp _ hF6 ⟨_, hO6⟩ hx6)
          · obtain ⟨-, p9, w9, tk9, e9, hC6, hO6⟩ := hz6.resolve_right (fun q => absurd q.1 (by omega))
            clear hz6
            rw [e9] at hp
            replace hp : CPt E r a b T L o (ln + 1) fk fp M Post (smS T L p9 fun p8 => .inr ((p8, w9), upB td (3 * (tkN T L (tkB T L p)) + (tkN T L (tkB T L (tkB T L p)))))) := hp
            obtain ⟨hm6, hk6, hA6, pa6, pb6⟩ := id hC6
            obtain ⟨nu6, hK6, hN6⟩ := id hk6
            have kb6 := tkK_bd T L p9
            refine v_aload_0 dX5_readsSeries_107 ?_
            refine l_X5_55 rfl dX5_readsSeries_108 hm6 ⟨Nat.le_of_ble_eq_true rfl, Nat.le_of_ble_eq_true rfl⟩ (Nat.le_of_ble_eq_true rfl) ⟨Nat.le_refl _, Nat.le_refl _⟩ (c_takesSemi hC6 har hbr (fun z7 M7 hf7 hz7 => ?_))
            have hb7 : z7 = 0 ∨ z7 = 1 := by rcases hz7 with ⟨e, _⟩ | ⟨e, _⟩ <;> omega
            have hx7 : FdR r o M M7 := hx6.tr hf7.dr
            have hO7 := hO6.fr (fun c c1 c2 => hf7.2 c (by omega))
            refine v_if_eq (tgt := 118) dX5_readsSeries_111 rfl ⟨by omega, by omega⟩ (fun c111 => ?_) (fun c111 => ?_)
            · obtain ⟨-, no7, hF7⟩ := hz7.resolve_left (fun q => absurd q.1 (by omega))
              rw [sm_no no7] at hp
              refine v_iconst dX5_readsSeries_118 ?_
              exact v_zret dX5_readsSeries_119 rfl (Nat.le_refl _) (Nat.le_refl _) (Or.inl rfl) (hp _ hF7 ⟨_, hO7⟩ hx7)
            · obtain ⟨-, ok7, hC7⟩ := hz7.resolve_right (fun q => absurd q.1 (by omega))
              rw [sm_ok ok7] at hp
              refine v_iconst dX5_readsSeries_114 ?_
              refine v_goto (tgt := 119) dX5_readsSeries_115 rfl ?_
              exact v_zret dX5_readsSeries_119 rfl (Nat.le_refl _) (Nat.le_refl _) (Or.inr rfl) (hp _ _ hC7 hO7 hx7)
        · have yt : td (3 * (tkN T L (tkB T L p)) + (tkN T L (tkB T L (tkB T L p)))) = true := by
            by_cases q : td (3 * (tkN T L (tkB T L p)) + (tkN T L (tkB T L (tkB T L p)))) = true
            · exact q
            · rw [if_neg q] at c70; exact absurd rfl c70
          rw [if_pos yt] at hp
          refine v_aload_0 dX5_readsSeries_73 ?_
          refine v_iconst dX5_readsSeries_74 ?_
          refine l_X5_73 rfl dX5_readsSeries_75 hm2 ⟨Nat.le_of_ble_eq_true rfl, Nat.le_of_ble_eq_true rfl⟩ (Nat.le_of_ble_eq_true rfl) ⟨Nat.le_refl _, Nat.le_refl _⟩ (c_refuses hC2 har hbr (fun M9 hF9 hf9 => ?_))
          exact v_zret dX5_readsSeries_78 rfl (Nat.le_refl _) (Nat.le_refl _) (Or.inl rfl) (hp _ hF9 ⟨_, hO2.fr (fun c c1 c2 => hf9.2 c (by omega))⟩ (hx2.tr hf9.dr))
      · obtain ⟨-, ff3, no3, hF3⟩ := hz3.resolve_left (fun q => absurd q.1 (by omega))
        rw [nm_no no3] at hp
        refine v_iconst dX5_readsSeries_44 ?_
        exact v_zret dX5_readsSeries_45 rfl (Nat.le_refl _) (Nat.le_refl _) (Or.inl rfl) (hp _ hF3 ⟨_, hO3⟩ hx3)
    · obtain ⟨-, ff2, no2, hF2⟩ := hz2.resolve_left (fun q => absurd q.1 (by omega))
      rw [nm_no no2] at hp
      refine v_iconst dX5_readsSeries_23 ?_
      exact v_zret dX5_readsSeries_24 rfl (Nat.le_refl _) (Nat.le_refl _) (Or.inl rfl) (hp _ hF2 ⟨_, hO2⟩ hx2)

set_option maxRecDepth 100000 in
theorem lp_all {E : Ev} {M0 : Mem} {Post : Option Value → Mem → Prop} {r a b o : Nat} {T : Int → Int} {L fk fp : Int} (har : a < r ∨ r + 2 ≤ a) (hbr : b < r ∨ r + 2 ≤ b) (hro : r + 2 ≤ o ∨ o + 26 ≤ r) (hao : a < o ∨ o + 26 ≤ a) (hbo : b < o ∨ o + 26 ≤ b) : ∀ (f : Nat) (n p ln tk : Int) (w : Int → Int) (td : Int → Bool) (M : Mem), (CO E M r a b T L p ln fk fp tk (tsN td 12)) → (OffAt E M o w) → (pcN td 12 = n ∧ n + f = 12) → (PW w) → (FdR r o M0 M) → (BH w) → (CPw E r a b T L o fk fp M0 Post (sAll T L f p w td ln)) → V E rX5_readsAllSeries mX5_readsAllSeries (finM E rX5_readsAllSeries Post) 0 0 M 2 [some (rr E r), some (rr E o), some (iv n)] [] := by
  have lp : ∀ (cq : Nat) (f : Nat) (n p ln tk : Int) (w : Int → Int) (td : Int → Bool) (M : Mem), (CO E M r a b T L p ln fk fp tk (tsN td 12)) → (OffAt E M o w) → (pcN td 12 = n ∧ n + f = 12) → (PW w) → (FdR r o M0 M) → (BH w) → (CPw E r a b T L o fk fp M0 Post (sAll T L f p w td ln)) → (f : Int) < (cq : Int) → V E rX5_readsAllSeries mX5_readsAllSeries (finM E rX5_readsAllSeries Post) 0 0 M 2 [some (rr E r), some (rr E o), some (iv n)] [] := by
    intro cq
    induction cq with
    | zero => intro f n p ln tk w td M h_0 h_1 h_2 h_3 h_4 h_5 h_6 hz; exact absurd hz (by omega)
    | succ cq ih =>
      intro f n p ln tk w td M hC hO h_2 h_3 h_4 h_5 hp hz
      have h2b := pc_le td 12
      obtain ⟨hm, hk, hA, pa, pb⟩ := id hC
      obtain ⟨nu, hK, hN⟩ := id hk
      have kb := tkK_bd T L p
      rw [all_st] at hp
      refine v_iload_2 dX5_readsAllSeries_2 ?_
      refine v_bipush dX5_readsAllSeries_3 (by decide) ?_
      refine v_icmp_ge (tgt := 37) dX5_readsAllSeries_5 rfl ⟨by omega, by omega⟩ ⟨by omega, by omega⟩ (fun c5 => ?_) (fun c5 => ?_)
      · refine v_aload_0 dX5_readsAllSeries_37 ?_
        refine g_X5_14 rfl dX5_readsAllSeries_38 hm ?_
        refine g_X5_85 rfl dX5_readsAllSeries_41 hK ?_
        refine v_iconst dX5_readsAllSeries_44 ?_
        refine v_icmp_eq (tgt := 56) dX5_readsAllSeries_45 rfl ⟨by omega, by omega⟩ ⟨by omega, by omega⟩ (fun c45 => ?_) (fun c45 => ?_)
        · refine v_iconst dX5_readsAllSeries_56 ?_
          refine v_goto (tgt := 61) dX5_readsAllSeries_57 rfl ?_
          exact v_zret dX5_readsAllSeries_61 rfl (Nat.le_refl _) (Nat.le_refl _) (Or.inr rfl) (by rw [if_pos (by omega)] at hp; exact hp _ _ _ _ hC hO h_4)
        · refine v_aload_0 dX5_readsAllSeries_48 ?_
          refine v_aload_1 dX5_readsAllSeries_49 ?_
          rw [if_neg (by omega)] at hp
          refine l_X5_102 rfl dX5_readsAllSeries_50 hm ⟨Nat.le_of_ble_eq_true rfl, Nat.le_of_ble_eq_true rfl⟩ (Nat.le_of_ble_eq_true rfl) ⟨Nat.le_refl _, Nat.le_refl _⟩ (c_readsSeries hC hO har hbr hro hao hbo h_3 h_5.1 (CPt_mk (fun z2 M2 hf2 hz2 => ?_)))
          have hb2 : z2 = 0 ∨ z2 = 1 := by rcases hz2 with ⟨e, _⟩ | ⟨e, _⟩ <;> omega
          have hx2 : FdR r o M0 M2 := h_4.tr hf2
          refine v_if_eq (tgt := 60) dX5_readsAllSeries_53 rfl ⟨by omega, by omega⟩ (fun c53 => ?_) (fun c53 => ?_)
          · obtain ⟨-, f9, pl9, e9, hF2, w9, hO2⟩ := hz2.resolve_left (fun q => absurd q.1 (by omega))
            clear hz2
            rw [e9] at hp
            refine v_iconst dX5_readsAllSeries_60 ?_
            exact v_zret dX5_readsAllSeries_61 rfl (Nat.le_refl _) (Nat.le_refl _) (Or.inl rfl) (hp _ hF2 ⟨_, hO2⟩ hx2)
          · obtain ⟨-, p2, w2, td2, tk2, e2, hC2, hO2⟩ := hz2.resolve_right (fun q => absurd q.1 (by omega))
            exact (ser_none h_3 (by omega) e2).elim
      · refine v_aload_0 dX5_readsAllSeries_8 ?_
        refine g_X5_14 rfl dX5_readsAllSeries_9 hm ?_
        refine g_X5_85 rfl dX5_readsAllSeries_12 hK ?_
        refine v_iconst dX5_readsAllSeries_15 ?_
        refine v_icmp_ne (tgt := 21) dX5_readsAllSeries_16 rfl ⟨by omega, by omega⟩ ⟨by omega, by omega⟩ (fun c16 => ?_) (fun c16 => ?_)
        · refine v_aload_0 dX5_readsAllSeries_21 ?_
          refine v_aload_1 dX5_readsAllSeries_22 ?_
          rw [if_neg (by omega)] at hp
          refine l_X5_102 rfl dX5_readsAllSeries_23 hm ⟨Nat.le_of_ble_eq_true rfl, Nat.le_of_ble_eq_true rfl⟩ (Nat.le_of_ble_eq_true rfl) ⟨Nat.le_refl _, Nat.le_refl _⟩ (c_readsSeries hC hO har hbr hro hao hbo h_3 h_5.1 (CPt_mk (fun z2 M2 hf2 hz2 => ?_)))
          have hb2 : z2 = 0 ∨ z2 = 1 := by rcases hz2 with ⟨e, _⟩ | ⟨e, _⟩ <;> omega
          have hx2 : FdR r o M0 M2 := h_4.tr hf2
          refine v_if_ne (tgt := 31) dX5_readsAllSeries_26 rfl ⟨by omega, by omega⟩ (fun c26 => ?_) (fun c26 => ?_)
          · obtain ⟨-, p2, w2, td2, tk2, e2, hC2, hO2⟩ := hz2.resolve_right (fun q => absurd q.1 (by omega))
            clear hz2
            rw [e2] at hp
            obtain ⟨i1, i2, -⟩ := ser_inv h_3 e2
            have i3 := ser_cnt h_3 e2
            have i3 : pcN td2 12 = pcN td 12 + 1 := i3
            replace hp : CPw E r a b T L o fk fp M0 Post (if f = 0 then .inl (0, 0) else sAll T L (f - 1) p2 w2 td2 (ln + 1)) := hp
            rw [if_neg (by omega)] at hp
            refine v_iinc_2 dX5_readsAllSeries_31 (Nat.le_of_ble_eq_true rfl) rfl ?_
            refine v_goto (tgt := 2) dX5_readsAllSeries_34 rfl ?_
            exact ih (f - 1) (n + 1) p2 (ln + 1) tk2 w2 td2 M2 hC2 hO2 ⟨by omega, by omega⟩ i1 hx2 (h_5.keep (fun j j0 j1 => i2 j (by omega) (by omega))) hp (by omega)
          · obtain ⟨-, f9, pl9, e9, hF2, w9, hO2⟩ := hz2.resolve_left (fun q => absurd q.1 (by omega))
            clear hz2
            rw [e9] at hp
            refine v_iconst dX5_readsAllSeries_29 ?_
            exact v_zret dX5_readsAllSeries_30 rfl (Nat.le_refl _) (Nat.le_refl _) (Or.inl rfl) (hp _ hF2 ⟨_, hO2⟩ hx2)
        · refine v_iconst dX5_readsAllSeries_19 ?_
          exact v_zret dX5_readsAllSeries_20 rfl (Nat.le_refl _) (Nat.le_refl _) (Or.inr rfl) (by rw [if_pos (by omega)] at hp; exact hp _ _ _ _ hC hO h_4)
  intro f n p ln tk w td M a1 a2 a3 a4 a5 a6 a7
  exact lp (f + 1) f n p ln tk w td M a1 a2 a3 a4 a5 a6 a7 (by omega)

set_option maxRecDepth 100000 in
theorem c_readsAll {E : Ev} {M : Mem} {Post : Option Value → Mem → Prop} {r a b o : Nat} {T : Int → Int} {L p ln fk fp tk : Int} {w : Int → Int} (hC : CO E M r a b T L p ln fk fp tk 0) (hO : OffAt E M o w) (har : a < r ∨ r + 2 ≤ a) (hbr : b < r ∨ r + 2 ≤ b) (hro : r + 2 ≤ o ∨ o + 26 ≤ r) (hao : a < o ∨ o + 26 ≤ a) (hbo : b < o ∨ o + 26 ≤ b) (hw : PW w) (hB : BH w) (hp : CPw E r a b T L o fk fp M Post (sAll T L 12 p w (fun _ => false) ln)) : Cn E rX5_readsAllSeries mX5_readsAllSeries [rr E r, rr E o] M Post := by
  refine Cn.of (L := [some (rr E r), some (rr E o), none]) (by decide) (Nat.le_of_ble_eq_true rfl) rfl ?_
  refine v_iconst dX5_readsAllSeries_0 ?_
  refine v_istore_2 dX5_readsAllSeries_1 (Nat.le_of_ble_eq_true rfl) rfl ?_
  exact lp_all har hbr hro hao hbo 12 0 p ln tk w (fun _ => false) M (by rw [td_0]; exact hC) hO ⟨by decide, by decide⟩ hw FdR.rf hB hp
