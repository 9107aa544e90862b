def FdR (r o : Nat) (M M2 : Mem) : Prop := M2.length = M.length ∧ ∀ b : Nat, (b < r ∨ r + 2 ≤ b) → (b < o ∨ o + 26 ≤ b) → M2[b]? = M[b]?
theorem FdR.rf {r o : Nat} {M : Mem} : FdR r o M M := ⟨rfl, fun _ _ _ => rfl⟩
theorem FdR.tr {r o : Nat} {M M2 M3 : Mem} (h : FdR r o M M2) (h2 : FdR r o M2 M3) : FdR r o M M3 := ⟨h2.1.trans h.1, fun b b1 b2 => (h2.2 b b1 b2).trans (h.2 b b1 b2)⟩
theorem Fr.dr {r o : Nat} {M M2 : Mem} (h : Fr r (r + 2) M M2) : FdR r o M M2 := ⟨h.1, fun b b1 _ => h.2 b b1⟩
theorem Fr.dof {r o : Nat} {M M2 : Mem} (h : Fr o (o + 26) M M2) : FdR r o M M2 := ⟨h.1, fun b _ b2 => h.2 b b2⟩
def CP (E : Ev) (r a b : Nat) (T : Int → Int) (L : Int) (o : Nat) (ln fk fp td : Int) (M : Mem) (Post : Option Value → Mem → Prop) : Rs RW → Prop
  | .inl (f, pl) => ∀ M2, CF E M2 r a b T L f pl → (∃ w, OffAt E M2 o w) → FdR r o M M2 → Post (some (iv 0)) M2
  | .inr (p, w) => ∀ M2 tk, CO E M2 r a b T L p ln fk fp tk td → OffAt E M2 o w → FdR r o M M2 → Post (some (iv 1)) M2
theorem CO.fr {E : Ev} {M M2 : Mem} {r a b : Nat} {T : Int → Int} {L p ln fk fp tk td : Int} (h : CO E M r a b T L p ln fk fp tk td) (e1 : M2[r]? = M[r]?) (e2 : M2[r + 1]? = M[r + 1]?) (e3 : M2[a]? = M[a]?) (e4 : M2[b]? = M[b]?) : CO E M2 r a b T L p ln fk fp tk td := by
  obtain ⟨h1, h2, h3, h4⟩ := h
  exact ⟨e1.trans h1, h2.fr e2, h3.fr e3 e4, h4⟩

theorem cl_fin {E : Ev} {M M2 : Mem} {Post : Option Value → Mem → Prop} {r a b o : Nat} {T : Int → Int} {L p ln fk fp tk td z : Int} {w : Int → Int} (hz : (z = 1 ∧ tkK T L p = 3 ∧ CO E M2 r a b T L (tkB T L p) (ln + 1) fk fp tk td) ∨ (z = 0 ∧ ¬ tkK T L p = 3 ∧ CF E M2 r a b T L 1 (tkS T L p))) (hO : OffAt E M2 o w) (hx : FdR r o M M2) (hp : CP E r a b T L o (ln + 1) fk fp td M Post (smS T L p fun p => .inr (p, w))) : Post (some (iv z)) M2 := by
  rcases hz with ⟨e, q1, q2⟩ | ⟨e, q1, q2⟩
  · subst e
    rw [sm_ok q1] at hp
    exact hp _ _ q2 hO hx
  · subst e
    rw [sm_no q1] at hp
    exact hp _ q2 ⟨_, hO⟩ hx

set_option maxRecDepth 100000 in
theorem c_readsBands {E : Ev} {M : Mem} {Post : Option Value → Mem → Prop} {r a b o : Nat} {T : Int → Int} {L p ln fk fp tk td : Int} {w : Int → Int} (hC : CO E M r a b T L p ln fk fp tk td) (hO : OffAt E M o w) (har : a < r ∨ r + 2 ≤ a) (hbr : b < r ∨ r + 2 ≤ b) (hro : r + 2 ≤ o ∨ o + 26 ≤ r) (hao : a < o ∨ o + 26 ≤ a) (hbo : b < o ∨ o + 26 ≤ b) (hp : CP E r a b T L o (ln + 1) fk fp td M Post (sBands T L p w)) : Cn E rX5_readsBands mX5_readsBands [rr E r, rr E o] M Post := by
  obtain ⟨hm, hk, hA, pa, pb⟩ := id hC
  obtain ⟨nu, hK, hN⟩ := id hk
  have kb := tkK_bd T L p
  refine Cn.of (L := [some (rr E r), some (rr E o), none, none]) (by decide) (Nat.le_of_ble_eq_true rfl) rfl ?_
  refine v_aload_0 dX5_readsBands_0 ?_
  refine v_ldcS (i := 0) (by decide) rfl rfl dX5_readsBands_1 ?_
  refine l_X5_38 rfl dX5_readsBands_3 hm ⟨Nat.le_of_ble_eq_true rfl, Nat.le_of_ble_eq_true rfl⟩ (Nat.le_of_ble_eq_true rfl) ⟨Nat.le_refl _, Nat.le_refl _⟩ (c_takesWord hC har hbr (i := 0) (by decide) (fun z1 M1 hf1 hz1 => ?_))
  have hb1 : z1 = 0 ∨ z1 = 1 := by rcases hz1 with ⟨e, _⟩ | ⟨e, _⟩ <;> omega
  have hx1 : FdR r o M M1 := FdR.rf.tr hf1.dr
  have hO1 := hO.fr (fun c c1 c2 => hf1.2 c (by omega))
  refine v_if_ne (tgt := 11) dX5_readsBands_6 rfl ⟨by omega, by omega⟩ (fun c6 => ?_) (fun c6 => ?_)
  · unfold sBands at hp
    obtain ⟨-, ok1, hC1⟩ := hz1.resolve_right (fun q => absurd q.1 (by omega))
    have ok1 : isW T L wBands p := ok1
    obtain ⟨hm1, hk1, hA1, pa1, pb1⟩ := id hC1
    obtain ⟨nu1, hK1, hN1⟩ := id hk1
    have kb1 := tkK_bd T L (tkB T L p)
    rw [wd_ok ok1] at hp
    refine v_iconst dX5_readsBands_11 ?_
    refine v_istore_2 dX5_readsBands_12 (Nat.le_of_ble_eq_true rfl) rfl ?_
    refine v_iconst dX5_readsBands_13 ?_
    refine v_istore_3 dX5_readsBands_14 (Nat.le_of_ble_eq_true rfl) rfl ?_
    refine v_iload_3 dX5_readsBands_15 ?_
    refine v_iconst dX5_readsBands_16 ?_
    refine v_icmp_ge (tgt := 55) dX5_readsBands_17 rfl ⟨by decide, by decide⟩ ⟨by decide, by decide⟩ (fun c17 => absurd c17 (by decide)) (fun c17 => ?_)
    refine v_aload_0 dX5_readsBands_20 ?_
    refine v_iload_2 dX5_readsBands_21 ?_
    refine v_sipush dX5_readsBands_22 (by decide) ?_
    refine l_X5_42 rfl dX5_readsBands_25 hm1 ⟨Nat.le_of_ble_eq_true rfl, Nat.le_of_ble_eq_true rfl⟩ (Nat.le_of_ble_eq_true rfl) ⟨Nat.le_refl _, Nat.le_refl _⟩ (c_takesNumber hC1 har hbr ⟨by omega, by omega⟩ ⟨by omega, by omega⟩ (fun z2 M2 hf2 hz2 => ?_))
    have hb2 : z2 = 0 ∨ z2 = 1 := by rcases hz2 with ⟨e, _⟩ | ⟨e, _⟩ <;> omega
    have hx2 : FdR r o M M2 := hx1.tr hf2.dr
    have hO2 := hO1.fr (fun c c1 c2 => hf2.2 c (by omega))
    refine v_if_ne (tgt := 33) dX5_readsBands_28 rfl ⟨by omega, by omega⟩ (fun c28 => ?_) (fun c28 => ?_)
    · obtain ⟨-, ok2, hC2⟩ := hz2.resolve_right (fun q => absurd q.1 (by omega))
      obtain ⟨hm2, hk2, hA2, pa2, pb2⟩ := id hC2
      obtain ⟨nu2, hK2, hN2⟩ := id hk2
      have kb2 := tkK_bd T L (tkB T L (tkB T L p))
      rw [nm_ok ok2] at hp
      have nb2 := tkN_bd ok2.1
      refine v_aload_1 dX5_readsBands_33 ?_
      refine v_iload_3 dX5_readsBands_34 ?_
      refine v_aload_0 dX5_readsBands_35 ?_
      refine g_X5_46 rfl dX5_readsBands_36 hm2 ?_
      refine l_X5_49 rfl dX5_readsBands_39 hO2.1 ⟨Nat.le_of_ble_eq_true rfl, Nat.le_of_ble_eq_true rfl⟩ (Nat.le_of_ble_eq_true rfl) ⟨Nat.le_refl _, Nat.le_refl _⟩ (c_putBand hO2 (by decide) (by decide) (fun M3 hO3 hf3 => ?_))
      have hx3 : FdR r o M M3 := hx2.tr hf3.dof
      have hC3 := hC2.fr (hf3.2 _ (by omega)) (hf3.2 _ (by omega)) (hf3.2 _ (by omega)) (hf3.2 _ (by omega))
      obtain ⟨hm3, hk3, hA3, pa3, pb3⟩ := id hC3
      obtain ⟨nu3, hK3, hN3⟩ := id hk3
      have kb3 := tkK_bd T L (tkB T L (tkB T L p))
      refine v_aload_0 dX5_readsBands_42 ?_
      refine g_X5_46 rfl dX5_readsBands_43 hm3 ?_
      refine v_iconst dX5_readsBands_46 ?_
      refine v_iadd dX5_readsBands_47 ?_
      refine v_istore_2 dX5_readsBands_48 (Nat.le_of_ble_eq_true rfl) rfl ?_
      refine v_iinc_3 dX5_readsBands_49 (Nat.le_of_ble_eq_true rfl) rfl ?_
      refine v_goto (tgt := 15) dX5_readsBands_52 rfl ?_
      refine v_iload_3 dX5_readsBands_15 ?_
      refine v_iconst dX5_readsBands_16 ?_
      refine v_icmp_ge (tgt := 55) dX5_readsBands_17 rfl ⟨by decide, by decide⟩ ⟨by decide, by decide⟩ (fun c17 => absurd c17 (by decide)) (fun c17 => ?_)
      refine v_aload_0 dX5_readsBands_20 ?_
      refine v_iload_2 dX5_readsBands_21 ?_
      refine v_sipush dX5_readsBands_22 (by decide) ?_
      refine l_X5_42 rfl dX5_readsBands_25 hm3 ⟨Nat.le_of_ble_eq_true rfl, Nat.le_of_ble_eq_true rfl⟩ (Nat.le_of_ble_eq_true rfl) ⟨Nat.le_refl _, Nat.le_refl _⟩ (c_takesNumber hC3 har hbr ⟨by omega, by omega⟩ ⟨by omega, by omega⟩ (fun z4 M4 hf4 hz4 => ?_))
      have hb4 : z4 = 0 ∨ z4 = 1 := by rcases hz4 with ⟨e, _⟩ | ⟨e, _⟩ <;> omega
      have hx4 : FdR r o M M4 := hx3.tr hf4.dr
      have hO4 := hO3.fr (fun c c1 c2 => hf4.2 c (by omega))
      refine v_if_ne (tgt := 33) dX5_readsBands_28 rfl ⟨by omega, by omega⟩ (fun c28 => ?_) (fun c28 => ?_)
      · obtain ⟨-, ok4, hC4⟩ := hz4.resolve_right (fun q => absurd q.1 (by omega))
        obtain ⟨hm4, hk4, hA4, pa4, pb4⟩ := id hC4
        obtain ⟨nu4, hK4, hN4⟩ := id hk4
        have kb4 := tkK_bd T L (tkB T L (tkB T L (tkB T L p)))
        rw [nm_ok ok4] at hp
        have nb4 := tkN_bd ok4.1
        refine v_aload_1 dX5_readsBands_33 ?_
        refine v_iload_3 dX5_readsBands_34 ?_
        refine v_aload_0 dX5_readsBands_35 ?_
        refine g_X5_46 rfl dX5_readsBands_36 hm4 ?_
        refine l_X5_49 rfl dX5_readsBands_39 hO4.1 ⟨Nat.le_of_ble_eq_true rfl, Nat.le_of_ble_eq_true rfl⟩ (Nat.le_of_ble_eq_true rfl) ⟨Nat.le_refl _, Nat.le_refl _⟩ (c_putBand hO4 (by decide) (by decide) (fun M5 hO5 hf5 => ?_))
        have hx5 : FdR r o M M5 := hx4.tr hf5.dof
        have hC5 := hC4.fr (hf5.2 _ (by omega)) (hf5.2 _ (by omega)) (hf5.2 _ (by omega)) (hf5.2 _ (by omega))
        obtain ⟨hm5, hk5, hA5, pa5, pb5⟩ := id hC5
        obtain ⟨nu5, hK5, hN5⟩ := id hk5
        have kb5 := tkK_bd T L (tkB T L (tkB T L (tkB T L p)))
        refine v_aload_0 dX5_readsBands_42 ?_
        refine g_X5_46 rfl dX5_readsBands_43 hm5 ?_
        refine v_iconst dX5_readsBands_46 ?_
        refine v_iadd dX5_readsBands_47 ?_
        refine v_istore_2 dX5_readsBands_48 (Nat.le_of_ble_eq_true rfl) rfl ?_
        refine v_iinc_3 dX5_readsBands_49 (Nat.le_of_ble_eq_true rfl) rfl ?_
        refine v_goto (tgt := 15) dX5_readsBands_52 rfl ?_
        refine v_iload_3 dX5_readsBands_15 ?_
        refine v_iconst dX5_readsBands_16 ?_
        refine v_icmp_ge (tgt := 55) dX5_readsBands_17 rfl ⟨by decide, by decide⟩ ⟨by decide, by decide⟩ (fun c17 => absurd c17 (by decide)) (fun c17 => ?_)
        refine v_aload_0 dX5_readsBands_20 ?_
        refine v_iload_2 dX5_readsBands_21 ?_
        refine v_sipush dX5_readsBands_22 (by decide) ?_
        refine l_X5_42 rfl dX5_readsBands_25 hm5 ⟨Nat.le_of_ble_eq_true rfl, Nat.le_of_ble_eq_true rfl⟩ (Nat.le_of_ble_eq_true rfl) ⟨Nat.le_refl _, Nat.le_refl _⟩ (c_takesNumber hC5 har hbr ⟨by omega, by omega⟩ ⟨by omega, by omega⟩ (fun z6 M6 hf6 hz6 => ?_))
        have hb6 : z6 = 0 ∨ z6 = 1 := by rcases hz6 with ⟨e, _⟩ | ⟨e, _⟩ <;> omega
        have hx6 : FdR r o M M6 := hx5.tr hf6.dr
        have hO6 := hO5.fr (fun c c1 c2 => hf6.2 c (by omega))
        refine v_if_ne (tgt := 33) dX5_readsBands_28 rfl ⟨by omega, by omega⟩ (fun c28 => ?_) (fun c28 => ?_)
        · obtain ⟨-, ok6, hC6⟩ := hz6.resolve_right (fun q => absurd q.1 (by omega))
          obtain ⟨hm6, hk6, hA6, pa6, pb6⟩ := id hC6
          obtain ⟨nu6, hK6, hN6⟩ := id hk6
          have kb6 := tkK_bd T L (tkB T L (tkB T L (tkB T L (tkB T L p))))
          rw [nm_ok ok6] at hp
          have nb6 := tkN_bd ok6.1
          refine v_aload_1 dX5_readsBands_33 ?_
          refine v_iload_3 dX5_readsBands_34 ?_
          refine v_aload_0 dX5_readsBands_35 ?_
          refine g_X5_46 rfl dX5_readsBands_36 hm6 ?_
          refine l_X5_49 rfl dX5_readsBands_39 hO6.1 ⟨Nat.le_of_ble_eq_true rfl, Nat.le_of_ble_eq_true rfl⟩ (Nat.le_of_ble_eq_true rfl) ⟨Nat.le_refl _, Nat.le_refl _⟩ (c_putBand hO6 (by decide) (by decide) (fun M7 hO7 hf7 => ?_))
          have hx7 : FdR r o M M7 := hx6.tr hf7.dof
          have hC7 := hC6.fr (hf7.2 _ (by omega)) (hf7.2 _ (by omega)) (hf7.2 _ (by omega)) (hf7.2 _ (by omega))
          obtain ⟨hm7, hk7, hA7, pa7, pb7⟩ := id hC7
          obtain ⟨nu7, hK7, hN7⟩ := id hk7
          have kb7 := tkK_bd T L (tkB T L (tkB T L (tkB T L (tkB T L p))))
          refine v_aload_0 dX5_readsBands_42 ?_
          refine g_X5_46 rfl dX5_readsBands_43 hm7 ?_
          refine v_iconst dX5_readsBands_46 ?_
          refine v_iadd dX5_readsBands_47 ?_
          refine v_istore_2 dX5_readsBands_48 (Nat.le_of_ble_eq_true rfl) rfl ?_
          refine v_iinc_3 dX5_readsBands_49 (Nat.le_of_ble_eq_true rfl) rfl ?_
          refine v_goto (tgt := 15) dX5_readsBands_52 rfl ?_
          refine v_iload_3 dX5_readsBands_15 ?_
          refine v_iconst dX5_readsBands_16 ?_
          refine v_icmp_ge (tgt := 55) dX5_readsBands_17 rfl ⟨by decide, by decide⟩ ⟨by decide, by decide⟩ (fun c17 => ?_) (fun c17 => absurd c17 (by decide))
          refine v_aload_0 dX5_readsBands_55 ?_
          refine l_X5_55 rfl dX5_readsBands_56 hm7 ⟨Nat.le_of_ble_eq_true rfl, Nat.le_of_ble_eq_true rfl⟩ (Nat.le_of_ble_eq_true rfl) ⟨Nat.le_refl _, Nat.le_refl _⟩ (c_takesSemi hC7 har hbr (fun z8 M8 hf8 hz8 => ?_))
          have hb8 : z8 = 0 ∨ z8 = 1 := by rcases hz8 with ⟨e, _⟩ | ⟨e, _⟩ <;> omega
          have hx8 : FdR r o M M8 := hx7.tr hf8.dr
          have hO8 := hO7.fr (fun c c1 c2 => hf8.2 c (by omega))
          exact v_zret dX5_readsBands_59 rfl (Nat.le_refl _) (Nat.le_refl _) hb8 (cl_fin hz8 hO8 hx8 hp)
        · obtain ⟨-, ff6, no6, hF6⟩ := hz6.resolve_left (fun q => absurd q.1 (by omega))
          rw [nm_no no6] at hp
          refine v_iconst dX5_readsBands_31 ?_
          exact v_zret dX5_readsBands_32 rfl (Nat.le_refl _) (Nat.le_refl _) (Or.inl rfl) (hp _ hF6 ⟨_, hO6⟩ hx6)
      · obtain ⟨-, ff4, no4, hF4⟩ := hz4.resolve_left (fun q => absurd q.1 (by omega))
        rw [nm_no no4] at hp
        refine v_iconst dX5_readsBands_31 ?_
        exact v_zret dX5_readsBands_32 rfl (Nat.le_refl _) (Nat.le_refl _) (Or.inl rfl) (hp _ hF4 ⟨_, hO4⟩ hx4)
    · obtain ⟨-, ff2, no2, hF2⟩ := hz2.resolve_left (fun q => absurd q.1 (by omega))
      rw [nm_no no2] at hp
      refine v_iconst dX5_readsBands_31 ?_
      exact v_zret dX5_readsBands_32 rfl (Nat.le_refl _) (Nat.le_refl _) (Or.inl rfl) (hp _ hF2 ⟨_, hO2⟩ hx2)
  · unfold sBands at hp
    obtain ⟨-, no1, hF1⟩ := hz1.resolve_left (fun q => absurd q.1 (by omega))
    have no1 : ¬ isW T L wBands p := no1
    rw [wd_no no1] at hp
    refine v_iconst dX5_readsBands_9 ?_
    exact v_zret dX5_readsBands_10 rfl (Nat.le_refl _) (Nat.le_refl _) (Or.inl rfl) (hp _ hF1 ⟨_, hO1⟩ hx1)

set_option maxRecDepth 100000 in
theorem c_readsShare {E : Ev} {M : Mem} {Post : Option Value → Mem → Prop} {r a b o : Nat} {T : Int → Int} {L p ln fk fp tk td : Int} {w : Int → Int} (hC : CO E M r a b T L p ln fk fp tk td) (hO : OffAt E M o w) (har : a < r ∨ r + 2 ≤ a) (hbr : b < r ∨ r + 2 ≤ b) (hro : r + 2 ≤ o ∨ o + 26 ≤ r) (hao : a < o ∨ o + 26 ≤ a) (hbo : b < o ∨ o + 26 ≤ b) (h5 : P5 w) (hp : CP E r a b T L o (ln + 1) fk fp td M Post (sShare T L p w)) : Cn E rX5_readsShare mX5_readsShare [rr E r, rr E o] M Post := by
  obtain ⟨hm, hk, hA, pa, pb⟩ := id hC
  obtain ⟨nu, hK, hN⟩ := id hk
  have kb := tkK_bd T L p
  refine Cn.of (L := [some (rr E r), some (rr E o)]) (by decide) (Nat.le_of_ble_eq_true rfl) rfl ?_
  refine v_aload_0 dX5_readsShare_0 ?_
  refine v_ldcS (i := 1) (by decide) rfl rfl dX5_readsShare_1 ?_
  refine l_X5_38 rfl dX5_readsShare_3 hm ⟨Nat.le_of_ble_eq_true rfl, Nat.le_of_ble_eq_true rfl⟩ (Nat.le_of_ble_eq_true rfl) ⟨Nat.le_refl _, Nat.le_refl _⟩ (c_takesWord hC har hbr (i := 1) (by decide) (fun z1 M1 hf1 hz1 => ?_))
  have hb1 : z1 = 0 ∨ z1 = 1 := by rcases hz1 with ⟨e, _⟩ | ⟨e, _⟩ <;> omega
  have hx1 : FdR r o M M1 := FdR.rf.tr hf1.dr
  have hO1 := hO.fr (fun c c1 c2 => hf1.2 c (by omega))
  refine v_if_eq (tgt := 19) dX5_readsShare_6 rfl ⟨by omega, by omega⟩ (fun c6 => ?_) (fun c6 => ?_)
  · unfold sShare at hp
    obtain ⟨-, no1, hF1⟩ := hz1.resolve_left (fun q => absurd q.1 (by omega))
    have no1 : ¬ isW T L wSmooth p := no1
    rw [wd_no no1] at hp
    refine v_iconst dX5_readsShare_19 ?_
    exact v_zret dX5_readsShare_20 rfl (Nat.le_refl _) (Nat.le_refl _) (Or.inl rfl) (hp _ hF1 ⟨_, hO1⟩ hx1)
  · unfold sShare at hp
    obtain ⟨-, ok1, hC1⟩ := hz1.resolve_right (fun q => absurd q.1 (by omega))
    have ok1 : isW T L wSmooth p := ok1
    obtain ⟨hm1, hk1, hA1, pa1, pb1⟩ := id hC1
    obtain ⟨nu1, hK1, hN1⟩ := id hk1
    have kb1 := tkK_bd T L (tkB T L p)
    rw [wd_ok ok1] at hp
    refine v_aload_0 dX5_readsShare_9 ?_
    refine v_iconst dX5_readsShare_10 ?_
    refine v_bipush dX5_readsShare_11 (by decide) ?_
    refine l_X5_42 rfl dX5_readsShare_13 hm1 ⟨Nat.le_of_ble_eq_true rfl, Nat.le_of_ble_eq_true rfl⟩ (Nat.le_of_ble_eq_true rfl) ⟨Nat.le_refl _, Nat.le_refl _⟩ (c_takesNumber hC1 har hbr ⟨by omega, by omega⟩ ⟨by omega, by omega⟩ (fun z2 M2 hf2 hz2 => ?_))
    have hb2 : z2 = 0 ∨ z2 = 1 := by rcases hz2 with ⟨e, _⟩ | ⟨e, _⟩ <;> omega
    have hx2 : FdR r o M M2 := hx1.tr hf2.dr
    have hO2 := hO1.fr (fun c c1 c2 => hf2.2 c (by omega))
    refine v_if_ne (tgt := 21) dX5_readsShare_16 rfl ⟨by omega, by omega⟩ (fun c16 => ?_) (fun c16 => ?_)
    · obtain ⟨-, ok2, hC2⟩ := hz2.resolve_right (fun q => absurd q.1 (by omega))
      obtain ⟨hm2, hk2, hA2, pa2, pb2⟩ := id hC2
      obtain ⟨nu2, hK2, hN2⟩ := id hk2
      have kb2 := tkK_bd T L (tkB T L (tkB T L p))
      rw [nm_ok ok2] at hp
      have nb2 := tkN_bd ok2.1
      refine v_aload_1 dX5_readsShare_21 ?_
      refine v_aload_0 dX5_readsShare_22 ?_
      refine g_X5_46 rfl dX5_readsShare_23 hm2 ?_
      refine p_X5_61 rfl dX5_readsShare_26 hO2.1 ?_
      have hO3 := hO2.hdr2 h5 (w2 := upI w 3 (tkN T L (tkB T L p))) (fun j j0 j3 => upI_n w _ j3) (upI_s w 3 _) (upI_n w _ (by decide))
      have hf3 : Fr o (o + 26) M2 (M2.set o (ob 2 [rr E (o + 1), rr E (o + 2), rr E (o + 3), rr E (o + 4), iv (tkN T L (tkB T L p)), iv (w 1), iv (w 2), iv (w 0)])) := Fr.set (by omega) (by omega)
      have hx3 : FdR r o M _ := hx2.tr hf3.dof
      have hC3 := hC2.fr (hf3.2 _ (by omega)) (hf3.2 _ (by omega)) (hf3.2 _ (by omega)) (hf3.2 _ (by omega))
      obtain ⟨hm3, hk3, hA3, pa3, pb3⟩ := id hC3
      obtain ⟨nu3, hK3, hN3⟩ := id hk3
      have kb3 := tkK_bd T L (tkB T L (tkB T L p))
      refine v_aload_0 dX5_readsShare_29 ?_
      refine l_X5_55 rfl dX5_readsShare_30 hm3 ⟨Nat.le_of_ble_eq_true rfl, Nat.le_of_ble_eq_true rfl⟩ (Nat.le_of_ble_eq_true rfl) ⟨Nat.le_refl _, Nat.le_refl _⟩ (c_takesSemi hC3 har hbr (fun z4 M4 hf4 hz4 => ?_))
      have hb4 : z4 = 0 ∨ z4 = 1 := by rcases hz4 with ⟨e, _⟩ | ⟨e, _⟩ <;> omega
      have hx4 : FdR r o M M4 := hx3.tr hf4.dr
      have hO4 := hO3.fr (fun c c1 c2 => hf4.2 c (by omega))
      exact v_zret dX5_readsShare_33 rfl (Nat.le_refl _) (Nat.le_refl _) hb4 (cl_fin hz4 hO4 hx4 hp)
    · obtain ⟨-, ff2, no2, hF2⟩ := hz2.resolve_left (fun q => absurd q.1 (by omega))
      rw [nm_no no2] at hp
      refine v_iconst dX5_readsShare_19 ?_
      exact v_zret dX5_readsShare_20 rfl (Nat.le_refl _) (Nat.le_refl _) (Or.inl rfl) (hp _ hF2 ⟨_, hO2⟩ hx2)
