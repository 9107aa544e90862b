/-! the class reads a text -/
def CO (E : Ev) (M : Mem) (r a b : Nat) (T : Int → Int) (L p ln fk fp tk td : Int) : Prop := M[r]? = some (ob 5 [rr E (r + 1), iv ln, iv fk, iv fp, iv tk, iv td]) ∧ TkAt E M (r + 1) a T L p ∧ TA E M a b T L ∧ 0 ≤ p ∧ p ≤ L
def CF (E : Ev) (M : Mem) (r a b : Nat) (T : Int → Int) (L f pl : Int) : Prop := ∃ ln tk td p : Int, M[r]? = some (ob 5 [rr E (r + 1), iv ln, iv f, iv pl, iv tk, iv td]) ∧ TkAt E M (r + 1) a T L p ∧ TA E M a b T L
theorem TkAt.fr {E : Ev} {M M2 : Mem} {t a : Nat} {T : Int → Int} {L p : Int} (h : TkAt E M t a T L p) (e : M2[t]? = M[t]?) : TkAt E M2 t a T L p := by
  obtain ⟨z, h1, h2⟩ := h
  exact ⟨z, e.trans h1, h2⟩
theorem TA.fr {E : Ev} {M M2 : Mem} {a b : Nat} {T : Int → Int} {L : Int} (h : TA E M a b T L) (e1 : M2[a]? = M[a]?) (e2 : M2[b]? = M[b]?) : TA E M2 a b T L := by
  obtain ⟨h1, ⟨cb, h2, h3⟩, h4⟩ := h
  exact ⟨e1.trans h1, ⟨cb, e2.trans h2, h3⟩, h4⟩

set_option maxRecDepth 100000 in
theorem c_refuses {E : Ev} {M : Mem} {Post : Option Value → Mem → Prop} {r a b : Nat} {T : Int → Int} {L p ln fk fp tk td : Int} (hC : CO E M r a b T L p ln fk fp tk td) (har : a < r ∨ r + 2 ≤ a) (hbr : b < r ∨ r + 2 ≤ b) {x : Int} (hp : ∀ M2, CF E M2 r a b T L x (tkS T L p) → Fr r (r + 2) M M2 → Post (some (iv 0)) M2) : Cn E rX5_refuses mX5_refuses [rr E r, iv x] M Post := by
  obtain ⟨hm, hk, hA, pa, pb⟩ := id hC
  obtain ⟨nu, hK, hN⟩ := id hk
  have kb := tkK_bd T L p
  have hnb := fun q : tkK T L p = 2 => tkN_bd q
  have sb := tkS_bd (T := T) pa pb hA.2.2.2.2
  have bb := tkB_bd (T := T) pa pb
  refine Cn.of (L := [some (rr E r), some (iv x)]) (by decide) (Nat.le_of_ble_eq_true rfl) rfl ?_
  refine v_aload_0 dX5_refuses_0 ?_
  refine v_iload_1 dX5_refuses_1 ?_
  refine p_X5_24 rfl dX5_refuses_2 hm ?_
  refine v_aload_0 dX5_refuses_5 ?_
  refine v_aload_0 dX5_refuses_6 ?_
  refine g_X5_14 rfl dX5_refuses_7 (gs_eq hm) ?_
  refine g_X5_141 rfl dX5_refuses_10 (gs_ne (by omega) hK) ?_
  refine p_X5_27 rfl dX5_refuses_13 (gs_eq hm) ?_
  rw [gs_gs]
  refine v_iconst dX5_refuses_16 ?_
  exact v_zret dX5_refuses_17 rfl (Nat.le_refl _) (Nat.le_refl _) (Or.inl rfl) (hp _ ⟨ln, tk, td, p, gs_eq hm, hk.fr (List.getElem?_set_ne (by omega)), hA.fr (List.getElem?_set_ne (by omega)) (List.getElem?_set_ne (by omega))⟩ (Fr.set (Nat.le_refl r) (by omega)))

theorem c_next {E : Ev} {M : Mem} {Post : Option Value → Mem → Prop} {r a b : Nat} {T : Int → Int} {L p ln fk fp tk td : Int} (hC : CO E M r a b T L p ln fk fp tk td) (har : a < r ∨ r + 2 ≤ a) (hbr : b < r ∨ r + 2 ≤ b) (hp : ∀ M2, CO E M2 r a b T L (tkB T L p) ln fk fp tk td → Fr (r + 1) (r + 2) M M2 → Post none M2) : Cn E rX6_moveToNext mX6_moveToNext [rr E (r + 1)] M Post := by
  obtain ⟨hm, hk, hA, pa, pb⟩ := id hC
  obtain ⟨nu, hK, hN⟩ := id hk
  have kb := tkK_bd T L p
  have hnb := fun q : tkK T L p = 2 => tkN_bd q
  have sb := tkS_bd (T := T) pa pb hA.2.2.2.2
  have bb := tkB_bd (T := T) pa pb
  exact c_X6_moveToNext hA (by omega) hK bb.1 bb.2 (fun M2 h1 h2 => hp M2 ⟨h2.at hm (by omega), h1, hA.fr (h2.2 _ (by omega)) (h2.2 _ (by omega)), bb.1, bb.2⟩ h2)

set_option maxRecDepth 100000 in
theorem c_within {E : Ev} {M : Mem} {Post : Option Value → Mem → Prop} {r a b : Nat} {T : Int → Int} {L p ln fk fp tk td : Int} (hC : CO E M r a b T L p ln fk fp tk td) (har : a < r ∨ r + 2 ≤ a) (hbr : b < r ∨ r + 2 ≤ b) {lo hi : Int} (hlo : I32 lo) (hhi : I32 hi) (hp : ∀ (z : Int) (M2 : Mem), Fr r (r + 2) M M2 → ((z = 1 ∧ nmOk T L p lo hi ∧ M2 = M) ∨ (z = 0 ∧ ∃ f, nmNo T L p lo hi f ∧ CF E M2 r a b T L f (tkS T L p))) → Post (some (iv z)) M2) : Cn E rX5_isNumberWithin mX5_isNumberWithin [rr E r, iv lo, iv hi] M Post := by
  obtain ⟨hm, hk, hA, pa, pb⟩ := id hC
  obtain ⟨nu, hK, hN⟩ := id hk
  have kb := tkK_bd T L p
  have hnb := fun q : tkK T L p = 2 => tkN_bd q
  have sb := tkS_bd (T := T) pa pb hA.2.2.2.2
  have bb := tkB_bd (T := T) pa pb
  refine Cn.of (L := [some (rr E r), some (iv lo), some (iv hi)]) (by decide) (Nat.le_of_ble_eq_true rfl) rfl ?_
  refine v_aload_0 dX5_isNumberWithin_0 ?_
  refine g_X5_14 rfl dX5_isNumberWithin_1 hm ?_
  refine g_X5_85 rfl dX5_isNumberWithin_4 hK ?_
  refine v_iconst dX5_isNumberWithin_7 ?_
  refine v_icmp_eq (tgt := 17) dX5_isNumberWithin_8 rfl ⟨by omega, by omega⟩ ⟨by omega, by omega⟩ (fun c8 => ?_) (fun c8 => ?_)
  · refine v_aload_0 dX5_isNumberWithin_17 ?_
    refine g_X5_14 rfl dX5_isNumberWithin_18 hm ?_
    refine g_X5_113 rfl dX5_isNumberWithin_21 hK ?_
    rw [hN c8]
    have hnb := hnb c8
    refine v_iload_1 dX5_isNumberWithin_24 ?_
    refine v_icmp_lt (tgt := 39) dX5_isNumberWithin_25 rfl ⟨by omega, by omega⟩ hlo (fun c25 => ?_) (fun c25 => ?_)
    · refine v_aload_0 dX5_isNumberWithin_39 ?_
      refine v_iconst dX5_isNumberWithin_40 ?_
      refine l_X5_73 rfl dX5_isNumberWithin_41 hm ⟨Nat.le_of_ble_eq_true rfl, Nat.le_of_ble_eq_true rfl⟩ (Nat.le_of_ble_eq_true rfl) ⟨Nat.le_refl _, Nat.le_refl _⟩ (c_refuses hC har hbr (fun M2 hF hf => ?_))
      refine v_if_eq (tgt := 51) dX5_isNumberWithin_44 rfl ⟨by decide, by decide⟩ (fun c44 => ?_) (fun c44 => absurd c44 (by decide))
      refine v_iconst dX5_isNumberWithin_51 ?_
      exact v_zret dX5_isNumberWithin_52 rfl (Nat.le_refl _) (Nat.le_refl _) (Or.inl rfl) (hp 0 M2 hf (Or.inr ⟨rfl, 2, Or.inr ⟨c8, by omega, rfl⟩, hF⟩))
    · refine v_aload_0 dX5_isNumberWithin_28 ?_
      refine g_X5_14 rfl dX5_isNumberWithin_29 hm ?_
      refine g_X5_113 rfl dX5_isNumberWithin_32 hK ?_
      rw [hN c8]
      refine v_iload_2 dX5_isNumberWithin_35 ?_
      refine v_icmp_le (tgt := 47) dX5_isNumberWithin_36 rfl ⟨by omega, by omega⟩ hhi (fun c36 => ?_) (fun c36 => ?_)
      · refine v_iconst dX5_isNumberWithin_47 ?_
        refine v_goto (tgt := 52) dX5_isNumberWithin_48 rfl ?_
        exact v_zret dX5_isNumberWithin_52 rfl (Nat.le_refl _) (Nat.le_refl _) (Or.inr rfl) (hp 1 M Fr.rf (Or.inl ⟨rfl, ⟨c8, by omega, by omega⟩, rfl⟩))
      · refine v_aload_0 dX5_isNumberWithin_39 ?_
        refine v_iconst dX5_isNumberWithin_40 ?_
        refine l_X5_73 rfl dX5_isNumberWithin_41 hm ⟨Nat.le_of_ble_eq_true rfl, Nat.le_of_ble_eq_true rfl⟩ (Nat.le_of_ble_eq_true rfl) ⟨Nat.le_refl _, Nat.le_refl _⟩ (c_refuses hC har hbr (fun M2 hF hf => ?_))
        refine v_if_eq (tgt := 51) dX5_isNumberWithin_44 rfl ⟨by decide, by decide⟩ (fun c44 => ?_) (fun c44 => absurd c44 (by decide))
        refine v_iconst dX5_isNumberWithin_51 ?_
        exact v_zret dX5_isNumberWithin_52 rfl (Nat.le_refl _) (Nat.le_refl _) (Or.inl rfl) (hp 0 M2 hf (Or.inr ⟨rfl, 2, Or.inr ⟨c8, by omega, rfl⟩, hF⟩))
  · refine v_aload_0 dX5_isNumberWithin_11 ?_
    refine v_iconst dX5_isNumberWithin_12 ?_
    refine l_X5_73 rfl dX5_isNumberWithin_13 hm ⟨Nat.le_of_ble_eq_true rfl, Nat.le_of_ble_eq_true rfl⟩ (Nat.le_of_ble_eq_true rfl) ⟨Nat.le_refl _, Nat.le_refl _⟩ (c_refuses hC har hbr (fun M2 hF hf => ?_))
    exact v_zret dX5_isNumberWithin_16 rfl (Nat.le_refl _) (Nat.le_refl _) (Or.inl rfl) (hp 0 M2 hf (Or.inr ⟨rfl, 1, Or.inl ⟨c8, rfl⟩, hF⟩))

set_option maxRecDepth 100000 in
theorem c_takesNumber {E : Ev} {M : Mem} {Post : Option Value → Mem → Prop} {r a b : Nat} {T : Int → Int} {L p ln fk fp tk td : Int} (hC : CO E M r a b T L p ln fk fp tk td) (har : a < r ∨ r + 2 ≤ a) (hbr : b < r ∨ r + 2 ≤ b) {lo hi : Int} (hlo : I32 lo) (hhi : I32 hi) (hp : ∀ (z : Int) (M2 : Mem), Fr r (r + 2) M M2 → ((z = 1 ∧ nmOk T L p lo hi ∧ CO E M2 r a b T L (tkB T L p) ln fk fp (tkN T L p) td) ∨ (z = 0 ∧ ∃ f, nmNo T L p lo hi f ∧ CF E M2 r a b T L f (tkS T L p))) → Post (some (iv z)) M2) : Cn E rX5_takesNumber mX5_takesNumber [rr E r, iv lo, iv hi] M Post := by
  obtain ⟨hm, hk, hA, pa, pb⟩ := id hC
  obtain ⟨nu, hK, hN⟩ := id hk
  have kb := tkK_bd T L p
  have hnb := fun q : tkK T L p = 2 => tkN_bd q
  have sb := tkS_bd (T := T) pa pb hA.2.2.2.2
  have bb := tkB_bd (T := T) pa pb
  refine Cn.of (L := [some (rr E r), some (iv lo), some (iv hi)]) (by decide) (Nat.le_of_ble_eq_true rfl) rfl ?_
  refine v_aload_0 dX5_takesNumber_0 ?_
  refine v_iload_1 dX5_takesNumber_1 ?_
  refine v_iload_2 dX5_takesNumber_2 ?_
  refine l_X5_93 rfl dX5_takesNumber_3 hm ⟨Nat.le_of_ble_eq_true rfl, Nat.le_of_ble_eq_true rfl⟩ (Nat.le_of_ble_eq_true rfl) ⟨Nat.le_refl _, Nat.le_refl _⟩ (c_within hC har hbr hlo hhi (fun z M2 hf hz => ?_))
  have hb : z = 0 ∨ z = 1 := by rcases hz with ⟨e, _⟩ | ⟨e, _⟩ <;> omega
  refine v_if_ne (tgt := 11) dX5_takesNumber_6 rfl ⟨by omega, by omega⟩ (fun c6 => ?_) (fun c6 => ?_)
  · obtain ⟨-, ok, e2⟩ := hz.resolve_right (fun q => absurd q.1 (by omega))
    subst e2
    refine v_aload_0 dX5_takesNumber_11 ?_
    refine v_aload_0 dX5_takesNumber_12 ?_
    refine g_X5_14 rfl dX5_takesNumber_13 hm ?_
    refine g_X5_113 rfl dX5_takesNumber_16 hK ?_
    refine p_X5_46 rfl dX5_takesNumber_19 hm ?_
    rw [hN ok.1]
    have hC3 : CO E _ r a b T L p ln fk fp (tkN T L p) td := ⟨gs_eq (c := ob 5 [rr E (r + 1), iv ln, iv fk, iv fp, iv (tkN T L p), iv td]) hm, hk.fr (List.getElem?_set_ne (by omega)), hA.fr (List.getElem?_set_ne (by omega)) (List.getElem?_set_ne (by omega)), pa, pb⟩
    refine v_aload_0 dX5_takesNumber_22 ?_
    refine g_X5_14 rfl dX5_takesNumber_23 (gs_eq hm) ?_
    refine l_X5_116 rfl dX5_takesNumber_26 (gs_ne (by omega) hK) ⟨Nat.le_of_ble_eq_true rfl, Nat.le_of_ble_eq_true rfl⟩ (Nat.le_of_ble_eq_true rfl) ⟨Nat.le_refl _, Nat.le_refl _⟩ (c_next hC3 har hbr (fun M4 hC4 hf4 => ?_))
    refine v_iconst dX5_takesNumber_29 ?_
    exact v_zret dX5_takesNumber_30 rfl (Nat.le_refl _) (Nat.le_refl _) (Or.inr rfl) (hp 1 M4 (Fr.tr (Fr.set (Nat.le_refl r) (by omega)) (hf4.wide (by omega) (by omega))) (Or.inl ⟨rfl, ok, hC4⟩))
  · have hz := hz.resolve_left (fun q => absurd q.1 (by omega))
    refine v_iconst dX5_takesNumber_9 ?_
    exact v_zret dX5_takesNumber_10 rfl (Nat.le_refl _) (Nat.le_refl _) (Or.inl rfl) (hp 0 M2 hf (Or.inr ⟨rfl, hz.2⟩))

set_option maxRecDepth 100000 in
theorem c_takesSemi {E : Ev} {M : Mem} {Post : Option Value → Mem → Prop} {r a b : Nat} {T : Int → Int} {L p ln fk fp tk td : Int} (hC : CO E M r a b T L p ln fk fp tk td) (har : a < r ∨ r + 2 ≤ a) (hbr : b < r ∨ r + 2 ≤ b) (hp : ∀ (z : Int) (M2 : Mem), Fr r (r + 2) M M2 → ((z = 1 ∧ tkK T L p = 3 ∧ CO E M2 r a b T L (tkB T L p) (ln + 1) fk fp tk td) ∨ (z = 0 ∧ ¬ tkK T L p = 3 ∧ CF E M2 r a b T L 1 (tkS T L p))) → Post (some (iv z)) M2) : Cn E rX5_takesSemicolon mX5_takesSemicolon [rr E r] M Post := by
  obtain ⟨hm, hk, hA, pa, pb⟩ := id hC
  obtain ⟨nu, hK, hN⟩ := id hk
  have kb := tkK_bd T L p
  have hnb := fun q : tkK T L p = 2 => tkN_bd q
  have sb := tkS_bd (T := T) pa pb hA.2.2.2.2
  have bb := tkB_bd (T := T) pa pb
  refine Cn.of (L := [some (rr E r)]) (by decide) (Nat.le_of_ble_eq_true rfl) rfl ?_
  refine v_aload_0 dX5_takesSemicolon_0 ?_
  refine g_X5_14 rfl dX5_takesSemicolon_1 hm ?_
  refine g_X5_85 rfl dX5_takesSemicolon_4 hK ?_
  refine v_iconst dX5_takesSemicolon_7 ?_
  refine v_icmp_eq (tgt := 17) dX5_takesSemicolon_8 rfl ⟨by omega, by omega⟩ ⟨by omega, by omega⟩ (fun c8 => ?_) (fun c8 => ?_)
  · refine v_aload_0 dX5_takesSemicolon_17 ?_
    refine v_dupr dX5_takesSemicolon_18 ?_
    refine g_X5_20 rfl dX5_takesSemicolon_19 hm ?_
    refine v_iconst dX5_takesSemicolon_22 ?_
    refine v_iadd dX5_takesSemicolon_23 ?_
    refine p_X5_20 rfl dX5_takesSemicolon_24 hm ?_
    have hC3 : CO E _ r a b T L p (ln + 1) fk fp tk td := ⟨gs_eq (c := ob 5 [rr E (r + 1), iv (ln + 1), iv fk, iv fp, iv tk, iv td]) hm, hk.fr (List.getElem?_set_ne (by omega)), hA.fr (List.getElem?_set_ne (by omega)) (List.getElem?_set_ne (by omega)), pa, pb⟩
    refine v_aload_0 dX5_takesSemicolon_27 ?_
    refine g_X5_14 rfl dX5_takesSemicolon_28 (gs_eq hm) ?_
    refine l_X5_116 rfl dX5_takesSemicolon_31 (gs_ne (by omega) hK) ⟨Nat.le_of_ble_eq_true rfl, Nat.le_of_ble_eq_true rfl⟩ (Nat.le_of_ble_eq_true rfl) ⟨Nat.le_refl _, Nat.le_refl _⟩ (c_next hC3 har hbr (fun M4 hC4 hf4 => ?_))
    refine v_iconst dX5_takesSemicolon_34 ?_
    exact v_zret dX5_takesSemicolon_35 rfl (Nat.le_refl _) (Nat.le_refl _) (Or.inr rfl) (hp 1 M4 (Fr.tr (Fr.set (Nat.le_refl r) (by omega)) (hf4.wide (by omega) (by omega))) (Or.inl ⟨rfl, c8, hC4⟩))
  · refine v_aload_0 dX5_takesSemicolon_11 ?_
    refine v_iconst dX5_takesSemicolon_12 ?_
    refine l_X5_73 rfl dX5_takesSemicolon_13 hm ⟨Nat.le_of_ble_eq_true rfl, Nat.le_of_ble_eq_true rfl⟩ (Nat.le_of_ble_eq_true rfl) ⟨Nat.le_refl _, Nat.le_refl _⟩ (c_refuses hC har hbr (fun M2 hF hf => ?_))
    exact v_zret dX5_takesSemicolon_16 rfl (Nat.le_refl _) (Nat.le_refl _) (Or.inl rfl) (hp 0 M2 hf (Or.inr ⟨rfl, c8, hF⟩))

set_option maxRecDepth 100000 in
theorem c_takesWord {E : Ev} {M : Mem} {Post : Option Value → Mem → Prop} {r a b : Nat} {T : Int → Int} {L p ln fk fp tk td : Int} (hC : CO E M r a b T L p ln fk fp tk td) (har : a < r ∨ r + 2 ≤ a) (hbr : b < r ∨ r + 2 ≤ b) {i : Nat} (hi : i < 6) (hp : ∀ (z : Int) (M2 : Mem), Fr r (r + 2) M M2 → ((z = 1 ∧ isW T L (wS.getD i []) p ∧ CO E M2 r a b T L (tkB T L p) ln fk fp tk td) ∨ (z = 0 ∧ ¬ isW T L (wS.getD i []) p ∧ CF E M2 r a b T L 1 (tkS T L p))) → Post (some (iv z)) M2) : Cn E rX5_takesWord mX5_takesWord [rr E r, xr (E.aK i)] M Post := by
  obtain ⟨hm, hk, hA, pa, pb⟩ := id hC
  obtain ⟨nu, hK, hN⟩ := id hk
  have kb := tkK_bd T L p
  have hnb := fun q : tkK T L p = 2 => tkN_bd q
  have sb := tkS_bd (T := T) pa pb hA.2.2.2.2
  have bb := tkB_bd (T := T) pa pb
  refine Cn.of (L := [some (rr E r), some (xr (E.aK i))]) (by decide) (Nat.le_of_ble_eq_true rfl) rfl ?_
  refine v_aload_0 dX5_takesWord_0 ?_
  refine g_X5_14 rfl dX5_takesWord_1 hm ?_
  refine v_axload_1 dX5_takesWord_4 ?_
  refine l_X5_66 rfl dX5_takesWord_5 hK ⟨Nat.le_of_ble_eq_true rfl, Nat.le_of_ble_eq_true rfl⟩ (Nat.le_of_ble_eq_true rfl) ⟨Nat.le_refl _, Nat.le_refl _⟩ (c_X6_isWord hA hk pa pb hi ?_)
  refine v_ifne_b (tgt := 17) dX5_takesWord_8 rfl (fun c8 => ?_) (fun c8 => ?_)
  · refine v_aload_0 dX5_takesWord_17 ?_
    refine g_X5_14 rfl dX5_takesWord_18 hm ?_
    refine l_X5_116 rfl dX5_takesWord_21 hK ⟨Nat.le_of_ble_eq_true rfl, Nat.le_of_ble_eq_true rfl⟩ (Nat.le_of_ble_eq_true rfl) ⟨Nat.le_refl _, Nat.le_refl _⟩ (c_next hC har hbr (fun M4 hC4 hf4 => ?_))
    refine v_iconst dX5_takesWord_24 ?_
    exact v_zret dX5_takesWord_25 rfl (Nat.le_refl _) (Nat.le_refl _) (Or.inr rfl) (hp 1 M4 (hf4.wide (by omega) (by omega)) (Or.inl ⟨rfl, c8, hC4⟩))
  · refine v_aload_0 dX5_takesWord_11 ?_
    refine v_iconst dX5_takesWord_12 ?_
    refine l_X5_73 rfl dX5_takesWord_13 hm ⟨Nat.le_of_ble_eq_true rfl, Nat.le_of_ble_eq_true rfl⟩ (Nat.le_of_ble_eq_true rfl) ⟨Nat.le_refl _, Nat.le_refl _⟩ (c_refuses hC har hbr (fun M2 hF hf => ?_))
    exact v_zret dX5_takesWord_16 rfl (Nat.le_refl _) (Nat.le_refl _) (Or.inl rfl) (hp 0 M2 hf (Or.inr ⟨rfl, c8, hF⟩))

set_option maxRecDepth 100000 in
theorem c_isRead {E : Ev} {M : Mem} {Post : Option Value → Mem → Prop} {r a b : Nat} {T : Int → Int} {L p ln fk fp tk td : Int} (hC : CO E M r a b T L p ln fk fp tk td) (har : a < r ∨ r + 2 ≤ a) (hbr : b < r ∨ r + 2 ≤ b) (hp : ∀ (z : Int) (M2 : Mem), Fr r (r + 2) M M2 → ((z = 1 ∧ (isW T L wX p ∨ (¬ isW T L wX p ∧ nmOk T L p 0 999)) ∧ M2 = M) ∨ (z = 0 ∧ ¬ isW T L wX p ∧ ∃ f, nmNo T L p 0 999 f ∧ CF E M2 r a b T L f (tkS T L p))) → Post (some (iv z)) M2) : Cn E rX5_isRead mX5_isRead [rr E r] M Post := by
  obtain ⟨hm, hk, hA, pa, pb⟩ := id hC
  obtain ⟨nu, hK, hN⟩ := id hk
  have kb := tkK_bd T L p
  have hnb := fun q : tkK T L p = 2 => tkN_bd q
  have sb := tkS_bd (T := T) pa pb hA.2.2.2.2
  have bb := tkB_bd (T := T) pa pb
  refine Cn.of (L := [some (rr E r)]) (by decide) (Nat.le_of_ble_eq_true rfl) rfl ?_
  refine v_aload_0 dX5_isRead_0 ?_
  refine g_X5_14 rfl dX5_isRead_1 hm ?_
  refine v_ldcS (i := 5) (by decide) rfl rfl dX5_isRead_4 ?_
  refine l_X5_66 rfl dX5_isRead_6 hK ⟨Nat.le_of_ble_eq_true rfl, Nat.le_of_ble_eq_true rfl⟩ (Nat.le_of_ble_eq_true rfl) ⟨Nat.le_refl _, Nat.le_refl _⟩ (c_X6_isWord hA hk pa pb (by decide) ?_)
  refine v_ifne_b (tgt := 23) dX5_isRead_9 rfl (fun c9 => ?_) (fun c9 => ?_)
  · refine v_iconst dX5_isRead_23 ?_
    refine v_goto (tgt := 28) dX5_isRead_24 rfl ?_
    exact v_zret dX5_isRead_28 rfl (Nat.le_refl _) (Nat.le_refl _) (Or.inr rfl) (hp 1 M Fr.rf (Or.inl ⟨rfl, Or.inl c9, rfl⟩))
  · refine v_aload_0 dX5_isRead_12 ?_
    refine v_iconst dX5_isRead_13 ?_
    refine v_sipush dX5_isRead_14 (by decide) ?_
    refine l_X5_93 rfl dX5_isRead_17 hm ⟨Nat.le_of_ble_eq_true rfl, Nat.le_of_ble_eq_true rfl⟩ (Nat.le_of_ble_eq_true rfl) ⟨Nat.le_refl _, Nat.le_refl _⟩ (c_within hC har hbr ⟨by decide, by decide⟩ ⟨by decide, by decide⟩ (fun z M2 hf hz => ?_))
    have hb : z = 0 ∨ z = 1 := by rcases hz with ⟨e, _⟩ | ⟨e, _⟩ <;> omega
    refine v_if_eq (tgt := 27) dX5_isRead_20 rfl ⟨by omega, by omega⟩ (fun c20 => ?_) (fun c20 => ?_)
    · refine v_iconst dX5_isRead_27 ?_
      exact v_zret dX5_isRead_28 rfl (Nat.le_refl _) (Nat.le_refl _) (Or.inl rfl) (hp 0 M2 hf (Or.inr ⟨rfl, c9, (hz.resolve_left (fun q => absurd q.1 (by omega))).2⟩))
    · refine v_iconst dX5_isRead_23 ?_
      refine v_goto (tgt := 28) dX5_isRead_24 rfl ?_
      exact v_zret dX5_isRead_28 rfl (Nat.le_refl _) (Nat.le_refl _) (Or.inr rfl) (hp 1 M2 hf (Or.inl ⟨rfl, Or.inr ⟨c9, (hz.resolve_right (fun q => absurd q.1 (by omega))).2.1⟩, (hz.resolve_right (fun q => absurd q.1 (by omega))).2.2⟩))

set_option maxRecDepth 100000 in
theorem c_begin {E : Ev} {M : Mem} {Post : Option Value → Mem → Prop} {r a b : Nat} {T : Int → Int} {L ln fk fp tk td k1 k2 k3 k4 : Int} (hm : M[r]? = some (ob 5 [rr E (r + 1), iv ln, iv fk, iv fp, iv tk, iv td])) (hK : M[r + 1]? = some (ob 6 [rr E a, iv k1, iv k2, iv k3, iv k4])) (hA : TA E M a b T L) (har : a < r ∨ r + 2 ≤ a) (hbr : b < r ∨ r + 2 ≤ b) (hp : ∀ M2, CO E M2 r a b T L 0 0 0 0 tk 0 → Fr r (r + 2) M M2 → Post none M2) : Cn E rX5_begin mX5_begin [rr E r] M Post := by
  refine Cn.of (L := [some (rr E r)]) (by decide) (Nat.le_of_ble_eq_true rfl) rfl ?_
  refine v_aload_0 dX5_begin_0 ?_
  refine v_iconst dX5_begin_1 ?_
  refine p_X5_20 rfl dX5_begin_2 hm ?_
  refine v_aload_0 dX5_begin_5 ?_
  refine v_iconst dX5_begin_6 ?_
  refine p_X5_24 rfl dX5_begin_7 (gs_eq hm) ?_
  rw [gs_gs]
  refine v_aload_0 dX5_begin_10 ?_
  refine v_iconst dX5_begin_11 ?_
  refine p_X5_27 rfl dX5_begin_12 (gs_eq hm) ?_
  rw [gs_gs]
  refine v_aload_0 dX5_begin_15 ?_
  refine v_iconst dX5_begin_16 ?_
  refine p_X5_30 rfl dX5_begin_17 (gs_eq hm) ?_
  rw [gs_gs]
  refine v_aload_0 dX5_begin_20 ?_
  refine g_X5_14 rfl dX5_begin_21 (gs_eq hm) ?_
  refine l_X5_33 rfl dX5_begin_24 (gs_ne (by omega) hK) ⟨Nat.le_of_ble_eq_true rfl, Nat.le_of_ble_eq_true rfl⟩ (Nat.le_of_ble_eq_true rfl) ⟨Nat.le_refl _, Nat.le_refl _⟩ (c_X6_moveToFirst (hA.fr (List.getElem?_set_ne (by omega)) (List.getElem?_set_ne (by omega))) (by omega) (gs_ne (by omega) hK) (fun M2 k2 f2 => ?_))
  exact v_vret dX5_begin_27 rfl (Nat.le_refl _) (Nat.le_refl _) (hp M2 ⟨f2.at (gs_eq hm) (by omega), k2, hA.fr ((f2.2 _ (by omega)).trans (List.getElem?_set_ne (by omega))) ((f2.2 _ (by omega)).trans (List.getElem?_set_ne (by omega))), Int.le_refl 0, hA.2.2.2.1⟩ (Fr.tr (Fr.set (Nat.le_refl r) (by omega)) (f2.wide (by omega) (by omega))))
