set_option maxRecDepth 100000 in
theorem lp_whole2 {E : Ev} {M0 : Mem} {Post : Option Value → Mem → Prop} {m t rd : Nat} {T : Int → Int} {L : Int} {g : Nat → Value} (hTP : TP T L) (hmr : m ≠ rd) (htr : t ≠ rd) : ∀ (f : Nat) (p : Int) (w : Int → Int) (n : Int) (M : Mem), (RO E M m t rd T L p g (tsN (fun _ => false) 12) n) → (M[rd]? = some (ia E 0 770 w)) → (w 2 + f = 4) → (PW w) → (f = 0 → isW T L wStat p) → (Fx m rd M0 M) → (1 ≤ w 1) → (RPw E m t rd T L g M0 Post (bnS (sStas T L f p w n) (fun r => sAll T L 12 r.1.1 r.1.2 (fun _ => false) r.2))) → V E rX8_readWhole mX8_readWhole (finM E rX8_readWhole Post) 0 0  M 40 [some (rr E m)] [] := by
  have lp : ∀ (r : Nat) (f : Nat) (p : Int) (w : Int → Int) (n : Int) (M : Mem), (RO E M m t rd T L p g (tsN (fun _ => false) 12) n) → (M[rd]? = some (ia E 0 770 w)) → (w 2 + f = 4) → (PW w) → (f = 0 → isW T L wStat p) → (Fx m rd M0 M) → (1 ≤ w 1) → (RPw E m t rd T L g M0 Post (bnS (sStas T L f p w n) (fun r => sAll T L 12 r.1.1 r.1.2 (fun _ => false) r.2))) → (f : Int) < (r : Int) → V E rX8_readWhole mX8_readWhole (finM E rX8_readWhole Post) 0 0 M 40 [some (rr E m)] [] := by
    intro r
    induction r with
    | zero => intro f p w n M h_0 h_1 h_2 h_3 h_4 h_5 h_6 h_7 hz; exact absurd hz (by omega)
    | succ r ih =>
      intro f p w n M hO hrd h_2 h_3 h_4 h_5 h_6 hp hz
      obtain ⟨to, fr, so, nu, wd, hm, hk, ht, pa, pb⟩ := id hO
      have hs := hk.so
      have hn := hk.nu
      rw [stas_st h_2 h_4] at hp
      refine v_aload_0 dX8_readWhole_40 ?_
      refine l_X8_145 rfl dX8_readWhole_41 hm ⟨Nat.le_of_ble_eq_true rfl, Nat.le_of_ble_eq_true rfl⟩ (Nat.le_of_ble_eq_true rfl) ⟨Nat.le_refl _, Nat.le_refl _⟩ (c_readStat_any hO hTP hrd hmr htr h_3 (fun q => h_4 (by omega)) (RP_mk (fun z M2 hf hz => ?_)))
      have hb : z = 0 ∨ z = 1 := by rcases hz with ⟨e, _⟩ | ⟨e, _⟩ <;> omega
      refine v_if_ne (tgt := 49) dX8_readWhole_44 rfl ⟨by omega, by omega⟩ (fun cc => ?_) (fun cc => ?_)
      · obtain ⟨-, p2, w2, e1, hO2, hrd2⟩ := hz.resolve_right (fun q => absurd q.1 (by omega))
        rw [e1] at hp
        have f0 : ¬ w 2 = 4 := fun q => by rw [if_pos q] at e1; cases e1
        rw [if_neg f0] at e1
        have hw1 := h_3
        obtain ⟨i1, i2, i3⟩ := sta_inv h_3 (by have := h_3.2.2.1.2; omega) e1
        replace hp : RPw E m t rd T L g M0 Post (bnS (if isW T L wStat p2 then sStas T L (f - 1) p2 w2 (n + 1) else .inr ((p2, w2), n + 1)) (fun r => sAll T L 12 r.1.1 r.1.2 (fun _ => false) r.2)) := hp
        obtain ⟨to2, fr2, so2, nu2, wd2, hm2, hk2, ht2, pa2, pb2⟩ := id hO2
        have hs2 := hk2.so
        have hn2 := hk2.nu
        refine v_aload_0 dX8_readWhole_49 ?_
        refine v_dupr dX8_readWhole_50 ?_
        refine g_X8_139 rfl dX8_readWhole_51 hm2 ?_
        refine v_iconst dX8_readWhole_54 ?_
        refine v_iadd dX8_readWhole_55 ?_
        refine p_X8_139 rfl dX8_readWhole_56 hm2 ?_
        have hO3 := RO.ln (ln2 := n + 1) hm2 hk2 ht2 pa2 pb2
        obtain ⟨to3, fr3, so3, nu3, wd3, hm3, hk3, ht3, pa3, pb3⟩ := id hO3
        have hs3 := hk3.so
        have hn3 := hk3.nu
        have hrd3 := gs_ne (c := ob 8 [g 0, rr E t, g 2, iv L, iv to2, iv fr2, iv so2, iv nu2, g 8, g 9, jv wd2, g 11, rr E rd, g 13, g 14, iv (tsN (fun _ => false) 12), iv (n + 1), g 17]) hmr hrd2
        have hx3 := (h_5.tr hf).tr (Fm.x (rd := rd) (Fm.set (e := ob 8 [g 0, rr E t, g 2, iv L, iv to2, iv fr2, iv so2, iv nu2, g 8, g 9, jv wd2, g 11, rr E rd, g 13, g 14, iv (tsN (fun _ => false) 12), iv (n + 1), g 17])))
        refine v_aload_0 dX8_readWhole_59 ?_
        refine l_X8_125 rfl dX8_readWhole_60 hm3 ⟨Nat.le_of_ble_eq_true rfl, Nat.le_of_ble_eq_true rfl⟩ (Nat.le_of_ble_eq_true rfl) ⟨Nat.le_refl _, Nat.le_refl _⟩ (c_isStat hO3 ?_)
        refine v_ifne_b (tgt := 40) dX8_readWhole_63 rfl (fun cW => ?_) (fun cW => ?_)
        · rw [if_pos cW] at hp
          exact ih (f - 1) p2 w2 (n + 1) _ hO3 hrd3 (by omega) i1 (fun _ => cW) hx3 (by rw [i3 1 (by omega)]; exact h_6) hp (by omega)
        · rw [if_neg cW] at hp
          exact lp_whole3 hTP hmr htr 12 _ _ _ _ _ hO3 hrd3 (by decide) i1 ⟨by rw [i3 1 (by omega)]; exact h_6, by have := h_3.2.2.1; omega⟩ hx3 hp
      · obtain ⟨-, f2, pl, e1, hF⟩ := hz.resolve_left (fun q => absurd q.1 (by omega))
        rw [e1] at hp
        refine v_iconst dX8_readWhole_47 ?_
        exact v_zret dX8_readWhole_48 rfl (Nat.le_refl _) (Nat.le_refl _) (Or.inl rfl) (hp _ hF (h_5.tr hf))
  intro f p w n M a b c d e f1 h j
  exact lp (f + 1) f p w n M a b c d e f1 h j (by omega)

set_option maxRecDepth 100000 in
theorem lp_whole1 {E : Ev} {M0 : Mem} {Post : Option Value → Mem → Prop} {m t rd : Nat} {T : Int → Int} {L : Int} {g : Nat → Value} (hTP : TP T L) (hmr : m ≠ rd) (htr : t ≠ rd) : ∀ (f : Nat) (p : Int) (w : Int → Int) (n : Int) (M : Mem), (RO E M m t rd T L p g (tsN (fun _ => false) 12) n) → (M[rd]? = some (ia E 0 770 w)) → (w 1 + f = 3) → (PW w) → (f = 0 → isW T L wSubst p) → (Fx m rd M0 M) → (w 2 = 0) → (RPw E m t rd T L g M0 Post (bnS (sSubs T L f p w n) (fun r => bnS (sStas T L 4 r.1.1 r.1.2 r.2) (fun r => sAll T L 12 r.1.1 r.1.2 (fun _ => false) r.2)))) → V E rX8_readWhole mX8_readWhole (finM E rX8_readWhole Post) 0 0  M 14 [some (rr E m)] [] := by
  have lp : ∀ (r : Nat) (f : Nat) (p : Int) (w : Int → Int) (n : Int) (M : Mem), (RO E M m t rd T L p g (tsN (fun _ => false) 12) n) → (M[rd]? = some (ia E 0 770 w)) → (w 1 + f = 3) → (PW w) → (f = 0 → isW T L wSubst p) → (Fx m rd M0 M) → (w 2 = 0) → (RPw E m t rd T L g M0 Post (bnS (sSubs T L f p w n) (fun r => bnS (sStas T L 4 r.1.1 r.1.2 r.2) (fun r => sAll T L 12 r.1.1 r.1.2 (fun _ => false) r.2)))) → (f : Int) < (r : Int) → V E rX8_readWhole mX8_readWhole (finM E rX8_readWhole Post) 0 0 M 14 [some (rr E m)] [] := by
    intro r
    induction r with
    | zero => intro f p w n M h_0 h_1 h_2 h_3 h_4 h_5 h_6 h_7 hz; exact absurd hz (by omega)
    | succ r ih =>
      intro f p w n M hO hrd h_2 h_3 h_4 h_5 h_6 hp hz
      obtain ⟨to, fr, so, nu, wd, hm, hk, ht, pa, pb⟩ := id hO
      have hs := hk.so
      have hn := hk.nu
      rw [subs_st h_2 h_4] at hp
      refine v_aload_0 dX8_readWhole_14 ?_
      refine l_X8_142 rfl dX8_readWhole_15 hm ⟨Nat.le_of_ble_eq_true rfl, Nat.le_of_ble_eq_true rfl⟩ (Nat.le_of_ble_eq_true rfl) ⟨Nat.le_refl _, Nat.le_refl _⟩ (c_readSubst_any hO hTP hrd hmr htr h_3 (fun q => h_4 (by omega)) (RP_mk (fun z M2 hf hz => ?_)))
      have hb : z = 0 ∨ z = 1 := by rcases hz with ⟨e, _⟩ | ⟨e, _⟩ <;> omega
      refine v_if_ne (tgt := 23) dX8_readWhole_18 rfl ⟨by omega, by omega⟩ (fun cc => ?_) (fun cc => ?_)
      · obtain ⟨-, p2, w2, e1, hO2, hrd2⟩ := hz.resolve_right (fun q => absurd q.1 (by omega))
        rw [e1] at hp
        have f0 : ¬ w 1 = 3 := fun q => by rw [if_pos q] at e1; cases e1
        rw [if_neg f0] at e1
        have hw1 := h_3
        obtain ⟨i1, i2, i3⟩ := sub_inv h_3 (by have := h_3.2.1.2; omega) e1
        replace hp : RPw E m t rd T L g M0 Post (bnS (if isW T L wSubst p2 then sSubs T L (f - 1) p2 w2 (n + 1) else .inr ((p2, w2), n + 1)) (fun r => bnS (sStas T L 4 r.1.1 r.1.2 r.2) (fun r => sAll T L 12 r.1.1 r.1.2 (fun _ => false) r.2))) := hp
        obtain ⟨to2, fr2, so2, nu2, wd2, hm2, hk2, ht2, pa2, pb2⟩ := id hO2
        have hs2 := hk2.so
        have hn2 := hk2.nu
        refine v_aload_0 dX8_readWhole_23 ?_
        refine v_dupr dX8_readWhole_24 ?_
        refine g_X8_139 rfl dX8_readWhole_25 hm2 ?_
        refine v_iconst dX8_readWhole_28 ?_
        refine v_iadd dX8_readWhole_29 ?_
        refine p_X8_139 rfl dX8_readWhole_30 hm2 ?_
        have hO3 := RO.ln (ln2 := n + 1) hm2 hk2 ht2 pa2 pb2
        obtain ⟨to3, fr3, so3, nu3, wd3, hm3, hk3, ht3, pa3, pb3⟩ := id hO3
        have hs3 := hk3.so
        have hn3 := hk3.nu
        have hrd3 := gs_ne (c := ob 8 [g 0, rr E t, g 2, iv L, iv to2, iv fr2, iv so2, iv nu2, g 8, g 9, jv wd2, g 11, rr E rd, g 13, g 14, iv (tsN (fun _ => false) 12), iv (n + 1), g 17]) hmr hrd2
        have hx3 := (h_5.tr hf).tr (Fm.x (rd := rd) (Fm.set (e := ob 8 [g 0, rr E t, g 2, iv L, iv to2, iv fr2, iv so2, iv nu2, g 8, g 9, jv wd2, g 11, rr E rd, g 13, g 14, iv (tsN (fun _ => false) 12), iv (n + 1), g 17])))
        refine v_aload_0 dX8_readWhole_33 ?_
        refine l_X8_119 rfl dX8_readWhole_34 hm3 ⟨Nat.le_of_ble_eq_true rfl, Nat.le_of_ble_eq_true rfl⟩ (Nat.le_of_ble_eq_true rfl) ⟨Nat.le_refl _, Nat.le_refl _⟩ (c_isSubst hO3 ?_)
        refine v_ifne_b (tgt := 14) dX8_readWhole_37 rfl (fun cW => ?_) (fun cW => ?_)
        · rw [if_pos cW] at hp
          exact ih (f - 1) p2 w2 (n + 1) _ hO3 hrd3 (by omega) i1 (fun _ => cW) hx3 (by rw [i3 2 (by omega)]; exact h_6) hp (by omega)
        · rw [if_neg cW] at hp
          exact lp_whole2 hTP hmr htr 4 _ _ _ _ hO3 hrd3 (by rw [i3 2 (by omega)]; omega) i1 (fun q => absurd q (by decide)) hx3 (by have := h_3.2.1; omega) hp
      · obtain ⟨-, f2, pl, e1, hF⟩ := hz.resolve_left (fun q => absurd q.1 (by omega))
        rw [e1] at hp
        refine v_iconst dX8_readWhole_21 ?_
        exact v_zret dX8_readWhole_22 rfl (Nat.le_refl _) (Nat.le_refl _) (Or.inl rfl) (hp _ hF (h_5.tr hf))
  intro f p w n M a b c d e f1 h j
  exact lp (f + 1) f p w n M a b c d e f1 h j (by omega)

set_option maxRecDepth 100000 in
theorem c_readWhole {E : Ev} {M : Mem} {Post : Option Value → Mem → Prop} {m t rd : Nat} {T : Int → Int} {L p ln : Int} {g : Nat → Value} (hO : RO E M m t rd T L p g (tsN (fun _ => false) 12) ln) (hTP : TP T L) {w : Int → Int} (hrd : M[rd]? = some (ia E 0 770 w)) (hmr : m ≠ rd) (htr : t ≠ rd) (hw : PW w) (hw1 : w 1 = 0) (hw2 : w 2 = 0) (hp : RPw E m t rd T L g M Post (bnS (bnS (sBands T L p w) fun r => sShare T L r.1 r.2) fun r => bnS (sSubs T L 3 r.1 r.2 2) (fun r => bnS (sStas T L 4 r.1.1 r.1.2 r.2) (fun r => sAll T L 12 r.1.1 r.1.2 (fun _ => false) r.2)))) : Cn E rX8_readWhole mX8_readWhole [rr E m] M Post := by
  obtain ⟨to, fr, so, nu, wd, hm, hk, ht, pa, pb⟩ := id hO
  have hs := hk.so
  have hn := hk.nu
  refine Cn.of (L := [some (rr E m)]) (by decide) (Nat.le_of_ble_eq_true rfl) rfl ?_
  refine v_aload_0 dX8_readWhole_0 ?_
  refine l_X8_136 rfl dX8_readWhole_1 hm ⟨Nat.le_of_ble_eq_true rfl, Nat.le_of_ble_eq_true rfl⟩ (Nat.le_of_ble_eq_true rfl) ⟨Nat.le_refl _, Nat.le_refl _⟩ (c_readBands hO hTP hrd hmr htr (RP_mk (fun z M2 hf hz => ?_)))
  have hb : z = 0 ∨ z = 1 := by rcases hz with ⟨e, _⟩ | ⟨e, _⟩ <;> omega
  refine v_if_ne (tgt := 9) dX8_readWhole_4 rfl ⟨by omega, by omega⟩ (fun cc => ?_) (fun cc => ?_)
  · obtain ⟨-, p2, w2, e1, hO2, hrd2⟩ := hz.resolve_right (fun q => absurd q.1 (by omega))
    rw [e1] at hp
    obtain ⟨i1, i2, i3, i4⟩ := head_inv hw e1
    obtain ⟨to2, fr2, so2, nu2, wd2, hm2, hk2, ht2, pa2, pb2⟩ := id hO2
    have hs2 := hk2.so
    have hn2 := hk2.nu
    refine v_aload_0 dX8_readWhole_9 ?_
    refine v_iconst dX8_readWhole_10 ?_
    refine p_X8_139 rfl dX8_readWhole_11 hm2 ?_
    have hO3 := RO.ln (ln2 := 2) hm2 hk2 ht2 pa2 pb2
    exact lp_whole1 hTP hmr htr 3 _ _ _ _ hO3 (gs_ne hmr hrd2) (by omega) i1 (fun q => absurd q (by decide)) (hf.tr Fm.set.x) (by omega) hp
  · obtain ⟨-, f2, pl, e1, hF⟩ := hz.resolve_left (fun q => absurd q.1 (by omega))
    rw [e1] at hp
    refine v_iconst dX8_readWhole_7 ?_
    exact v_zret dX8_readWhole_8 rfl (Nat.le_refl _) (Nat.le_refl _) (Or.inl rfl) (hp _ hF hf)
