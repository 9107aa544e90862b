theorem RP_mk {E : Ev} {M : Mem} {Post : Option Value → Mem → Prop} {m t rd : Nat} {T : Int → Int} {L td ln : Int} {g : Nat → Value} {r : Rs RW} (h : ∀ (z : Int) (M2 : Mem), Fx m rd M M2 → ((z = 1 ∧ ∃ p w, r = .inr (p, w) ∧ RO E M2 m t rd T L p g td ln ∧ M2[rd]? = some (ia E 0 770 w)) ∨ (z = 0 ∧ ∃ f pl, r = .inl (f, pl) ∧ RFl E M2 m t rd T L g f pl)) → Post (some (iv z)) M2) : RP E m t rd T L g td ln M Post r := by
  rcases r with ⟨f, pl⟩ | ⟨p, w⟩
  · exact fun M2 h1 h2 => h 0 M2 h2 (Or.inr ⟨rfl, f, pl, rfl, h1⟩)
  · exact fun M2 h1 h2 h3 => h 1 M2 h3 (Or.inl ⟨rfl, p, w, rfl, h1, h2⟩)

theorem RPt_mk {E : Ev} {M : Mem} {Post : Option Value → Mem → Prop} {m t rd : Nat} {T : Int → Int} {L ln : Int} {g : Nat → Value} {r : Rs (RW × (Int → Bool))} (h : ∀ (z : Int) (M2 : Mem), Fx m rd M M2 → ((z = 1 ∧ ∃ p w td, r = .inr ((p, w), td) ∧ RO E M2 m t rd T L p g (tsN td 12) ln ∧ M2[rd]? = some (ia E 0 770 w)) ∨ (z = 0 ∧ ∃ f pl, r = .inl (f, pl) ∧ RFl E M2 m t rd T L g f pl)) → Post (some (iv z)) M2) : RPt E m t rd T L g ln M Post r := by
  rcases r with ⟨f, pl⟩ | ⟨⟨p, w⟩, td⟩
  · exact fun M2 h1 h2 => h 0 M2 h2 (Or.inr ⟨rfl, f, pl, rfl, h1⟩)
  · exact fun M2 h1 h2 h3 => h 1 M2 h3 (Or.inl ⟨rfl, p, w, td, rfl, h1, h2⟩)

theorem c_readSubst_any {E : Ev} {M : Mem} {Post : Option Value → Mem → Prop} {m t rd : Nat} {T : Int → Int} {L p td ln : Int} {g : Nat → Value} (hO : RO E M m t rd T L p g td ln) (hTP : TP T L) {w : Int → Int} (hrd : M[rd]? = some (ia E 0 770 w)) (hmr : m ≠ rd) (htr : t ≠ rd) (hw : PW w) (hW : w 1 = 3 → isW T L wSubst p) (hp : RP E m t rd T L g td ln M Post (if w 1 = 3 then .inl (3, tkS T L p) else sSub T L p w)) : Cn E rX8_readSubstance mX8_readSubstance [rr E m] M Post := by
  have h1 := hw.2.1
  by_cases c : w 1 = 3
  · rw [if_pos c] at hp
    exact c_readSubstance_4 hO hrd hmr htr c (hW c) hp
  · rw [if_neg c] at hp
    exact c_readSubstance hO hTP hrd hmr htr h1.1 (by omega) (hw.2.2.2.2.2.2.2 (w 1) (by omega) (by omega)) hp

theorem c_readStat_any {E : Ev} {M : Mem} {Post : Option Value → Mem → Prop} {m t rd : Nat} {T : Int → Int} {L p td ln : Int} {g : Nat → Value} (hO : RO E M m t rd T L p g td ln) (hTP : TP T L) {w : Int → Int} (hrd : M[rd]? = some (ia E 0 770 w)) (hmr : m ≠ rd) (htr : t ≠ rd) (hw : PW w) (hW : w 2 = 4 → isW T L wStat p) (hp : RP E m t rd T L g td ln M Post (if w 2 = 4 then .inl (3, tkS T L p) else sSta T L p w)) : Cn E rX8_readStation mX8_readStation [rr E m] M Post := by
  have h1 := hw.2.2.1
  by_cases c : w 2 = 4
  · rw [if_pos c] at hp
    exact c_readStation_4 hO hrd hmr htr c (hW c) hp
  · rw [if_neg c] at hp
    exact c_readStation hO hTP hrd hmr htr h1.1 (by omega) hp

def RPw (E : Ev) (m t rd : Nat) (T : Int → Int) (L : Int) (g : Nat → Value) (M : Mem) (Post : Option Value → Mem → Prop) : Rs ((Int → Int) × Int) → Prop
  | .inl (f, pl) => ∀ M2, RFl E M2 m t rd T L g f pl → Fx m rd M M2 → Post (some (iv 0)) M2
  | .inr (w, n) => ∀ M2 p td, RO E M2 m t rd T L p g td n → M2[rd]? = some (ia E 0 770 w) → Fx m rd M M2 → Post (some (iv 1)) M2

theorem RO.ln {E : Ev} {M : Mem} {m t rd : Nat} {T : Int → Int} {L p td ln ln2 to fr so nu wd : Int} {g : Nat → Value} (hm : M[m]? = some (ob 8 [g 0, rr E t, g 2, iv L, iv to, iv fr, iv so, iv nu, g 8, g 9, jv wd, g 11, rr E rd, g 13, g 14, iv td, iv ln, g 17])) (hk : RK T L p to fr so nu wd) (ht : M[t]? = some (ia E 0 640 T)) (p0 : 0 ≤ p) (p1 : p ≤ L) : RO E (M.set m (ob 8 [g 0, rr E t, g 2, iv L, iv to, iv fr, iv so, iv nu, g 8, g 9, jv wd, g 11, rr E rd, g 13, g 14, iv td, iv ln2, g 17])) m t rd T L p g td ln2 := ⟨to, fr, so, nu, wd, gs_eq hm, hk, gs_ne (ob_ia hm ht).symm ht, p0, p1⟩

set_option maxRecDepth 100000 in
theorem lp_whole3 {E : Ev} {M0 : Mem} {Post : Option Value → Mem → Prop} {m t rd : Nat} {T : Int → Int} {L : Int} {g : Nat → Value} (hTP : TP T L) (hmr : m ≠ rd) (htr : t ≠ rd) : ∀ (f : Nat) (p : Int) (w : Int → Int) (td : Int → Bool) (n : Int) (M : Mem), RO E M m t rd T L p g (tsN td 12) n → M[rd]? = some (ia E 0 770 w) → pcN td 12 + f = 12 → PW w → 1 ≤ w 1 ∧ 1 ≤ w 2 → Fx m rd M0 M → RPw E m t rd T L g M0 Post (sAll T L f p w td n) → V E rX8_readWhole mX8_readWhole (finM E rX8_readWhole Post) 0 0  M 66 [some (rr E m)] [] := by
  have lp : ∀ (r : Nat) (f : Nat) (p : Int) (w : Int → Int) (td : Int → Bool) (n : Int) (M : Mem), (RO E M m t rd T L p g (tsN td 12) n) → (M[rd]? = some (ia E 0 770 w)) → (pcN td 12 + f = 12) → (PW w) → (1 ≤ w 1 ∧ 1 ≤ w 2) → (Fx m rd M0 M) → (RPw E m t rd T L g M0 Post (sAll T L f p w td n)) → (f : Int) < (r : Int) → V E rX8_readWhole mX8_readWhole (finM E rX8_readWhole Post) 0 0 M 66 [some (rr E m)] [] := by
    intro r
    induction r with
    | zero => intro f p w td n M h_0 h_1 h_2 h_3 h_4 h_5 h_6 hz; exact absurd hz (by omega)
    | succ r ih =>
      intro f p w td n M hO hrd h_2 h_3 h_5 h_6 hp hz
      obtain ⟨to, fr, so, nu, wd, hm, hk, ht, pa, pb⟩ := id hO
      have hs := hk.so
      have hn := hk.nu
      rw [all_st] at hp
      refine v_aload_0 dX8_readWhole_66 ?_
      refine v_bipush dX8_readWhole_67 (by decide) ?_
      refine v_bipush dX8_readWhole_69 (by decide) ?_
      refine v_bipush dX8_readWhole_71 (by decide) ?_
      refine v_bipush dX8_readWhole_73 (by decide) ?_
      refine v_bipush dX8_readWhole_75 (by decide) ?_
      refine v_bipush dX8_readWhole_77 (by decide) ?_
      refine l_X8_109 rfl dX8_readWhole_79 ⟨Nat.le_of_ble_eq_true rfl, Nat.le_of_ble_eq_true rfl⟩ (Nat.le_of_ble_eq_true rfl) ⟨Nat.le_refl _, Nat.le_refl _⟩ (c_six ⟨by decide, by decide⟩ ⟨by decide, by decide⟩ ⟨by decide, by decide⟩ ⟨by decide, by decide⟩ ⟨by decide, by decide⟩ ⟨by decide, by decide⟩ ?_)
      refine l_X8_98 rfl dX8_readWhole_82 hm ⟨Nat.le_of_ble_eq_true rfl, Nat.le_of_ble_eq_true rfl⟩ (Nat.le_of_ble_eq_true rfl) ⟨Nat.le_refl _, Nat.le_refl _⟩ (c_isWord2 hO wSeries (by decide) (by decide) (by decide) (by decide) (by decide) ?_)
      refine v_ifeq_b (tgt := 110) dX8_readWhole_85 rfl (fun cW => ?_) (fun cW => ?_)
      · refine v_aload_0 dX8_readWhole_110 ?_
        refine g_X8_27 rfl dX8_readWhole_111 hm ?_
        refine v_if_eq (tgt := 125) dX8_readWhole_114 rfl ⟨by omega, by omega⟩ (fun c114 => ?_) (fun c114 => ?_)
        · refine v_iconst dX8_readWhole_125 ?_
          refine v_goto (tgt := 130) dX8_readWhole_126 rfl ?_
          exact v_zret dX8_readWhole_130 rfl (Nat.le_refl _) (Nat.le_refl _) (Or.inr rfl) (by rw [if_pos (by omega)] at hp; exact hp _ _ _ hO hrd h_6)
        · refine v_aload_0 dX8_readWhole_117 ?_
          refine v_iconst dX8_readWhole_118 ?_
          rw [if_neg (by omega)] at hp
          unfold sSer at hp
          rw [wd_no cW] at hp
          refine l_X8_86 rfl dX8_readWhole_119 hm ⟨Nat.le_of_ble_eq_true rfl, Nat.le_of_ble_eq_true rfl⟩ (Nat.le_of_ble_eq_true rfl) ⟨Nat.le_refl _, Nat.le_refl _⟩ (c_bad hO hrd hmr (fun Mb hFb hfb => ?_))
          refine v_if_eq (tgt := 129) dX8_readWhole_122 rfl ⟨by decide, by decide⟩ (fun c122 => ?_) (fun c122 => absurd c122 (by decide))
          refine v_iconst dX8_readWhole_129 ?_
          exact v_zret dX8_readWhole_130 rfl (Nat.le_refl _) (Nat.le_refl _) (Or.inl rfl) (hp _ (by rw [ite_self] at hFb; exact hFb) (h_6.tr hfb.x))
      · rw [if_neg (by have := cW.1; omega)] at hp
        refine v_aload_0 dX8_readWhole_88 ?_
        refine l_X8_148 rfl dX8_readWhole_89 hm ⟨Nat.le_of_ble_eq_true rfl, Nat.le_of_ble_eq_true rfl⟩ (Nat.le_of_ble_eq_true rfl) ⟨Nat.le_refl _, Nat.le_refl _⟩ (c_readSeries hO hTP hrd hmr htr ⟨h_3.1.1, by have := h_3.1.2; omega, h_5.1, h_3.2.1.2, h_5.2, h_3.2.2.1.2⟩ cW (RPt_mk (fun z M2 hf hz => ?_)))
        have hb : z = 0 ∨ z = 1 := by rcases hz with ⟨e, _⟩ | ⟨e, _⟩ <;> omega
        refine v_if_ne (tgt := 97) dX8_readWhole_92 rfl ⟨by omega, by omega⟩ (fun c92 => ?_) (fun c92 => ?_)
        · obtain ⟨-, p2, w2, td2, e1, hO2, hrd2⟩ := hz.resolve_right (fun q => absurd q.1 (by omega))
          rw [e1] at hp
          have f0 : ¬ f = 0 := fun q => ser_none h_3 (by omega) e1
          obtain ⟨i1, i2, -⟩ := ser_inv h_3 e1
          have i3 := ser_cnt h_3 e1
          replace hp : RPw E m t rd T L g M0 Post (if f = 0 then .inl (0, 0) else sAll T L (f - 1) p2 w2 td2 (n + 1)) := hp
          rw [if_neg f0] at hp
          obtain ⟨to2, fr2, so2, nu2, wd2, hm2, hk2, ht2, pa2, pb2⟩ := id hO2
          have hs2 := hk2.so
          have hn2 := hk2.nu
          refine v_aload_0 dX8_readWhole_97 ?_
          refine v_dupr dX8_readWhole_98 ?_
          refine g_X8_139 rfl dX8_readWhole_99 hm2 ?_
          refine v_iconst dX8_readWhole_102 ?_
          refine v_iadd dX8_readWhole_103 ?_
          refine p_X8_139 rfl dX8_readWhole_104 hm2 ?_
          refine v_goto (tgt := 66) dX8_readWhole_107 rfl ?_
          exact ih (f - 1) p2 w2 td2 (n + 1) _ (RO.ln hm2 hk2 ht2 pa2 pb2) (gs_ne hmr hrd2) (by have i3 : pcN td2 12 = pcN td 12 + 1 := i3; omega) i1 (by rw [i2 1 (by omega) (by omega), i2 2 (by omega) (by omega)]; exact h_5) ((h_6.tr hf).tr Fm.set.x) hp (by omega)
        · obtain ⟨-, f2, pl, e1, hF⟩ := hz.resolve_left (fun q => absurd q.1 (by omega))
          rw [e1] at hp
          refine v_iconst dX8_readWhole_95 ?_
          exact v_zret dX8_readWhole_96 rfl (Nat.le_refl _) (Nat.le_refl _) (Or.inl rfl) (hp _ hF (h_6.tr hf))
  intro f p w td n M a b c d e f1 h
  exact lp (f + 1) f p w td n M a b c d e f1 h (by omega)
