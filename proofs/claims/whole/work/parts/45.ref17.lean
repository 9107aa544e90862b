/-- the reference's object -/
def RS (E : Ev) (M : Mem) (m t a rd c q : Nat) (f0 : Value) (n fa cnt : Int) : Prop := ∃ sz to fr so nu pl wd td ln : Int, M[m]? = some (ob 8 [f0, rr E t, iv n, iv sz, iv to, iv fr, iv so, iv nu, iv fa, iv pl, jv wd, rr E a, rr E rd, rr E c, iv cnt, iv td, iv ln, rr E q])
def gT (E : Ev) (f0 : Value) (a c q : Nat) (cnt pl : Int) : Nat → Value
  | 0 => f0
  | 2 => iv 0
  | 8 => iv 0
  | 9 => iv pl
  | 11 => rr E a
  | 13 => rr E c
  | 14 => iv cnt
  | 17 => rr E q
  | _ => iv 0
theorem bn_as {α β γ : Type} (r : Rs α) (f : α → Rs β) (g : β → Rs γ) : bnS (bnS r f) g = bnS r (fun x => bnS (f x) g) := by cases r <;> rfl
theorem text_as (T : Int → Int) (L : Int) : (bnS (bnS (sBands T L 0 (fun _ => 0)) fun r => sShare T L r.1 r.2) fun r => bnS (sSubs T L 3 r.1 r.2 2) (fun r => bnS (sStas T L 4 r.1.1 r.1.2 r.2) (fun r => sAll T L 12 r.1.1 r.1.2 (fun _ => false) r.2))) = sText T L := by
  unfold sText
  rw [bn_as]
theorem td_0 : tsN (fun _ => false) 12 = 0 := by decide
theorem RPw_mk {E : Ev} {M : Mem} {Post : Option Value → Mem → Prop} {m t rd : Nat} {T : Int → Int} {L : Int} {g : Nat → Value} {r : Rs ((Int → Int) × Int)} (h : ∀ (z : Int) (M2 : Mem), Fx m rd M M2 → ((z = 1 ∧ ∃ w n p td, r = .inr (w, n) ∧ RO E M2 m t rd T L p g td n ∧ M2[rd]? = some (ia E 0 770 w)) ∨ (z = 0 ∧ ∃ f pl, r = .inl (f, pl) ∧ RFl E M2 m t rd T L g f pl)) → Post (some (iv z)) M2) : RPw E m t rd T L g M Post r := by
  rcases r with ⟨f, pl⟩ | ⟨w, n⟩
  · exact fun M2 h1 h2 => h 0 M2 h2 (Or.inr ⟨rfl, f, pl, rfl, h1⟩)
  · exact fun M2 p td h1 h2 h3 => h 1 M2 h3 (Or.inl ⟨rfl, w, n, p, td, rfl, h1, h2⟩)
def F3 (m rd a : Nat) (M M2 : Mem) : Prop := M2.length = M.length ∧ ∀ b : Nat, b ≠ m → b ≠ rd → b ≠ a → M2[b]? = M[b]?
theorem Fx.f3 {m rd a : Nat} {M M2 : Mem} (h : Fx m rd M M2) : F3 m rd a M M2 := ⟨h.1, fun b h1 h2 _ => h.2 b h1 h2⟩
theorem F3.tr {m rd a : Nat} {M M2 M3 : Mem} (h : F3 m rd a M M2) (h2 : F3 m rd a M2 M3) : F3 m rd a M M3 := ⟨h2.1.trans h.1, fun b b1 b2 b3 => (h2.2 b b1 b2 b3).trans (h.2 b b1 b2 b3)⟩
theorem F3.sa {m rd a : Nat} {M : Mem} {e : va_E} : F3 m rd a M (M.set a e) := ⟨gs_len, fun b _ _ hb => List.getElem?_set_ne (fun q => hb q.symm)⟩

set_option maxRecDepth 100000 in
theorem t2_X8_text {E : Ev} {M : Mem} {Post : Option Value → Mem → Prop} {m t a rd c q : Nat} {f0 : Value} {n0 fa cnt sz to fr so nu pl wd td ln : Int} {w w2 : Int → Int} (hm : M[m]? = some (ob 8 [f0, rr E t, iv n0, iv sz, iv to, iv fr, iv so, iv nu, iv fa, iv pl, jv wd, rr E a, rr E rd, rr E c, iv cnt, iv td, iv ln, rr E q])) (ha : M[a]? = some (ia E 0 770 w)) (hrd : M[rd]? = some (ia E 0 770 w2)) (hma : m ≠ a) (har : a ≠ rd) (hp : Post (some (iv ln)) ((M.set a (ia E 0 770 w2)).set m (ob 8 [f0, rr E t, iv n0, iv sz, iv to, iv fr, iv so, iv nu, iv fa, iv pl, jv wd, rr E a, rr E rd, rr E c, iv 0, iv td, iv ln, rr E q]))) : V E rX8_text mX8_text (finM E rX8_text Post) 0 0  M 70 [some (rr E m), some (iv 0)] [] := by
  have lp : ∀ (r : Nat) (x : Int) (g : Int → Int), (0 ≤ x) → (x ≤ 770) → (∀ j, 0 ≤ j → j < x → g j = w2 j) → 770 - x < (r : Int) → V E rX8_text mX8_text (finM E rX8_text Post) 0 0 (M.set a (ia E 0 770 g)) 70 [some (rr E m), some (iv x)] [] := by
    intro r
    induction r with
    | zero => intro x g h_0 h_1 h_2 hz; exact absurd hz (by omega)
    | succ r ih =>
      intro x g h_0 h_1 h_2 hz
      refine v_iload_1 dX8_text_70 ?_
      refine v_sipush dX8_text_71 (by decide) ?_
      refine v_icmp_ge (tgt := 95) dX8_text_74 rfl ⟨by omega, by omega⟩ ⟨by omega, by omega⟩ (fun c74 => ?_) (fun c74 => ?_)
      · refine v_arr (g := w2) (gs_eq ha) (fun j j0 j1 => h_2 j (by omega) (by omega)) ?_
        rw [gs_gs]
        refine v_aload_0 dX8_text_95 ?_
        refine v_iconst dX8_text_96 ?_
        refine p_X8_154 rfl dX8_text_97 (gs_ne hma.symm hm) ?_
        refine v_aload_0 dX8_text_100 ?_
        refine g_X8_139 rfl dX8_text_101 (gs_eq (gs_ne hma.symm hm)) ?_
        exact v_iret dX8_text_104 rfl (Nat.le_refl _) (Nat.le_refl _) hp
      · refine v_aload_0 dX8_text_77 ?_
        refine g_X8_74 rfl dX8_text_78 (gs_ne hma.symm hm) ?_
        refine v_iload_1 dX8_text_81 ?_
        refine v_aload_0 dX8_text_82 ?_
        refine g_X8_77 rfl dX8_text_83 (gs_ne hma.symm hm) ?_
        refine v_iload_1 dX8_text_86 ?_
        refine v_iaload dX8_text_87 (gs_ne har hrd) (by omega) (by omega) (by decide) ?_
        refine v_iastore dX8_text_88 (gs_eq ha) (by omega) (by omega) (by decide) ?_
        rw [gs_gs]
        refine v_iinc_1 dX8_text_89 (Nat.le_of_ble_eq_true rfl) rfl ?_
        refine v_goto (tgt := 70) dX8_text_92 rfl ?_
        exact ih (x + 1) _ (by omega) (by omega) (up_upto (f := w2) h_2) (by omega)
  have tt := lp 771 0 w (by omega) (by omega) (fun j j0 j1 => by omega) (by omega)
  rw [gs_id ha] at tt
  exact tt

set_option maxRecDepth 100000 in
theorem t1_X8_text {E : Ev} {M : Mem} {Post : Option Value → Mem → Prop} {m t a rd c q : Nat} {f0 : Value} {n fr so nu pl wd ln cnt : Int} {T w u0 : Int → Int} (hm : M[m]? = some (ob 8 [f0, rr E t, iv 0, iv n, iv 0, iv fr, iv so, iv nu, iv 0, iv pl, jv wd, rr E a, rr E rd, rr E c, iv cnt, iv 0, iv ln, rr E q])) (ht : M[t]? = some (ia E 0 640 T)) (hTP : TP T n) (ha : M[a]? = some (ia E 0 770 w)) (hrd : M[rd]? = some (ia E 0 770 u0)) (hmr : m ≠ rd) (htr : t ≠ rd) (hma : m ≠ a) (hta : t ≠ a) (har : a ≠ rd) (hq : ∀ f pl, sText T n = .inl (f, pl) → ∀ M2, RS E M2 m t a rd c q f0 0 f cnt → (∃ u, M2[rd]? = some (ia E 0 770 u)) → M2[a]? = some (ia E 0 770 w) → F3 m rd a M M2 → Post (some (iv (-1 - pl))) M2) (hp : ∀ w2 k, sText T n = .inr (w2, k) → ∀ M2, RS E M2 m t a rd c q f0 0 0 0 → (∃ u, M2[rd]? = some (ia E 0 770 u)) → M2[a]? = some (ia E 0 770 w2) → F3 m rd a M M2 → Post (some (iv k)) M2) : V E rX8_text mX8_text (finM E rX8_text Post) 0 0  M 30 [some (rr E m), some (iv 0)] [] := by
  have lp : ∀ (r : Nat) (x : Int) (g : Int → Int), (0 ≤ x) → (x ≤ 770) → (∀ j, 0 ≤ j → j < x → g j = (fun _ => 0) j) → 770 - x < (r : Int) → V E rX8_text mX8_text (finM E rX8_text Post) 0 0 (M.set rd (ia E 0 770 g)) 30 [some (rr E m), some (iv x)] [] := by
    intro r
    induction r with
    | zero => intro x g h_0 h_1 h_2 hz; exact absurd hz (by omega)
    | succ r ih =>
      intro x g h_0 h_1 h_2 hz
      refine v_iload_1 dX8_text_30 ?_
      refine v_sipush dX8_text_31 (by decide) ?_
      refine v_icmp_ge (tgt := 50) dX8_text_34 rfl ⟨by omega, by omega⟩ ⟨by omega, by omega⟩ (fun c34 => ?_) (fun c34 => ?_)
      · refine v_arr (g := fun _ => 0) (gs_eq hrd) (fun j j0 j1 => h_2 j (by omega) (by omega)) ?_
        rw [gs_gs]
        refine v_aload_0 dX8_text_50 ?_
        refine l_X8_93 rfl dX8_text_51 (gs_ne hmr.symm hm) ⟨Nat.le_of_ble_eq_true rfl, Nat.le_of_ble_eq_true rfl⟩ (Nat.le_of_ble_eq_true rfl) ⟨Nat.le_refl _, Nat.le_refl _⟩ (c_X8_go (gs_ne hmr.symm hm) (gs_ne htr.symm ht) hTP.1 hTP.2.1 hTP.2.2 (Int.le_refl 0) hTP.1 (fun to2 fr2 so2 nu2 wd2 hk => ?_))
        have hO3 : RO E _ m t rd T n 0 (gT E f0 a c q cnt pl) (tsN (fun _ => false) 12) ln := ⟨to2, fr2, so2, nu2, wd2, gs_eq (c := ob 8 [f0, rr E t, iv 0, iv n, iv to2, iv fr2, iv so2, iv nu2, iv 0, iv pl, jv wd2, rr E a, rr E rd, rr E c, iv cnt, iv 0, iv ln, rr E q]) (gs_ne (c := ia E 0 770 (fun _ => 0)) hmr.symm hm), hk, gs_ne (ob_ia hm ht).symm (gs_ne htr.symm ht), Int.le_refl 0, hTP.1⟩
        refine v_aload_0 dX8_text_54 ?_
        refine l_X8_151 rfl dX8_text_55 (gs_eq (gs_ne hmr.symm hm)) ⟨Nat.le_of_ble_eq_true rfl, Nat.le_of_ble_eq_true rfl⟩ (Nat.le_of_ble_eq_true rfl) ⟨Nat.le_refl _, Nat.le_refl _⟩ (c_readWhole hO3 hTP (gs_ne hmr (gs_eq hrd)) hmr htr PW_0 rfl rfl (RPw_mk (fun z M4 hf hz => ?_)))
        rw [text_as] at hz
        have hb : z = 0 ∨ z = 1 := by rcases hz with ⟨e, _⟩ | ⟨e, _⟩ <;> omega
        have h3 : F3 m rd a M M4 := (Fx.f3 (Fx.sr.tr Fm.set.x)).tr hf.f3
        have ha4 := (hf.2 _ hma.symm har).trans (gs_ne hma (gs_ne har.symm ha))
        refine v_if_ne (tgt := 68) dX8_text_58 rfl ⟨by omega, by omega⟩ (fun c58 => ?_) (fun c58 => ?_)
        · obtain ⟨-, w2, k, p2, td2, e1, hO4, hrd4⟩ := hz.resolve_right (fun q => absurd q.1 (by omega))
          obtain ⟨to4, fr4, so4, nu4, wd4, hm4, hk4, ht4, pa4, pb4⟩ := hO4
          refine v_iconst dX8_text_68 ?_
          refine v_istore_1 dX8_text_69 (Nat.le_of_ble_eq_true rfl) rfl ?_
          exact t2_X8_text (f0 := f0) (n0 := 0) (fa := 0) (cnt := cnt) (q := q) (c := c) (pl := pl) hm4 ha4 hrd4 hma har (hp w2 k e1 _ ⟨_, _, _, _, _, _, _, _, _, gs_eq (gs_ne hma.symm hm4)⟩ ⟨w2, gs_ne hmr (gs_ne har hrd4)⟩ (gs_ne hma (gs_eq ha4)) ((h3.tr F3.sa).tr (Fx.f3 Fm.set.x)))
        · obtain ⟨-, f2, pl2, e1, hF⟩ := hz.resolve_left (fun q => absurd q.1 (by omega))
          obtain ⟨to4, fr4, so4, nu4, wd4, td4, ln4, hm4, ht4, u4, hu4⟩ := hF
          refine v_iconst dX8_text_61 ?_
          refine v_aload_0 dX8_text_62 ?_
          refine g_X8_65 rfl dX8_text_63 hm4 ?_
          refine v_isub dX8_text_66 ?_
          exact v_iret dX8_text_67 rfl (Nat.le_refl _) (Nat.le_refl _) (hq f2 pl2 e1 M4 ⟨_, _, _, _, _, _, _, _, _, hm4⟩ ⟨u4, hu4⟩ ha4 h3)
      · refine v_aload_0 dX8_text_37 ?_
        refine g_X8_77 rfl dX8_text_38 (gs_ne hmr.symm hm) ?_
        refine v_iload_1 dX8_text_41 ?_
        refine v_iconst dX8_text_42 ?_
        refine v_iastore dX8_text_43 (gs_eq hrd) (by omega) (by omega) (by decide) ?_
        rw [gs_gs]
        refine v_iinc_1 dX8_text_44 (Nat.le_of_ble_eq_true rfl) rfl ?_
        refine v_goto (tgt := 30) dX8_text_47 rfl ?_
        exact ih (x + 1) _ (by omega) (by omega) (up_upto (f := fun _ => 0) h_2) (by omega)
  have tt := lp 771 0 u0 (by omega) (by omega) (fun j j0 j1 => by omega) (by omega)
  rw [gs_id hrd] at tt
  exact tt

set_option maxRecDepth 100000 in
theorem c_X8_text {E : Ev} {M : Mem} {Post : Option Value → Mem → Prop} {m t a rd c q : Nat} {f0 : Value} {n fa cnt : Int} {T w u0 : Int → Int} (hS : RS E M m t a rd c q f0 n fa cnt) (ht : M[t]? = some (ia E 0 640 T)) (hTP : TP T n) (ha : M[a]? = some (ia E 0 770 w)) (hrd : M[rd]? = some (ia E 0 770 u0)) (hmr : m ≠ rd) (htr : t ≠ rd) (hma : m ≠ a) (hta : t ≠ a) (har : a ≠ rd) (hq : ∀ f pl, sText T n = .inl (f, pl) → ∀ M2, RS E M2 m t a rd c q f0 0 f cnt → (∃ u, M2[rd]? = some (ia E 0 770 u)) → M2[a]? = some (ia E 0 770 w) → F3 m rd a M M2 → Post (some (iv (-1 - pl))) M2) (hp : ∀ w2 k, sText T n = .inr (w2, k) → ∀ M2, RS E M2 m t a rd c q f0 0 0 0 → (∃ u, M2[rd]? = some (ia E 0 770 u)) → M2[a]? = some (ia E 0 770 w2) → F3 m rd a M M2 → Post (some (iv k)) M2)  : Cn E rX8_text mX8_text [rr E m] M Post := by
  obtain ⟨sz, to, fr, so, nu, pl, wd, td, ln, hm⟩ := hS
  refine Cn.of (L := [some (rr E m), none]) (by decide) (Nat.le_of_ble_eq_true rfl) rfl ?_
  refine v_aload_0 dX8_text_0 ?_
  refine v_aload_0 dX8_text_1 ?_
  refine g_X8_11 rfl dX8_text_2 hm ?_
  refine p_X8_18 rfl dX8_text_5 hm ?_
  refine v_aload_0 dX8_text_8 ?_
  refine v_iconst dX8_text_9 ?_
  refine p_X8_11 rfl dX8_text_10 (gs_eq hm) ?_
  rw [gs_gs]
  refine v_aload_0 dX8_text_13 ?_
  refine v_iconst dX8_text_14 ?_
  refine p_X8_62 rfl dX8_text_15 (gs_eq hm) ?_
  rw [gs_gs]
  refine v_aload_0 dX8_text_18 ?_
  refine v_iconst dX8_text_19 ?_
  refine p_X8_21 rfl dX8_text_20 (gs_eq hm) ?_
  rw [gs_gs]
  refine v_aload_0 dX8_text_23 ?_
  refine v_iconst dX8_text_24 ?_
  refine p_X8_128 rfl dX8_text_25 (gs_eq hm) ?_
  rw [gs_gs]
  refine v_iconst dX8_text_28 ?_
  refine v_istore_1 dX8_text_29 (Nat.le_of_ble_eq_true rfl) rfl ?_
  exact t1_X8_text (gs_eq hm) (gs_ne (ob_ia hm ht).symm ht) hTP (gs_ne hma ha) (gs_ne hmr hrd) hmr htr hma hta har (fun f pl e M2 h1 h2 h3 h4 => hq f pl e M2 h1 h2 h3 ((Fx.f3 Fm.set.x).tr h4)) (fun w2 k e M2 h1 h2 h3 h4 => hp w2 k e M2 h1 h2 h3 ((Fx.f3 Fm.set.x).tr h4))
