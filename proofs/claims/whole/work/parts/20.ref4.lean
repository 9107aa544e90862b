theorem ts_st (P : Int → Bool) {h x : Int} (hx : h ≤ x) : tsN P (x + 1 - h).toNat = tsN P (x - h).toNat + (if P (x - h) = true then 2 ^ (x - h).toNat else 0) := by
  have e : (x + 1 - h).toNat = (x - h).toNat + 1 := by omega
  have e2 : (((x - h).toNat : Nat) : Int) = x - h := by omega
  rw [e, tsN, e2]
theorem ts_rest (P : Int → Bool) (n : Nat) : ∀ d : Nat, (∀ i : Nat, n ≤ i → i < n + d → P i = false) → tsN P (n + d) = tsN P n
  | 0, _ => rfl
  | d + 1, h => by
    rw [← Nat.add_assoc, tsN, ts_rest P n d (fun i a b => h i a (by omega)), h (n + d) (by omega) (by omega)]
    simp
theorem ts_tc {w : Int → Int} (hw : WF w) {s k h v x : Int} (hP : Pl w s k h) (v0 : -1 ≤ v) (v1 : v ≤ 999) (hx : h ≤ x) (hx2 : x ≤ h + 12) (hc : w 0 ≤ x ∨ h + 12 ≤ x) : tsN (tcB w s k h v) (x - h).toNat = tcW w s k h v := by
  have e := ts_rest (tcB w s k h v) (x - h).toNat (12 - (x - h).toNat) (fun i a b => ?_)
  · rw [show (x - h).toNat + (12 - (x - h).toNat) = 12 by omega] at e
    exact e.symm
  · unfold tcB
    have e0 := up_lo w hP (v + 1) (j := 0) (by omega)
    rw [ix_none (w := upI w (atW s k h) (v + 1)) s (h + i) (fun q => by have := q.2.2; omega), ix_none (w := w) s (h + i) (by omega)]
    simp

theorem up_upto {g f : Int → Int} {x : Int} (h : ∀ j, 0 ≤ j → j < x → g j = f j) : ∀ j, 0 ≤ j → j < x + 1 → upI g x (f x) j = f j := by
  intro j j0 j1
  by_cases e : j = x
  · rw [e, upI_s]
  · rw [upI_n _ _ e]; exact h j j0 (by omega)

set_option maxRecDepth 100000 in
theorem lp_X8_corrects {E : Ev} {M : Mem} {Post : Option Value → Mem → Prop} {m a q : Nat} {f0 f1 f2 f3 f4 f5 f6 f7 f8 f9 f10 f12 f13 f14 f15 f16 : Value} {w bf : Int → Int} (hm : M[m]? = some (ob 8 [f0, f1, f2, f3, f4, f5, f6, f7, f8, f9, f10, rr E a, f12, f13, f14, f15, f16, rr E q])) (ha : M[a]? = some (ia E 0 770 w)) (hb : M[q]? = some (ia E 0 60 bf)) (hqa : q ≠ a) (hw : WF w) {s k h v : Int} (s0 : 0 ≤ s) (s1 : s < w 2) (kx : ∀ (x : Int) (g : Int → Int), x = w 0 → (∀ j, 0 ≤ j → j < w 0 → g j = ixW w s j) → V E rX8_corrects mX8_corrects (finM E rX8_corrects Post) 0 0 (M.set q (ia E 0 60 g)) 34 [some (rr E m), some (iv s), some (iv k), some (iv h), some (iv v), some (iv x), none] []) : V E rX8_corrects mX8_corrects (finM E rX8_corrects Post) 0 0 M 3 [some (rr E m), some (iv s), some (iv k), some (iv h), some (iv v), some (iv 0), none] [] := by
  have n0 := hw.1
  have lp : ∀ (r : Nat) (x : Int) (g : Int → Int), (0 ≤ x) → (x ≤ w 0) → (∀ j, 0 ≤ j → j < x → g j = ixW w s j) → w 0 - x < (r : Int) → V E rX8_corrects mX8_corrects (finM E rX8_corrects Post) 0 0 (M.set q (ia E 0 60 g)) 3 [some (rr E m), some (iv s), some (iv k), some (iv h), some (iv v), some (iv x), none] [] := by
    intro r
    induction r with
    | zero => intro x g h_0 h_1 h_2 hz; exact absurd hz (by omega)
    | succ r ih =>
      intro x g h_0 h_1 h_2 hz
      refine v_iload_5 dX8_corrects_3 ?_
      refine v_aload_0 dX8_corrects_5 ?_
      refine g_X8_74 rfl dX8_corrects_6 (gs_ne (ob_ia hm hb) hm) ?_
      refine v_iconst dX8_corrects_9 ?_
      refine v_iaload dX8_corrects_10 (gs_ne hqa ha) (by omega) (by omega) (by decide) ?_
      refine v_icmp_ge (tgt := 34) dX8_corrects_11 rfl ⟨by omega, by omega⟩ ⟨by omega, by omega⟩ (fun c11 => ?_) (fun c11 => ?_)
      · exact kx x g (by omega) (fun j j0 j1 => h_2 j j0 (by omega))
      · refine v_aload_0 dX8_corrects_14 ?_
        refine g_X8_83 rfl dX8_corrects_15 (gs_ne (ob_ia hm hb) hm) ?_
        refine v_iload_5 dX8_corrects_18 ?_
        refine v_aload_0 dX8_corrects_20 ?_
        refine v_iload_1 dX8_corrects_21 ?_
        refine v_iload_5 dX8_corrects_22 ?_
        refine l_X8_191 rfl dX8_corrects_24 (gs_ne (ob_ia hm hb) hm) ⟨Nat.le_of_ble_eq_true rfl, Nat.le_of_ble_eq_true rfl⟩ (Nat.le_of_ble_eq_true rfl) ⟨Nat.le_refl _, Nat.le_refl _⟩ (c_X8_indexOf (gs_ne (ob_ia hm hb) hm) (gs_ne hqa ha) hw s0 s1 (by omega) (by omega) ?_)
        refine v_iastore dX8_corrects_27 (gs_eq hb) (by omega) (by omega) (by decide) ?_
        rw [gs_gs]
        refine v_iinc_5 dX8_corrects_28 (Nat.le_of_ble_eq_true rfl) rfl ?_
        refine v_goto (tgt := 3) dX8_corrects_31 rfl ?_
        exact ih (x + 1) _ (by omega) (by omega) (up_upto h_2) (by omega)
  have t := lp (w 0 + 1).toNat 0 bf (by omega) (by omega) (fun j j0 j1 => by omega) (by omega)
  rw [gs_id hb] at t
  exact t

set_option maxRecDepth 100000 in
theorem lq_X8_corrects {E : Ev} {M : Mem} {Post : Option Value → Mem → Prop} {m a q : Nat} {f0 f1 f2 f3 f4 f5 f6 f7 f8 f9 f10 f12 f13 f14 f15 f16 : Value} {w bf : Int → Int} (hm : M[m]? = some (ob 8 [f0, f1, f2, f3, f4, f5, f6, f7, f8, f9, f10, rr E a, f12, f13, f14, f15, f16, rr E q])) (ha : M[a]? = some (ia E 0 770 w)) (hb : M[q]? = some (ia E 0 60 bf)) (hqa : q ≠ a) (hw : WF w) {s k h v : Int} {g : Int → Int} (hg : ∀ j, 0 ≤ j → j < w 0 → g j = ixW w s j) (hP : Pl w s k h) (v0 : -1 ≤ v) (v1 : v ≤ 999) (hp : ∀ g, Post (some (iv (tcW w s k h v))) ((M.set q (ia E 0 60 g)).set a (ia E 0 770 (upI w (atW s k h) (v + 1))))) : V E rX8_corrects mX8_corrects (finM E rX8_corrects Post) 0 0 ((M.set q (ia E 0 60 g)).set a (ia E 0 770 (upI w (atW s k h) (v + 1)))) 55 [some (rr E m), some (iv s), some (iv k), some (iv h), some (iv v), some (iv 0), some (iv h)] [] := by
  have lp : ∀ (r : Nat) (x : Int), (h ≤ x) → (x ≤ w 0) → (x ≤ h + 12) → w 0 - x < (r : Int) → V E rX8_corrects mX8_corrects (finM E rX8_corrects Post) 0 0 ((M.set q (ia E 0 60 g)).set a (ia E 0 770 (upI w (atW s k h) (v + 1)))) 55 [some (rr E m), some (iv s), some (iv k), some (iv h), some (iv v), some (iv (tsN (tcB w s k h v) (x - h).toNat)), some (iv x)] [] := by
    intro r
    induction r with
    | zero => intro x h_0 h_1 h_2 hz; exact absurd hz (by omega)
    | succ r ih =>
      intro x h_0 h_1 h_2 hz
      have hw2 := hw.up (v := v) hP v0 v1
      have e0 := up_lo w hP (v + 1) (j := 0) (by omega)
      have e2 := up_lo w hP (v + 1) (j := 2) (by omega)
      have n0 := hw.1
      refine v_iload_6 dX8_corrects_55 ?_
      refine v_aload_0 dX8_corrects_57 ?_
      refine g_X8_74 rfl dX8_corrects_58 (gs_ne (ob_ia hm ha) (gs_ne (ob_ia hm hb) hm)) ?_
      refine v_iconst dX8_corrects_61 ?_
      refine v_iaload dX8_corrects_62 (gs_eq (gs_ne hqa ha)) (by omega) (by omega) (by decide) ?_
      rw [e0]
      refine v_icmp_ge (tgt := 109) dX8_corrects_63 rfl ⟨by omega, by omega⟩ ⟨by omega, by omega⟩ (fun c63 => ?_) (fun c63 => ?_)
      · refine v_iload_5 dX8_corrects_109 ?_
        exact v_iret dX8_corrects_111 rfl (Nat.le_refl _) (Nat.le_refl _) (by rw [ts_tc hw hP v0 v1 h_0 h_2 (by omega)]; exact hp g)
      · refine v_iload_6 dX8_corrects_66 ?_
        refine v_iload_3 dX8_corrects_68 ?_
        refine v_bipush dX8_corrects_69 (by decide) ?_
        refine v_iadd dX8_corrects_71 ?_
        refine v_icmp_ge (tgt := 109) dX8_corrects_72 rfl ⟨by omega, by omega⟩ ⟨by omega, by omega⟩ (fun c72 => ?_) (fun c72 => ?_)
        · refine v_iload_5 dX8_corrects_109 ?_
          exact v_iret dX8_corrects_111 rfl (Nat.le_refl _) (Nat.le_refl _) (by rw [ts_tc hw hP v0 v1 h_0 h_2 (by omega)]; exact hp g)
        · refine v_aload_0 dX8_corrects_75 ?_
          refine v_iload_1 dX8_corrects_76 ?_
          refine v_iload_6 dX8_corrects_77 ?_
          refine l_X8_191 rfl dX8_corrects_79 (gs_ne (ob_ia hm ha) (gs_ne (ob_ia hm hb) hm)) ⟨Nat.le_of_ble_eq_true rfl, Nat.le_of_ble_eq_true rfl⟩ (Nat.le_of_ble_eq_true rfl) ⟨Nat.le_refl _, Nat.le_refl _⟩ (c_X8_indexOf (gs_ne (ob_ia hm ha) (gs_ne (ob_ia hm hb) hm)) (gs_eq (gs_ne hqa ha)) hw2 (by omega) (by omega) (by omega) (by omega) ?_)
          refine v_aload_0 dX8_corrects_82 ?_
          refine g_X8_83 rfl dX8_corrects_83 (gs_ne (ob_ia hm ha) (gs_ne (ob_ia hm hb) hm)) ?_
          refine v_iload_6 dX8_corrects_86 ?_
          refine v_iaload dX8_corrects_88 (gs_ne hqa.symm (gs_eq hb)) (by omega) (by omega) (by decide) ?_
          rw [hg x (by omega) (by omega)]
          have b1 := ix_bd hw2 s x
          have b3 := ix_bd hw s x
          refine v_icmp_eq (tgt := 103) dX8_corrects_89 rfl ⟨by omega, by omega⟩ ⟨by omega, by omega⟩ (fun c89 => ?_) (fun c89 => ?_)
          · refine v_iinc_6 dX8_corrects_103 (Nat.le_of_ble_eq_true rfl) rfl ?_
            refine v_goto (tgt := 55) dX8_corrects_106 rfl ?_
            exact v_weak [some (rr E m), some (iv s), some (iv k), some (iv h), some (iv v), some (iv (tsN (tcB w s k h v) ((x + 1) - h).toNat)), some (iv (x + 1))] ⟨rfl, rfl, rfl, rfl, rfl, by rw [ts_st _ h_0, if_neg (by unfold tcB; rw [show h + (x - h) = x by omega, c89]; simp), Int.add_zero], rfl, trivial⟩ (ih (x + 1) (by omega) (by omega) (by omega) (by omega))
          · refine v_iload_5 dX8_corrects_92 ?_
            refine v_iconst dX8_corrects_94 ?_
            refine v_iload_6 dX8_corrects_95 ?_
            refine v_iload_3 dX8_corrects_97 ?_
            refine v_isub dX8_corrects_98 ?_
            refine v_ishl dX8_corrects_99 (by have t := shl_one (x - h).toNat (by omega); rwa [toNat_cast (by omega)] at t) ?_
            refine v_ior dX8_corrects_100 (by have t := ts_bd (tcB w s k h v) (x - h).toNat; exact or_add _ (by omega) t.1 t.2) ?_
            refine v_istore_5 dX8_corrects_101 (Nat.le_of_ble_eq_true rfl) rfl ?_
            refine v_iinc_6 dX8_corrects_103 (Nat.le_of_ble_eq_true rfl) rfl ?_
            refine v_goto (tgt := 55) dX8_corrects_106 rfl ?_
            exact v_weak [some (rr E m), some (iv s), some (iv k), some (iv h), some (iv v), some (iv (tsN (tcB w s k h v) ((x + 1) - h).toNat)), some (iv (x + 1))] ⟨rfl, rfl, rfl, rfl, rfl, by rw [ts_st _ h_0, if_pos (by unfold tcB; rw [show h + (x - h) = x by omega]; exact decide_eq_true c89)], rfl, trivial⟩ (ih (x + 1) (by omega) (by omega) (by omega) (by omega))
  exact v_weak [some (rr E m), some (iv s), some (iv k), some (iv h), some (iv v), some (iv (tsN (tcB w s k h v) (h - h).toNat)), some (iv h)] ⟨rfl, rfl, rfl, rfl, rfl, by rw [show (h - h).toNat = 0 by omega]; rfl, rfl, trivial⟩ (lp (w 0 + 1).toNat h (by omega) (by omega) (by omega) (by omega))

set_option maxRecDepth 100000 in
theorem c_X8_corrects {E : Ev} {M : Mem} {Post : Option Value → Mem → Prop} {m a q : Nat} {f0 f1 f2 f3 f4 f5 f6 f7 f8 f9 f10 f12 f13 f14 f15 f16 : Value} {w bf : Int → Int} (hm : M[m]? = some (ob 8 [f0, f1, f2, f3, f4, f5, f6, f7, f8, f9, f10, rr E a, f12, f13, f14, f15, f16, rr E q])) (ha : M[a]? = some (ia E 0 770 w)) (hb : M[q]? = some (ia E 0 60 bf)) (hqa : q ≠ a) (hw : WF w) {s k h v : Int} (hP : Pl w s k h) (v0 : -1 ≤ v) (v1 : v ≤ 999) (hp : ∀ g, Post (some (iv (tcW w s k h v))) ((M.set q (ia E 0 60 g)).set a (ia E 0 770 (upI w (atW s k h) (v + 1))))) : Cn E rX8_corrects mX8_corrects [rr E m, iv s, iv k, iv h, iv v] M Post := by
  refine Cn.of (L := [some (rr E m), some (iv s), some (iv k), some (iv h), some (iv v), none, none]) (by decide) (Nat.le_of_ble_eq_true rfl) rfl ?_
  refine v_iconst dX8_corrects_0 ?_
  refine v_istore_5 dX8_corrects_1 (Nat.le_of_ble_eq_true rfl) rfl ?_
  refine lp_X8_corrects hm ha hb hqa hw hP.1 hP.2.1 (fun x g hx hg => ?_)
  refine v_aload_0 dX8_corrects_34 ?_
  refine g_X8_74 rfl dX8_corrects_35 (gs_ne (ob_ia hm hb) hm) ?_
  refine v_iload_1 dX8_corrects_38 ?_
  refine v_iload_2 dX8_corrects_39 ?_
  refine v_iload_3 dX8_corrects_40 ?_
  refine l_X8_132 rfl dX8_corrects_41 ⟨Nat.le_of_ble_eq_true rfl, Nat.le_of_ble_eq_true rfl⟩ (Nat.le_of_ble_eq_true rfl) ⟨Nat.le_refl _, Nat.le_refl _⟩ (c_X8_at ?_)
  refine v_iload_4 dX8_corrects_44 ?_
  refine v_iconst dX8_corrects_46 ?_
  refine v_iadd dX8_corrects_47 ?_
  refine v_iastore dX8_corrects_48 (gs_ne hqa ha) (by omega) (by omega) (by decide) ?_
  refine v_iconst dX8_corrects_49 ?_
  refine v_istore_5 dX8_corrects_50 (Nat.le_of_ble_eq_true rfl) rfl ?_
  refine v_iload_3 dX8_corrects_52 ?_
  refine v_istore_6 dX8_corrects_53 (Nat.le_of_ble_eq_true rfl) rfl ?_
  exact lq_X8_corrects hm ha hb hqa hw hg hP v0 v1 hp

theorem upI_up' (f : Int → Int) (z z2 x y : Int) (h : z = z2) : upI (upI f z x) z2 y = upI f z2 y := by subst h; exact upI_up f z x y

set_option maxRecDepth 100000 in
theorem c_X8_touches {E : Ev} {M : Mem} {Post : Option Value → Mem → Prop} {m a q : Nat} {f0 f1 f2 f3 f4 f5 f6 f7 f8 f9 f10 f12 f13 f14 f15 f16 : Value} {w bf : Int → Int} (hm : M[m]? = some (ob 8 [f0, f1, f2, f3, f4, f5, f6, f7, f8, f9, f10, rr E a, f12, f13, f14, f15, f16, rr E q])) (ha : M[a]? = some (ia E 0 770 w)) (hb : M[q]? = some (ia E 0 60 bf)) (hqa : q ≠ a) (hw : WF w) {s k h : Int} (hs : I32 s) (hk : I32 k) (hh : I32 h) {v : Int} (hv : I32 v) (hp : ∀ g, Post (some (iv (qTc w s k h v))) (M.set q (ia E 0 60 g))) : Cn E rX8_touches mX8_touches [rr E m, iv s, iv k, iv h, iv v] M Post := by
  refine Cn.of (L := [some (rr E m), some (iv s), some (iv k), some (iv h), some (iv v), none, none]) (by decide) (Nat.le_of_ble_eq_true rfl) rfl ?_
  refine v_aload_0 dX8_touches_0 ?_
  refine v_iload_1 dX8_touches_1 ?_
  refine v_iload_2 dX8_touches_2 ?_
  refine v_iload_3 dX8_touches_3 ?_
  refine v_iload_4 dX8_touches_4 ?_
  refine l_X8_198 rfl dX8_touches_6 hm ⟨Nat.le_of_ble_eq_true rfl, Nat.le_of_ble_eq_true rfl⟩ (Nat.le_of_ble_eq_true rfl) ⟨Nat.le_refl _, Nat.le_refl _⟩ (c_X8_canCorrect hm ha hw hs hk hh hv ?_)
  refine v_ifne_b (tgt := 14) dX8_touches_9 rfl (fun hC => ?_) (fun hC => ?_)
  · refine v_aload_0 dX8_touches_14 ?_
    refine v_iload_1 dX8_touches_15 ?_
    refine v_iload_2 dX8_touches_16 ?_
    refine v_iload_3 dX8_touches_17 ?_
    refine l_X8_169 rfl dX8_touches_18 hm ⟨Nat.le_of_ble_eq_true rfl, Nat.le_of_ble_eq_true rfl⟩ (Nat.le_of_ble_eq_true rfl) ⟨Nat.le_refl _, Nat.le_refl _⟩ (c_X8_readOf hm ha hC.1 ?_)
    refine v_istore_5 dX8_touches_21 (Nat.le_of_ble_eq_true rfl) rfl ?_
    refine v_aload_0 dX8_touches_23 ?_
    refine v_iload_1 dX8_touches_24 ?_
    refine v_iload_2 dX8_touches_25 ?_
    refine v_iload_3 dX8_touches_26 ?_
    refine v_iload_4 dX8_touches_27 ?_
    refine l_X8_202 rfl dX8_touches_29 hm ⟨Nat.le_of_ble_eq_true rfl, Nat.le_of_ble_eq_true rfl⟩ (Nat.le_of_ble_eq_true rfl) ⟨Nat.le_refl _, Nat.le_refl _⟩ (c_X8_corrects hm ha hb hqa hw hC.1 hC.2.1 hC.2.2 (fun g => ?_))
    refine v_istore_6 dX8_touches_32 (Nat.le_of_ble_eq_true rfl) rfl ?_
    refine v_aload_0 dX8_touches_34 ?_
    refine g_X8_74 rfl dX8_touches_35 (gs_ne (ob_ia hm ha) (gs_ne (ob_ia hm hb) hm)) ?_
    refine v_iload_1 dX8_touches_38 ?_
    refine v_iload_2 dX8_touches_39 ?_
    refine v_iload_3 dX8_touches_40 ?_
    refine l_X8_132 rfl dX8_touches_41 ⟨Nat.le_of_ble_eq_true rfl, Nat.le_of_ble_eq_true rfl⟩ (Nat.le_of_ble_eq_true rfl) ⟨Nat.le_refl _, Nat.le_refl _⟩ (c_X8_at ?_)
    refine v_iload_5 dX8_touches_44 ?_
    refine v_iconst dX8_touches_46 ?_
    refine v_iadd dX8_touches_47 ?_
    refine v_iastore dX8_touches_48 (gs_eq (gs_ne hqa ha)) (by have := hC.1; omega) (by have := hC.1; omega) (by decide) ?_
    rw [gs_gs]
    have ee : upI (upI w (atW s k h) (v + 1)) (50 + 60 * (3 * s + k) + h) (rdA w s k h + 1) = w := by
      rw [rd_pos' hC.1, Int.sub_add_cancel, show upI (upI w (atW s k h) (v + 1)) (50 + 60 * (3 * s + k) + h) = upI (upI w (50 + 60 * (3 * s + k) + h) (v + 1)) (50 + 60 * (3 * s + k) + h) from rfl, upI_up, upI_id]
    rw [ee, gs_id (gs_ne hqa ha)]
    refine v_iload_6 dX8_touches_49 ?_
    exact v_iret dX8_touches_51 rfl (Nat.le_refl _) (Nat.le_refl _) (by have t := hp g; unfold qTc at t; rw [if_pos hC] at t; exact t)
  · refine v_iconst dX8_touches_12 ?_
    exact v_iret dX8_touches_13 rfl (Nat.le_refl _) (Nat.le_refl _) (by have t := hp bf; rw [gs_id hb] at t; unfold qTc at t; rw [if_neg hC] at t; exact t)
