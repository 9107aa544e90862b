section ARR
variable {E : Ev} {R : Room} {mi : MI} {fin : Fin9} {K N : Nat} {M : Mem} {pc : Nat} {L : List (Option Value)} {st : List Value}
theorem arrV_cong (c : ClassId) (n : Nat) {f g : Nat → Value} (h : ∀ j, j < n → f j = g j) : arrV c n f = arrV c n g := by
  unfold arrV
  have e : (Array.ofFn (n := n) fun j => f j.val) = (Array.ofFn (n := n) fun j => g j.val) := by
    congr 1
    funext j
    exact h j.val j.isLt
  rw [e]
/-- an array may be told by any numbers that agree within it -/
theorem v_arr {a n t : Nat} {f g : Int → Int} (hM : M[a]? = some (ia E t n f)) (h : ∀ j, 0 ≤ j → j < n → f j = g j) (k : V E R mi fin K N (M.set a (ia E t n g)) pc L st) : V E R mi fin K N M pc L st := by
  intro p e s m args below meth c H locs ls d0 C hd hP hS hl
  refine k p e s m args below meth c H locs ls d0 C hd (hP.put (e1 := ia E t n g) hM ?_ rfl (fun _ _ => rfl)) hS hl
  have h0 := hP.1 a _ (wl_get hM)
  show H[E.b + a]? = some (vp_cell (E.c t) (n, .inl (fun j => Int32.ofInt (g j))))
  have h1 : H[E.b + a]? = some (vp_cell (E.c t) (n, .inl (fun j => Int32.ofInt (f j)))) := h0
  rw [h1, vp_cell_i, vp_cell_i]
  exact congrArg some (arrV_cong _ _ (fun j hj => by rw [h j (by omega) (by omega)]))
end ARR
/-! the acts that can be undone: rows, the oldest first, the office's own behind them -/
def bn (n : Nat) : Nat := if n < 10 then n else 9
def br (n : Nat) (rows : Nat → Int → Int) : Nat → Int → Int := if n < 10 then rows else fun j => rows (j + 1)
def pushR (n : Nat) (rows : Nat → Int → Int) (w2 : Int → Int) : Nat → Int → Int := fun j => if j ≤ bn n then br n rows j else w2
theorem bn_le {n : Nat} (h : n ≤ 10) : bn n ≤ 9 := by unfold bn; split <;> omega
theorem br_last {n : Nat} (h : n ≤ 10) (rows : Nat → Int → Int) : br n rows (bn n) = rows n := by
  unfold br bn
  by_cases c : n < 10
  · rw [if_pos c, if_pos c]
  · rw [if_neg c, if_neg c]
    show rows (9 + 1) = rows n
    rw [show n = 10 by omega]
theorem push_last (n : Nat) (rows : Nat → Int → Int) (w2 : Int → Int) : pushR n rows w2 (bn n + 1) = w2 := if_neg (by omega)
theorem push_old {n j : Nat} (h : j ≤ bn n) (rows : Nat → Int → Int) (w2 : Int → Int) : pushR n rows w2 j = br n rows j := if_pos h
/-- what the reference has kept -/
def SnAt (n : Nat) (rows : Nat → Int → Int) (sn : Int → Int) : Prop := ∀ i : Nat, i < n → ∀ k, 0 ≤ k → k < 770 → sn (770 * i + k) = rows i k

set_option maxRecDepth 100000 in
theorem lp_X8_snap {E : Ev} {M : Mem} {Post : Option Value → Mem → Prop} {m a c : Nat} {f0 f1 f2 f3 f4 f5 f6 f7 f8 f9 f10 f12 f15 f16 f17 : Value} {w sn : Int → Int} {n : Nat} (hm : M[m]? = some (ob 8 [f0, f1, f2, f3, f4, f5, f6, f7, f8, f9, f10, rr E a, f12, rr E c, iv (n : Nat), f15, f16, f17])) (ha : M[a]? = some (ia E 0 770 w)) (hc : M[c]? = some (ia E 0 7700 sn)) (hca : c ≠ a) (kx : ∀ (x : Int) (g : Int → Int), x = 6930 → (∀ j, 0 ≤ j → j < 6930 → g j = sn (j + 770)) → V E rX8_snap mX8_snap (finM E rX8_snap Post) 0 0 (M.set c (ia E 0 7700 g)) 40 [some (rr E m), some (iv x)] []) : V E rX8_snap mX8_snap (finM E rX8_snap Post) 0 0 M 11 [some (rr E m), some (iv 0)] [] := by
  have lp : ∀ (r : Nat) (x : Int) (g : Int → Int), (0 ≤ x) → (x ≤ 6930) → (∀ j, 0 ≤ j → j < x → g j = sn (j + 770)) → (∀ j, x ≤ j → g j = sn j) → 6930 - x < (r : Int) → V E rX8_snap mX8_snap (finM E rX8_snap Post) 0 0 (M.set c (ia E 0 7700 g)) 11 [some (rr E m), some (iv x)] [] := by
    intro r
    induction r with
    | zero => intro x g h_0 h_1 h_2 h_3 hz; exact absurd hz (by omega)
    | succ r ih =>
      intro x g h_0 h_1 h_2 h_3 hz
      refine v_iload_1 dX8_snap_11 ?_
      refine v_sipush dX8_snap_12 (by decide) ?_
      refine v_icmp_ge (tgt := 40) dX8_snap_15 rfl ⟨by omega, by omega⟩ ⟨by omega, by omega⟩ (fun c15 => ?_) (fun c15 => ?_)
      · exact kx x g (by omega) (fun j j0 j1 => h_2 j j0 (by omega))
      · refine v_aload_0 dX8_snap_18 ?_
        refine g_X8_80 rfl dX8_snap_19 (gs_ne (ob_ia hm hc) hm) ?_
        refine v_iload_1 dX8_snap_22 ?_
        refine v_aload_0 dX8_snap_23 ?_
        refine g_X8_80 rfl dX8_snap_24 (gs_ne (ob_ia hm hc) hm) ?_
        refine v_iload_1 dX8_snap_27 ?_
        refine v_sipush dX8_snap_28 (by decide) ?_
        refine v_iadd dX8_snap_31 ?_
        refine v_iaload dX8_snap_32 (gs_eq hc) (by omega) (by omega) (by decide) ?_
        refine v_iastore dX8_snap_33 (gs_eq hc) (by omega) (by omega) (by decide) ?_
        rw [gs_gs]
        refine v_iinc_1 dX8_snap_34 (Nat.le_of_ble_eq_true rfl) rfl ?_
        refine v_goto (tgt := 11) dX8_snap_37 rfl ?_
        exact ih (x + 1) _ (by omega) (by omega) (fun j j0 j1 => by
          by_cases e : j = x
          · rw [e, upI_s, h_3 _ (by omega)]
          · rw [upI_n _ _ e]; exact h_2 j j0 (by omega)) (fun j j0 => by rw [upI_n _ _ (by omega)]; exact h_3 j (by omega)) (by omega)
  have t := lp 6931 0 sn (by omega) (by omega) (fun j j0 j1 => by omega) (fun j _ => rfl) (by omega)
  rw [gs_id hc] at t
  exact t

set_option maxRecDepth 100000 in
theorem lq_X8_snap {E : Ev} {M : Mem} {Post : Option Value → Mem → Prop} {m a c : Nat} {f0 f1 f2 f3 f4 f5 f6 f7 f8 f9 f10 f12 f15 f16 f17 : Value} {w sn : Int → Int} {n : Nat} (hm : M[m]? = some (ob 8 [f0, f1, f2, f3, f4, f5, f6, f7, f8, f9, f10, rr E a, f12, rr E c, iv (n : Nat), f15, f16, f17])) (ha : M[a]? = some (ia E 0 770 w)) (hc : M[c]? = some (ia E 0 7700 sn)) (hca : c ≠ a) (hn : n ≤ 9) (kx : ∀ (x : Int) (g : Int → Int), x = 770 → (∀ j, 0 ≤ j → j < 770 → g (770 * n + j) = w j) → (∀ j, j < 770 * (n : Int) → g j = sn j) → V E rX8_snap mX8_snap (finM E rX8_snap Post) 0 0 (M.set c (ia E 0 7700 g)) 86 [some (rr E m), some (iv x)] []) : V E rX8_snap mX8_snap (finM E rX8_snap Post) 0 0 M 52 [some (rr E m), some (iv 0)] [] := by
  have lp : ∀ (r : Nat) (x : Int) (g : Int → Int), (0 ≤ x) → (x ≤ 770) → (∀ j, 0 ≤ j → j < x → g (770 * n + j) = w j) → (∀ j, j < 770 * (n : Int) → g j = sn j) → 770 - x < (r : Int) → V E rX8_snap mX8_snap (finM E rX8_snap Post) 0 0 (M.set c (ia E 0 7700 g)) 52 [some (rr E m), some (iv x)] [] := by
    intro r
    induction r with
    | zero => intro x g h_0 h_1 h_2 h_3 hz; exact absurd hz (by omega)
    | succ r ih =>
      intro x g h_0 h_1 h_2 h_3 hz
      refine v_iload_1 dX8_snap_52 ?_
      refine v_sipush dX8_snap_53 (by decide) ?_
      refine v_icmp_ge (tgt := 86) dX8_snap_56 rfl ⟨by omega, by omega⟩ ⟨by omega, by omega⟩ (fun c56 => ?_) (fun c56 => ?_)
      · exact kx x g (by omega) (fun j j0 j1 => h_2 j j0 (by omega)) h_3
      · refine v_aload_0 dX8_snap_59 ?_
        refine g_X8_80 rfl dX8_snap_60 (gs_ne (ob_ia hm hc) hm) ?_
        refine v_sipush dX8_snap_63 (by decide) ?_
        refine v_aload_0 dX8_snap_66 ?_
        refine g_X8_154 rfl dX8_snap_67 (gs_ne (ob_ia hm hc) hm) ?_
        refine v_imul dX8_snap_70 ?_
        refine v_iload_1 dX8_snap_71 ?_
        refine v_iadd dX8_snap_72 ?_
        refine v_aload_0 dX8_snap_73 ?_
        refine g_X8_74 rfl dX8_snap_74 (gs_ne (ob_ia hm hc) hm) ?_
        refine v_iload_1 dX8_snap_77 ?_
        refine v_iaload dX8_snap_78 (gs_ne hca ha) (by omega) (by omega) (by decide) ?_
        refine v_iastore dX8_snap_79 (gs_eq hc) (by omega) (by omega) (by decide) ?_
        rw [gs_gs]
        refine v_iinc_1 dX8_snap_80 (Nat.le_of_ble_eq_true rfl) rfl ?_
        refine v_goto (tgt := 52) dX8_snap_83 rfl ?_
        exact ih (x + 1) _ (by omega) (by omega) (fun j j0 j1 => by
          by_cases e : j = x
          · rw [e, upI_s]
          · rw [upI_n _ _ (by omega)]; exact h_2 j j0 (by omega)) (fun j j0 => by rw [upI_n _ _ (by omega)]; exact h_3 j j0) (by omega)
  have t := lp 771 0 sn (by omega) (by omega) (fun j j0 j1 => by omega) (fun j _ => rfl) (by omega)
  rw [gs_id hc] at t
  exact t

theorem sn_add {n : Nat} {rows : Nat → Int → Int} {w sn g : Int → Int} (hs : SnAt n rows sn) (hr : rows n = w) (h1 : ∀ j, 0 ≤ j → j < 770 → g (770 * n + j) = w j) (h2 : ∀ j, j < 770 * (n : Int) → g j = sn j) : SnAt (n + 1) rows g := by
  intro i hi k k0 k1
  by_cases e : i = n
  · subst e; rw [h1 k k0 k1, hr]
  · rw [h2 _ (by omega)]; exact hs i (by omega) k k0 k1
theorem sn_shift {n : Nat} {rows : Nat → Int → Int} {w sn g g2 : Int → Int} (h10 : n = 10) (hs : SnAt n rows sn) (hr : rows n = w) (h0 : ∀ j, 0 ≤ j → j < 6930 → g j = sn (j + 770)) (h1 : ∀ j, 0 ≤ j → j < 770 → g2 (770 * (9 : Nat) + j) = w j) (h2 : ∀ j, j < 770 * ((9 : Nat) : Int) → g2 j = g j) : SnAt (9 + 1) (br n rows) g2 := by
  have e : br n rows = fun j => rows (j + 1) := if_neg (by omega)
  rw [e]
  intro i hi k k0 k1
  show g2 _ = rows (i + 1) k
  by_cases c : i = 9
  · subst c; subst h10; rw [h1 k k0 k1, ← hr]
  · rw [h2 _ (by omega), h0 _ (by omega) (by omega), show 770 * (i : Int) + k + 770 = 770 * ((i + 1 : Nat) : Int) + k by omega]
    exact hs (i + 1) (by omega) k k0 k1

set_option maxRecDepth 100000 in
theorem c_X8_snap {E : Ev} {M : Mem} {Post : Option Value → Mem → Prop} {m a c : Nat} {f0 f1 f2 f3 f4 f5 f6 f7 f8 f9 f10 f12 f15 f16 f17 : Value} {w sn : Int → Int} {n : Nat} {rows : Nat → Int → Int} (hm : M[m]? = some (ob 8 [f0, f1, f2, f3, f4, f5, f6, f7, f8, f9, f10, rr E a, f12, rr E c, iv (n : Nat), f15, f16, f17])) (ha : M[a]? = some (ia E 0 770 w)) (hc : M[c]? = some (ia E 0 7700 sn)) (hca : c ≠ a) (hn : n ≤ 10) (hr : rows n = w) (hs : SnAt n rows sn) (hp : ∀ sn2, SnAt (bn n + 1) (br n rows) sn2 → Post none ((M.set m (ob 8 [f0, f1, f2, f3, f4, f5, f6, f7, f8, f9, f10, rr E a, f12, rr E c, iv ((bn n + 1 : Nat) : Int), f15, f16, f17])).set c (ia E 0 7700 sn2))) : Cn E rX8_snap mX8_snap [rr E m] M Post := by
  have hma : m ≠ a := (ob_ia hm ha).symm
  have hmc : m ≠ c := (ob_ia hm hc).symm
  refine Cn.of (L := [some (rr E m), none]) (by decide) (Nat.le_of_ble_eq_true rfl) rfl ?_
  refine v_aload_0 dX8_snap_0 ?_
  refine g_X8_154 rfl dX8_snap_1 hm ?_
  refine v_bipush dX8_snap_4 (by decide) ?_
  refine v_icmp_ne (tgt := 50) dX8_snap_6 rfl ⟨by omega, by omega⟩ ⟨by omega, by omega⟩ (fun c6 => ?_) (fun c6 => ?_)
  · refine v_iconst dX8_snap_50 ?_
    refine v_istore_1 dX8_snap_51 (Nat.le_of_ble_eq_true rfl) rfl ?_
    refine lq_X8_snap (n := n) hm ha hc hca (by omega) (fun x2 g2 hx2 hg1 hg2 => ?_)
    refine v_aload_0 dX8_snap_86 ?_
    refine v_dupr dX8_snap_87 ?_
    refine g_X8_154 rfl dX8_snap_88 (gs_ne (ob_ia hm hc) hm) ?_
    refine v_iconst dX8_snap_91 ?_
    refine v_iadd dX8_snap_92 ?_
    refine p_X8_154 rfl dX8_snap_93 (gs_ne (ob_ia hm hc) hm) ?_
    exact v_vret dX8_snap_96 rfl (Nat.le_refl _) (Nat.le_refl _) (by
    rw [List.set_comm _ _ hmc.symm]
    have e1 : bn n = n := if_pos (by omega)
    have e2 : br n rows = rows := if_pos (by omega)
    have t := hp g2 (by rw [e1, e2]; exact sn_add hs hr hg1 hg2)
    rw [e1] at t
    exact t)
  · refine v_iconst dX8_snap_9 ?_
    refine v_istore_1 dX8_snap_10 (Nat.le_of_ble_eq_true rfl) rfl ?_
    refine lp_X8_snap hm ha hc hca (fun x g hx hg => ?_)
    refine v_aload_0 dX8_snap_40 ?_
    refine v_dupr dX8_snap_41 ?_
    refine g_X8_154 rfl dX8_snap_42 (gs_ne (ob_ia hm hc) hm) ?_
    refine v_iconst dX8_snap_45 ?_
    refine v_isub dX8_snap_46 ?_
    refine p_X8_154 rfl dX8_snap_47 (gs_ne (ob_ia hm hc) hm) ?_
    refine v_iconst dX8_snap_50 ?_
    refine v_istore_1 dX8_snap_51 (Nat.le_of_ble_eq_true rfl) rfl ?_
    rw [show ((n : Nat) : Int) - 1 = ((9 : Nat) : Int) by omega]
    refine lq_X8_snap (n := 9) (gs_eq (gs_ne (ob_ia hm hc) hm)) (gs_ne hma (gs_ne hca ha)) (gs_ne hmc (gs_eq hc)) hca (by omega) (fun x2 g2 hx2 hg1 hg2 => ?_)
    refine v_aload_0 dX8_snap_86 ?_
    refine v_dupr dX8_snap_87 ?_
    refine g_X8_154 rfl dX8_snap_88 (gs_ne hmc.symm (gs_eq (gs_ne (ob_ia hm hc) hm))) ?_
    refine v_iconst dX8_snap_91 ?_
    refine v_iadd dX8_snap_92 ?_
    refine p_X8_154 rfl dX8_snap_93 (gs_ne hmc.symm (gs_eq (gs_ne (ob_ia hm hc) hm))) ?_
    exact v_vret dX8_snap_96 rfl (Nat.le_refl _) (Nat.le_refl _) (by
    rw [List.set_comm _ _ hmc.symm, gs_gs, List.set_comm _ _ hmc, gs_gs, List.set_comm _ _ hmc.symm]
    have e1 : bn n = 9 := if_neg (by omega)
    have t := hp g2 (by rw [e1]; exact sn_shift (show n = 10 by omega) hs hr hg hg1 hg2)
    rw [e1] at t
    exact t)
