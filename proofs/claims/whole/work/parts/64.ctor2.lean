set_option maxRecDepth 100000 in
theorem c_X1_init {E : Ev} {M0 : Mem} {Post : Option Value → Mem → Prop} {o : Nat} (ho : M0.length = o) (hp : ∀ g : Int → Option Nat, (∀ j, 0 ≤ j → j < 10 → g j = some (o + 2 + j.toNat)) → Post none (M0 ++ (ob 1 [rr E (o + 1), iv 0] :: ra E 2 10 g :: List.replicate 10 (ob 0 [iv 0, iv 0, iv 0, iv 0, iv 0, iv 0])))) : Cn E rX1_init mX1_init [rr E o] (M0 ++ [ob 1 [ro E none, iv 0]]) Post := by
  have kx : ∀ (k : Nat) (x : Int) (g : Int → Option Nat), 10 ≤ x → x = (k : Int) → k ≤ 10 → (∀ j, 0 ≤ j → j < (k : Int) → g j = some (o + 2 + j.toNat)) → V E rX1_init mX1_init (finM E rX1_init Post) (1 + k) (10 + 6 * k) (M0 ++ (ob 1 [rr E (o + 1), iv 0] :: ra E 2 10 g :: List.replicate k (ob 0 [iv 0, iv 0, iv 0, iv 0, iv 0, iv 0]))) 40 [some (rr E o), some (iv x)] [] := by
    intro k x g h1 h2 h3 h4
    have e : k = 10 := by omega
    subst e
    exact v_vret dX1_init_40 rfl (by show 1 + 10 ≤ 11; omega) (by show 10 + 6 * 10 ≤ 70; omega) (hp g (fun j j0 j1 => h4 j j0 (by omega)))
  have lp : ∀ (r : Nat) (k : Nat) (x : Int) (g : Int → Option Nat), (x = (k : Int)) → (k ≤ 10) → (∀ j, 0 ≤ j → j < (k : Int) → g j = some (o + 2 + j.toNat)) → 10 - x < (r : Int) → V E rX1_init mX1_init (finM E rX1_init Post) (1 + k) (10 + 6 * k) (M0 ++ (ob 1 [rr E (o + 1), iv 0] :: ra E 2 10 g :: List.replicate k (ob 0 [iv 0, iv 0, iv 0, iv 0, iv 0, iv 0]))) 15 [some (rr E o), some (iv x)] [] := by
    intro r
    induction r with
    | zero => intro k x g h_0 h_1 h_2 hz; exact absurd hz (by omega)
    | succ r ih =>
      intro k x g h_0 h_1 h_2 hz
      refine v_iload_1 dX1_init_15 ?_
      refine v_bipush dX1_init_16 (by decide) ?_
      refine v_icmp_ge (tgt := 40) dX1_init_18 rfl ⟨by omega, by omega⟩ ⟨by omega, by omega⟩ (fun c18 => ?_) (fun c18 => ?_)
      · exact kx k x g (by omega) h_0 h_1 h_2
      · skip
        refine v_aload_0 dX1_init_21 ?_
        refine g_X1_11 rfl dX1_init_22 ((a_get0 ho).trans rfl) ?_
        refine v_iload_1 dX1_init_25 ?_
        refine v_new (ci := 0) (n := 6) (T := TX0) (Cq := RX0) (ty0 := tyX0) (fs := [iv 0, iv 0, iv 0, iv 0, iv 0, iv 0]) dX1_init_26 rfl inX0 tyX0_ok (pl 147 (by decide +kernel)) (pl 149 (by decide +kernel)) (pl 53 (by decide +kernel)) (dvX0 (E := E)) (by show _ ≤ 11; omega) (by show _ ≤ 70; omega) ?_
        rw [a_lenq (q := k + 2) ho (by simp), a_push]
        refine v_dupr dX1_init_29 ?_
        refine i_X1_17 rfl dX1_init_30 ⟨(Nat.le_of_ble_eq_true rfl), (Nat.le_of_ble_eq_true rfl)⟩ (Nat.le_of_ble_eq_true rfl) ⟨(by show 1 + k + 1 + 0 ≤ 11; omega), (by show 10 + 6 * k + 6 + 0 ≤ 70; omega)⟩ (c_X0_init ?_)
        refine v_aastore (t := 2) (Cq := RX0) (T := TX0) (nn := 6) (ci := 0) (n := 10) (fs := [iv 0, iv 0, iv 0, iv 0, iv 0, iv 0]) dX1_init_33 ((a_get ho).trans rfl) rfl ((a_get ho).trans (by rw [List.cons_append, List.cons_append, List.getElem?_cons_succ, List.getElem?_cons_succ, List.getElem?_append_right (by simp)]; simp)) rfl (by omega) (by show x < 10; omega) (by decide) ?_
        refine v_mm (M2 := M0 ++ (ob 1 [rr E (o + 1), iv 0] :: ra E 2 10 (upR g x (some (o + (k + 2)))) :: List.replicate (k + 1) (ob 0 [iv 0, iv 0, iv 0, iv 0, iv 0, iv 0]))) (K2 := 1 + (k + 1)) (N2 := 10 + 6 * (k + 1)) (by rw [a_set ho, List.replicate_succ']; rfl) (by show 1 + k + 1 + 0 = _; omega) (by show 10 + 6 * k + 6 + 0 = _; omega) ?_
        refine v_iinc_1 dX1_init_34 (Nat.le_of_ble_eq_true rfl) rfl ?_
        refine v_goto (tgt := 15) dX1_init_37 rfl ?_
        exact ih (k + 1) (x + 1) _ (by omega) (by omega) (fun j j0 j1 => by
          by_cases e : j = x
          · subst e
            rw [show upR g j (some (o + (k + 2))) j = some (o + (k + 2)) from if_pos rfl]
            congr 1
            omega
          · rw [show upR g x (some (o + (k + 2))) j = g j from if_neg e]
            exact h_2 j j0 (by omega)) (by omega)
  refine Cn.of (L := [some (rr E o), none]) (by decide) (Nat.le_of_ble_eq_true rfl) rfl ?_
  refine v_aload_0 dX1_init_0 ?_
  refine oI dX1_init_1 (pl 146 (by decide +kernel)) (Nat.le_of_ble_eq_true rfl) (Nat.le_of_ble_eq_true rfl) ?_
  refine v_aload_0 dX1_init_4 ?_
  refine v_bipush dX1_init_5 (by decide) ?_
  refine a_newq (n := 10) (t := 2) (Cq := RX0) 1 ho rfl dX1_init_7 rfl (fun U h => h.1) (pl 147 (by decide +kernel)) (Nat.le_of_ble_eq_true rfl) (Nat.le_of_ble_eq_true rfl) (Nat.le_of_ble_eq_true rfl) ?_
  refine p_X1_11 rfl rfl dX1_init_10 ((a_get0 ho).trans rfl) ?_
  rw [a_set0 ho]
  refine v_iconst dX1_init_13 ?_
  refine v_istore_1 dX1_init_14 (Nat.le_of_ble_eq_true rfl) rfl ?_
  exact lp 20 0 0 (fun _ => none) rfl (by omega) (fun j j0 j1 => by omega) (by omega)

def offC (E : Ev) (o : Nat) (g : Int → Option Nat) : Mem := [ob 2 [rr E (o + 1), rr E (o + 2), rr E (o + 3), rr E (o + 4), iv 0, iv 0, iv 0, iv 0], ia E 0 3 (fun _ => 0), ra E 3 3 g, ia E 0 4 (fun _ => 0), ra E 4 12 (gR (o + 4) 12)] ++ List.replicate 12 (ia E 0 60 (fun _ => 0)) ++ [ob 3 [rr E (o + 18), rr E (o + 19), iv 0, iv 0, iv 0], ia E 0 5 (fun _ => 0), ia E 0 5 (fun _ => 0), ob 3 [rr E (o + 21), rr E (o + 22), iv 0, iv 0, iv 0], ia E 0 5 (fun _ => 0), ia E 0 5 (fun _ => 0), ob 3 [rr E (o + 24), rr E (o + 25), iv 0, iv 0, iv 0], ia E 0 5 (fun _ => 0), ia E 0 5 (fun _ => 0)]
def offG (o : Nat) (g : Int → Option Nat) : Prop := g 0 = some (o + 17) ∧ g 1 = some (o + 20) ∧ g 2 = some (o + 23)
set_option maxRecDepth 100000 in
theorem c_X2_init {E : Ev} {M0 : Mem} {Post : Option Value → Mem → Prop} {o : Nat} (ho : M0.length = o) (hp : ∀ g : Int → Option Nat, offG o g → Post none (M0 ++ offC E o g)) : Cn E rX2_init mX2_init [rr E o] (M0 ++ [ob 2 [ro E none, ro E none, ro E none, ro E none, iv 0, iv 0, iv 0, iv 0]]) Post := by
  refine Cn.of (L := [some (rr E o), none]) (by decide) (Nat.le_of_ble_eq_true rfl) rfl ?_
  refine v_aload_0 dX2_init_0 ?_
  refine oI dX2_init_1 (pl 187 (by decide +kernel)) (Nat.le_of_ble_eq_true rfl) (Nat.le_of_ble_eq_true rfl) ?_
  refine v_aload_0 dX2_init_4 ?_
  refine v_iconst dX2_init_5 ?_
  refine a_newi (n := 3) 1 ho rfl dX2_init_6 (Nat.le_of_ble_eq_true rfl) (Nat.le_of_ble_eq_true rfl) (Nat.le_of_ble_eq_true rfl) ?_
  refine p_X2_9 rfl rfl dX2_init_8 ((a_get0 ho).trans rfl) ?_
  rw [a_set0 ho]
  refine v_aload_0 dX2_init_11 ?_
  refine v_iconst dX2_init_12 ?_
  refine a_newq (n := 3) (t := 3) (Cq := RX3) 2 ho rfl dX2_init_13 rfl (fun U h => h.2.1) (pl 188 (by decide +kernel)) (Nat.le_of_ble_eq_true rfl) (Nat.le_of_ble_eq_true rfl) (Nat.le_of_ble_eq_true rfl) ?_
  refine p_X2_17 rfl rfl dX2_init_16 ((a_get0 ho).trans rfl) ?_
  rw [a_set0 ho]
  refine v_aload_0 dX2_init_19 ?_
  refine v_iconst dX2_init_20 ?_
  refine a_newi (n := 4) 3 ho rfl dX2_init_21 (Nat.le_of_ble_eq_true rfl) (Nat.le_of_ble_eq_true rfl) (Nat.le_of_ble_eq_true rfl) ?_
  refine p_X2_21 rfl rfl dX2_init_23 ((a_get0 ho).trans rfl) ?_
  rw [a_set0 ho]
  refine v_aload_0 dX2_init_26 ?_
  refine v_bipush dX2_init_27 (by decide) ?_
  refine v_bipush dX2_init_29 (by decide) ?_
  refine a_mna (n := 12) (w := 60) 4 ho rfl dX2_init_31 (pl 190 (by decide +kernel)) (Nat.le_of_ble_eq_true rfl) (Nat.le_of_ble_eq_true rfl) (Nat.le_of_ble_eq_true rfl) (Nat.le_of_ble_eq_true rfl) ?_
  refine p_X2_26 rfl rfl dX2_init_35 ((a_get0 ho).trans rfl) ?_
  rw [a_set0 ho]
  refine v_iconst dX2_init_38 ?_
  refine v_istore_1 dX2_init_39 (Nat.le_of_ble_eq_true rfl) rfl ?_
  refine v_iload_1 dX2_init_40 ?_
  refine v_iconst dX2_init_41 ?_
  refine v_icmp_ge (tgt := 64) dX2_init_42 rfl ⟨by omega, by omega⟩ ⟨by omega, by omega⟩ (fun c42 => absurd c42 (by omega)) (fun c42 => ?_)
  refine v_aload_0 dX2_init_45 ?_
  refine g_X2_17 rfl dX2_init_46 ((a_get0 ho).trans rfl) ?_
  refine v_iload_1 dX2_init_49 ?_
  refine v_new (ci := 3) (n := 5) (T := TX3) (Cq := RX3) (ty0 := tyX3) (fs := [ro E none, ro E none, iv 0, iv 0, iv 0]) dX2_init_50 rfl inX3 tyX3_ok (pl 188 (by decide +kernel)) (pl 192 (by decide +kernel)) (pl 55 (by decide +kernel)) (dvX3 (E := E)) (Nat.le_of_ble_eq_true rfl) (Nat.le_of_ble_eq_true rfl) ?_
  rw [a_lenq (q := 17) ho rfl]
  refine v_dupr dX2_init_53 ?_
  refine i_X2_29 rfl dX2_init_54 ⟨(Nat.le_of_ble_eq_true rfl), (Nat.le_of_ble_eq_true rfl)⟩ (Nat.le_of_ble_eq_true rfl) ⟨(Nat.le_of_ble_eq_true rfl), (Nat.le_of_ble_eq_true rfl)⟩ (c_X3_init (a_lenq (q := 17) ho rfl) ?_)
  rw [a_push]
  refine v_aastore (t := 3) (Cq := RX3) (T := TX3) (nn := 5) (ci := 3) (n := 3) dX2_init_57 ((a_get ho).trans rfl) rfl ((a_get ho).trans rfl) rfl (by omega) (by omega) (by decide) ?_
  rw [a_set ho]
  refine v_iinc_1 dX2_init_58 (Nat.le_of_ble_eq_true rfl) rfl ?_
  refine v_goto (tgt := 40) dX2_init_61 rfl ?_
  refine v_iload_1 dX2_init_40 ?_
  refine v_iconst dX2_init_41 ?_
  refine v_icmp_ge (tgt := 64) dX2_init_42 rfl ⟨by omega, by omega⟩ ⟨by omega, by omega⟩ (fun c42 => absurd c42 (by omega)) (fun c42 => ?_)
  refine v_aload_0 dX2_init_45 ?_
  refine g_X2_17 rfl dX2_init_46 ((a_get0 ho).trans rfl) ?_
  refine v_iload_1 dX2_init_49 ?_
  refine v_new (ci := 3) (n := 5) (T := TX3) (Cq := RX3) (ty0 := tyX3) (fs := [ro E none, ro E none, iv 0, iv 0, iv 0]) dX2_init_50 rfl inX3 tyX3_ok (pl 188 (by decide +kernel)) (pl 192 (by decide +kernel)) (pl 55 (by decide +kernel)) (dvX3 (E := E)) (Nat.le_of_ble_eq_true rfl) (Nat.le_of_ble_eq_true rfl) ?_
  rw [a_lenq (q := 20) ho rfl]
  refine v_dupr dX2_init_53 ?_
  refine i_X2_29 rfl dX2_init_54 ⟨(Nat.le_of_ble_eq_true rfl), (Nat.le_of_ble_eq_true rfl)⟩ (Nat.le_of_ble_eq_true rfl) ⟨(Nat.le_of_ble_eq_true rfl), (Nat.le_of_ble_eq_true rfl)⟩ (c_X3_init (a_lenq (q := 20) ho rfl) ?_)
  rw [a_push]
  refine v_aastore (t := 3) (Cq := RX3) (T := TX3) (nn := 5) (ci := 3) (n := 3) dX2_init_57 ((a_get ho).trans rfl) rfl ((a_get ho).trans rfl) rfl (by omega) (by omega) (by decide) ?_
  rw [a_set ho]
  refine v_iinc_1 dX2_init_58 (Nat.le_of_ble_eq_true rfl) rfl ?_
  refine v_goto (tgt := 40) dX2_init_61 rfl ?_
  refine v_iload_1 dX2_init_40 ?_
  refine v_iconst dX2_init_41 ?_
  refine v_icmp_ge (tgt := 64) dX2_init_42 rfl ⟨by omega, by omega⟩ ⟨by omega, by omega⟩ (fun c42 => absurd c42 (by omega)) (fun c42 => ?_)
  refine v_aload_0 dX2_init_45 ?_
  refine g_X2_17 rfl dX2_init_46 ((a_get0 ho).trans rfl) ?_
  refine v_iload_1 dX2_init_49 ?_
  refine v_new (ci := 3) (n := 5) (T := TX3) (Cq := RX3) (ty0 := tyX3) (fs := [ro E none, ro E none, iv 0, iv 0, iv 0]) dX2_init_50 rfl inX3 tyX3_ok (pl 188 (by decide +kernel)) (pl 192 (by decide +kernel)) (pl 55 (by decide +kernel)) (dvX3 (E := E)) (Nat.le_of_ble_eq_true rfl) (Nat.le_of_ble_eq_true rfl) ?_
  rw [a_lenq (q := 23) ho rfl]
  refine v_dupr dX2_init_53 ?_
  refine i_X2_29 rfl dX2_init_54 ⟨(Nat.le_of_ble_eq_true rfl), (Nat.le_of_ble_eq_true rfl)⟩ (Nat.le_of_ble_eq_true rfl) ⟨(Nat.le_of_ble_eq_true rfl), (Nat.le_of_ble_eq_true rfl)⟩ (c_X3_init (a_lenq (q := 23) ho rfl) ?_)
  rw [a_push]
  refine v_aastore (t := 3) (Cq := RX3) (T := TX3) (nn := 5) (ci := 3) (n := 3) dX2_init_57 ((a_get ho).trans rfl) rfl ((a_get ho).trans rfl) rfl (by omega) (by omega) (by decide) ?_
  rw [a_set ho]
  refine v_iinc_1 dX2_init_58 (Nat.le_of_ble_eq_true rfl) rfl ?_
  refine v_goto (tgt := 40) dX2_init_61 rfl ?_
  refine v_iload_1 dX2_init_40 ?_
  refine v_iconst dX2_init_41 ?_
  refine v_icmp_ge (tgt := 64) dX2_init_42 rfl ⟨by omega, by omega⟩ ⟨by omega, by omega⟩ (fun c42 => ?_) (fun c42 => absurd c42 (by omega))
  exact v_vret dX2_init_64 rfl (Nat.le_of_ble_eq_true rfl) (Nat.le_of_ble_eq_true rfl) (hp _ ⟨by simp [upR], by simp [upR], by simp [upR]⟩)

