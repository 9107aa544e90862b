theorem and1 (x : Int) : Int32.ofInt x &&& Int32.ofInt 1 = Int32.ofInt (x % 2) := by
  have h := pk_and (Int32.ofInt x) (m := Int32.ofInt 1) 1 (by decide)
  rw [h]
  have e1 : (Int32.ofInt x).toBitVec.toNat = (x % 4294967296).toNat := by
    rw [Int32.toBitVec_ofInt, BitVec.toNat_ofInt]
    rfl
  rw [e1]
  show Int32.ofNat ((x % 4294967296).toNat % 2 ^ 1) = Int32.ofInt (x % 2)
  rw [← Int32.ofInt_eq_ofNat]
  congr 1
  have : (2 : Nat) ^ 1 = 2 := rfl
  rw [this]
  omega
theorem sh_i : ∀ i : Nat, i < 12 → ((Int32.ofInt (i : Int) &&& 31).toBitVec.smod 32).toNat = i := by decide

set_option maxRecDepth 100000 in
theorem lp_X8_correct {E : Ev} {M : Mem} {Post : Option Value → Mem → Prop} {m : Nat} {s k h v : Int} {P : Int → Bool} (hp : Post (some (iv (pcN P 12))) M) : V E rX8_correct mX8_correct (finM E rX8_correct Post) 0 0 M 36 [some (rr E m), some (iv s), some (iv k), some (iv h), some (iv v), some (iv (tsN P 12)), some (iv 0), some (iv 0)] [] := by
  have lp : ∀ (r : Nat) (i : Int), (0 ≤ i) → (i ≤ 12) → 12 - i < (r : Int) → V E rX8_correct mX8_correct (finM E rX8_correct Post) 0 0 M 36 [some (rr E m), some (iv s), some (iv k), some (iv h), some (iv v), some (iv (tsN P 12)), some (iv (pcN P (i - 0).toNat)), some (iv i)] [] := by
    intro r
    induction r with
    | zero => intro i h_0 h_1 hz; exact absurd hz (by omega)
    | succ r ih =>
      intro i h_0 h_1 hz
      refine v_iload_7 dX8_correct_36 ?_
      refine v_bipush dX8_correct_38 (by decide) ?_
      have tb := ts_bd P 12
      have tp : (2 : Int) ^ 12 = 4096 := rfl
      refine v_icmp_ge (tgt := 61) dX8_correct_40 rfl ⟨by omega, by omega⟩ ⟨by omega, by omega⟩ (fun c40 => ?_) (fun c40 => ?_)
      · refine v_iload_6 dX8_correct_61 ?_
        exact v_iret dX8_correct_63 rfl (Nat.le_refl _) (Nat.le_refl _) (by rw [show i = 12 by omega]; exact hp)
      · refine v_iload_6 dX8_correct_43 ?_
        refine v_iload_5 dX8_correct_45 ?_
        refine v_iload_7 dX8_correct_47 ?_
        refine v_ishr dX8_correct_49 (shr_k (show I32 (tsN P 12) from ⟨by omega, by omega⟩) i i.toNat (by have t := sh_i i.toNat (by omega); rwa [toNat_cast (by omega)] at t)) ?_
        refine v_iconst dX8_correct_50 ?_
        refine v_iand dX8_correct_51 (and1 _) ?_
        refine v_iadd dX8_correct_52 ?_
        refine v_istore_6 dX8_correct_53 (Nat.le_of_ble_eq_true rfl) rfl ?_
        refine v_iinc_7 dX8_correct_55 (Nat.le_of_ble_eq_true rfl) rfl ?_
        refine v_goto (tgt := 36) dX8_correct_58 rfl ?_
        exact v_weak [some (rr E m), some (iv s), some (iv k), some (iv h), some (iv v), some (iv (tsN P 12)), some (iv (pcN P ((i + 1) - 0).toNat)), some (iv (i + 1))] ⟨rfl, rfl, rfl, rfl, rfl, rfl, by unfold pcN; rw [sm_st _ h_0, ts_bit P 12 i.toNat (by omega), toNat_cast h_0], rfl, trivial⟩ (ih (i + 1) (by omega) (by omega) (by omega))
  exact v_weak [some (rr E m), some (iv s), some (iv k), some (iv h), some (iv v), some (iv (tsN P 12)), some (iv (pcN P ((0 : Int) - 0).toNat)), some (iv (0 : Int))] ⟨rfl, rfl, rfl, rfl, rfl, rfl, rfl, rfl, trivial⟩ (lp 13 0 (by omega) (by omega) (by omega))

set_option maxRecDepth 100000 in
theorem c_X8_correct {E : Ev} {M : Mem} {Post : Option Value → Mem → Prop} {m a c q : Nat} {f0 f1 f2 f3 f4 f5 f6 f7 f8 f9 f10 f12 f15 f16 : Value} {w sn bf : Int → Int} {n : Nat} {rows : Nat → Int → Int} (hm : M[m]? = some (ob 8 [f0, f1, f2, f3, f4, f5, f6, f7, f8, f9, f10, rr E a, f12, rr E c, iv (n : Nat), f15, f16, rr E q])) (ha : M[a]? = some (ia E 0 770 w)) (hc : M[c]? = some (ia E 0 7700 sn)) (hb : M[q]? = some (ia E 0 60 bf)) (hca : c ≠ a) (hqa : q ≠ a) (hqc : q ≠ c) (hn : n ≤ 10) (hr : rows n = w) (hs : SnAt n rows sn) (hw : WF w) {s k h : Int} (hs1 : I32 s) (hk : I32 k) (hh : I32 h) {v : Int} (hv : I32 v) (hp : Cc w s k h v → ∀ sn2 g, SnAt (bn n + 1) (br n rows) sn2 → Post (some (iv (pcN (tcB w s k h v) 12))) ((((M.set m (ob 8 [f0, f1, f2, f3, f4, f5, f6, f7, f8, f9, f10, rr E a, f12, rr E c, iv ((bn n + 1 : Nat) : Int), f15, f16, rr E q])).set c (ia E 0 7700 sn2)).set q (ia E 0 60 g)).set a (ia E 0 770 (coW w s k h v)))) (hq : ¬ Cc w s k h v → Post (some (iv (-2))) M) : Cn E rX8_correct mX8_correct [rr E m, iv s, iv k, iv h, iv v] M Post := by
  have hmc : m ≠ c := (ob_ia hm hc).symm
  have hma : m ≠ a := (ob_ia hm ha).symm
  have hmq : m ≠ q := (ob_ia hm hb).symm
  refine Cn.of (L := [some (rr E m), some (iv s), some (iv k), some (iv h), some (iv v), none, none, none]) (by decide) (Nat.le_of_ble_eq_true rfl) rfl ?_
  refine v_aload_0 dX8_correct_0 ?_
  refine v_iload_1 dX8_correct_1 ?_
  refine v_iload_2 dX8_correct_2 ?_
  refine v_iload_3 dX8_correct_3 ?_
  refine v_iload_4 dX8_correct_4 ?_
  refine l_X8_198 rfl dX8_correct_6 hm ⟨Nat.le_of_ble_eq_true rfl, Nat.le_of_ble_eq_true rfl⟩ (Nat.le_of_ble_eq_true rfl) ⟨Nat.le_refl _, Nat.le_refl _⟩ (c_X8_canCorrect hm ha hw hs1 hk hh hv ?_)
  refine v_ifne_b (tgt := 15) dX8_correct_9 rfl (fun hC => ?_) (fun hC => ?_)
  · refine v_aload_0 dX8_correct_15 ?_
    refine l_X8_206 rfl dX8_correct_16 hm ⟨Nat.le_of_ble_eq_true rfl, Nat.le_of_ble_eq_true rfl⟩ (Nat.le_of_ble_eq_true rfl) ⟨Nat.le_refl _, Nat.le_refl _⟩ (c_X8_snap hm ha hc hca hn hr hs (fun sn2 hsn => ?_))
    refine v_aload_0 dX8_correct_19 ?_
    refine v_iload_1 dX8_correct_20 ?_
    refine v_iload_2 dX8_correct_21 ?_
    refine v_iload_3 dX8_correct_22 ?_
    refine v_iload_4 dX8_correct_23 ?_
    refine l_X8_202 rfl dX8_correct_25 (gs_ne hmc.symm (gs_eq hm)) ⟨Nat.le_of_ble_eq_true rfl, Nat.le_of_ble_eq_true rfl⟩ (Nat.le_of_ble_eq_true rfl) ⟨Nat.le_refl _, Nat.le_refl _⟩ (c_X8_corrects (gs_ne hmc.symm (gs_eq hm)) (gs_ne hca (gs_ne hma ha)) (gs_ne hqc.symm (gs_ne hmq hb)) hqa hw hC.1 hC.2.1 hC.2.2 (fun g => ?_))
    refine v_istore_5 dX8_correct_28 (Nat.le_of_ble_eq_true rfl) rfl ?_
    refine v_iconst dX8_correct_30 ?_
    refine v_istore_6 dX8_correct_31 (Nat.le_of_ble_eq_true rfl) rfl ?_
    refine v_iconst dX8_correct_33 ?_
    refine v_istore_7 dX8_correct_34 (Nat.le_of_ble_eq_true rfl) rfl ?_
    exact lp_X8_correct (hp hC sn2 g hsn)
  · refine v_bipush dX8_correct_12 (by decide) ?_
    exact v_iret dX8_correct_14 rfl (Nat.le_refl _) (Nat.le_refl _) (hq hC)

theorem ap_new {n k x : Int} {g : Int → Int} (hk : k = 24 ∨ k = 16 ∨ k = 8 ∨ k = 0) (h : ∀ i, 0 ≤ i → i < (24 - k) / 8 → g (n + i) = sg (byB x i)) : ∀ i, 0 ≤ i → i < (24 - (k + -8)) / 8 → upI g (n + (24 - k) / 8) (sg (x / 2 ^ k.toNat % 256)) (n + i) = sg (byB x i) := by
  intro i i0 i1
  by_cases e : i = (24 - k) / 8
  · subst e
    rw [upI_s]
    unfold byB
    rcases hk with rfl | rfl | rfl | rfl
    · rw [if_pos (by decide)]; rfl
    · rw [if_neg (by decide), if_pos (by decide)]; rfl
    · rw [if_neg (by decide), if_neg (by decide), if_pos (by decide)]; rfl
    · rw [if_neg (by decide), if_neg (by decide), if_neg (by decide)]
      show sg (x / 1 % 256) = _
      rw [Int.ediv_one]
  · rw [upI_n _ _ (by omega)]
    exact h i i0 (by omega)
theorem ap_end {n k x : Int} {g tp : Int → Int} {Q : (Int → Int) → Int → Prop} (hk : k = -8) (hp : ∀ g, (∀ j, j < n → g j = tp j) → (∀ i, 0 ≤ i → i < 4 → g (n + i) = sg (byB x i)) → Q g (n + 4)) (h1 : ∀ j, j < n → g j = tp j) (h2 : ∀ i, 0 ≤ i → i < (24 - k) / 8 → g (n + i) = sg (byB x i)) : Q g (n + (24 - k) / 8) := by
  subst hk
  exact hp g h1 (fun i a b => h2 i a (by omega))

set_option maxRecDepth 100000 in
theorem c_X4_append {E : Ev} {M : Mem} {Post : Option Value → Mem → Prop} {a t : Nat} {n : Int} {cb : Int → Int} (hT : M[a]? = some (ob 4 [rr E t, iv n])) (hB : M[t]? = some (ia E 1 640 cb)) {x : Int} (hx : I32 x) (n0 : 0 ≤ n) (n1 : n ≤ 636) (hp : ∀ g, (∀ j, j < n → g j = cb j) → (∀ i, 0 ≤ i → i < 4 → g (n + i) = sg (byB x i)) → Post none ((M.set t (ia E 1 640 g)).set a (ob 4 [rr E t, iv (n + 4)]))) : Cn E rX4_append mX4_append [rr E a, iv x] M Post := by
  have lp : ∀ (r : Nat) (k : Int) (g : Int → Int), (k = 24 ∨ k = 16 ∨ k = 8 ∨ k = 0 ∨ k = -8) → (∀ j, j < n → g j = cb j) → (∀ i, 0 ≤ i → i < ((24 - k) / 8) → g (n + i) = sg (byB x i)) → k + 9 < (r : Int) → V E rX4_append mX4_append (finM E rX4_append Post) 0 0 ((M.set t (ia E 1 640 g)).set a (ob 4 [rr E t, iv (n + ((24 - k) / 8))])) 3 [some (rr E a), some (iv x), some (iv k)] [] := by
    intro r
    induction r with
    | zero => intro k g h_0 h_1 h_2 hz; exact absurd hz (by omega)
    | succ r ih =>
      intro k g h_0 h_1 h_2 hz
      refine v_iload_2 dX4_append_3 ?_
      refine v_if_lt (tgt := 53) dX4_append_4 rfl ⟨by omega, by omega⟩ (fun c4 => ?_) (fun c4 => ?_)
      · exact v_vret dX4_append_53 rfl (Nat.le_refl _) (Nat.le_refl _) (ap_end (Q := fun g n2 => Post none ((M.set t (ia E 1 640 g)).set a (ob 4 [rr E t, iv n2]))) (show k = -8 by omega) hp h_1 h_2)
      · refine v_aload_0 dX4_append_7 ?_
        refine g_X4_15 rfl dX4_append_8 (gs_eq (gs_ne (ob_ia hT hB) hT)) ?_
        refine v_if_lt (tgt := 47) dX4_append_11 rfl ⟨by omega, by omega⟩ (fun c11 => absurd c11 (by omega)) (fun c11 => ?_)
        refine v_aload_0 dX4_append_14 ?_
        refine g_X4_15 rfl dX4_append_15 (gs_eq (gs_ne (ob_ia hT hB) hT)) ?_
        refine v_sipush dX4_append_18 (by decide) ?_
        refine v_icmp_ge (tgt := 47) dX4_append_21 rfl ⟨by omega, by omega⟩ ⟨by omega, by omega⟩ (fun c21 => absurd c21 (by omega)) (fun c21 => ?_)
        refine v_aload_0 dX4_append_24 ?_
        refine g_X4_9 rfl dX4_append_25 (gs_eq (gs_ne (ob_ia hT hB) hT)) ?_
        refine v_aload_0 dX4_append_28 ?_
        refine g_X4_15 rfl dX4_append_29 (gs_eq (gs_ne (ob_ia hT hB) hT)) ?_
        refine v_iload_1 dX4_append_32 ?_
        refine v_iload_2 dX4_append_33 ?_
        have hk : k = 24 ∨ k = 16 ∨ k = 8 ∨ k = 0 := by omega
        refine v_ishr dX4_append_34 (show _ = Int32.ofInt (x / 2 ^ k.toNat) from by rcases hk with rfl | rfl | rfl | rfl <;> exact shr_k hx _ _ (by decide)) ?_
        refine v_i2b dX4_append_35 (i2b_k _) ?_
        refine v_bastore dX4_append_36 (gs_ne (ob_ia hT hB).symm (gs_eq hB)) (by omega) (by omega) (by decide) (by unfold sg; split <;> omega) (by unfold sg; split <;> omega) ?_
        rw [List.set_comm _ _ (ob_ia hT hB).symm, gs_gs]
        refine v_aload_0 dX4_append_37 ?_
        refine v_dupr dX4_append_38 ?_
        refine g_X4_15 rfl dX4_append_39 (gs_eq (gs_ne (ob_ia hT hB) hT)) ?_
        refine v_iconst dX4_append_42 ?_
        refine v_iadd dX4_append_43 ?_
        refine p_X4_15 rfl dX4_append_44 (gs_eq (gs_ne (ob_ia hT hB) hT)) ?_
        rw [gs_gs]
        refine v_iinc_2 dX4_append_47 (Nat.le_of_ble_eq_true rfl) rfl ?_
        refine v_goto (tgt := 3) dX4_append_50 rfl ?_
        rw [show n + ((24 - k) / 8) + 1 = n + (24 - (k + -8)) / 8 by omega]
        exact ih (k + -8) _ (by omega) (ly_old h_1 (by omega)) (ap_new hk h_2) (by omega)
  refine Cn.of (L := [some (rr E a), some (iv x), none]) (by decide) (Nat.le_of_ble_eq_true rfl) rfl ?_
  refine v_bipush dX4_append_0 (by decide) ?_
  refine v_istore_2 dX4_append_2 (Nat.le_of_ble_eq_true rfl) rfl ?_
  have t := lp 34 24 cb (by omega) (fun j _ => rfl) (fun i i0 i1 => by omega) (by omega)
  rw [show n + (24 - 24) / 8 = n by omega, gs_id hB, gs_id hT] at t
  exact t

set_option maxRecDepth 100000 in
theorem c_X4_byteAt {E : Ev} {M : Mem} {Post : Option Value → Mem → Prop} {a t : Nat} {n : Int} {cb : Int → Int} (hT : M[a]? = some (ob 4 [rr E t, iv n])) (hB : M[t]? = some (ia E 1 640 cb)) {p : Int} (hp0 : I32 p) (n0 : 0 ≤ n) (n1 : n ≤ 640) (hp : 0 ≤ p → p < n → Post (some (iv (cb p % 256))) M) (hq : ¬ (0 ≤ p ∧ p < n) → Post (some (iv (-1))) M) : Cn E rX4_byteAt mX4_byteAt [rr E a, iv p] M Post := by
  refine Cn.of (L := [some (rr E a), some (iv p)]) (by decide) (Nat.le_of_ble_eq_true rfl) rfl ?_
  refine v_iload_1 dX4_byteAt_0 ?_
  refine v_if_lt (tgt := 19) dX4_byteAt_1 rfl hp0 (fun c1 => ?_) (fun c1 => ?_)
  · refine v_iconst dX4_byteAt_19 ?_
    exact v_iret dX4_byteAt_20 rfl (Nat.le_refl _) (Nat.le_refl _) (hq (by omega))
  · refine v_iload_1 dX4_byteAt_4 ?_
    refine v_aload_0 dX4_byteAt_5 ?_
    refine g_X4_15 rfl dX4_byteAt_6 hT ?_
    refine v_icmp_ge (tgt := 19) dX4_byteAt_9 rfl hp0 ⟨by omega, by omega⟩ (fun c9 => ?_) (fun c9 => ?_)
    · refine v_iconst dX4_byteAt_19 ?_
      exact v_iret dX4_byteAt_20 rfl (Nat.le_refl _) (Nat.le_refl _) (hq (by omega))
    · refine v_iload_1 dX4_byteAt_12 ?_
      refine v_sipush dX4_byteAt_13 (by decide) ?_
      refine v_icmp_lt (tgt := 21) dX4_byteAt_16 rfl hp0 ⟨by omega, by omega⟩ (fun c16 => ?_) (fun c16 => ?_)
      · refine v_aload_0 dX4_byteAt_21 ?_
        refine g_X4_9 rfl dX4_byteAt_22 hT ?_
        refine v_iload_1 dX4_byteAt_25 ?_
        refine v_baload dX4_byteAt_26 hB (by omega) (by omega) (by decide) ?_
        refine v_sipush dX4_byteAt_27 (by decide) ?_
        refine v_iand dX4_byteAt_30 (and255 _) ?_
        exact v_iret dX4_byteAt_31 rfl (Nat.le_refl _) (Nat.le_refl _) (hp (by omega) (by omega))
      · refine v_iconst dX4_byteAt_19 ?_
        exact v_iret dX4_byteAt_20 rfl (Nat.le_refl _) (Nat.le_refl _) (hq (by omega))

theorem fe_all {n x1 x2 x3 x4 x5 : Int} {g1 g2 g3 g4 g5 : Int → Int} (q0 : ∀ i, 0 ≤ i → i < 4 → g1 (n + i) = sg (byB x1 i)) (p1 : ∀ j, j < n + 4 → g2 j = g1 j) (q1 : ∀ i, 0 ≤ i → i < 4 → g2 (n + 4 + i) = sg (byB x2 i)) (p2 : ∀ j, j < n + 4 + 4 → g3 j = g2 j) (q2 : ∀ i, 0 ≤ i → i < 4 → g3 (n + 4 + 4 + i) = sg (byB x3 i)) (p3 : ∀ j, j < n + 4 + 4 + 4 → g4 j = g3 j) (q3 : ∀ i, 0 ≤ i → i < 4 → g4 (n + 4 + 4 + 4 + i) = sg (byB x4 i)) (p4 : ∀ j, j < n + 4 + 4 + 4 + 4 → g5 j = g4 j) (q4 : ∀ i, 0 ≤ i → i < 4 → g5 (n + 4 + 4 + 4 + 4 + i) = sg (byB x5 i)) : ∀ i, 0 ≤ i → i < 20 → g5 (n + i) = sg (byF x1 x2 x3 x4 x5 i) := by
  intro i i0 i1
  unfold byF
  by_cases c1 : i < 4
  · rw [if_pos c1, p4 _ (by omega), p3 _ (by omega), p2 _ (by omega), p1 _ (by omega), q0 i i0 c1, show i % 4 = i by omega]
  · rw [if_neg c1]
    by_cases c2 : i < 8
    · have h := q1 (i - 4) (by omega) (by omega)
      rw [show n + 4 + (i - 4) = n + i by omega] at h
      rw [if_pos c2, p4 _ (by omega), p3 _ (by omega), p2 _ (by omega), h, show i % 4 = i - 4 by omega]
    · rw [if_neg c2]
      by_cases c3 : i < 12
      · have h := q2 (i - 8) (by omega) (by omega)
        rw [show n + 4 + 4 + (i - 8) = n + i by omega] at h
        rw [if_pos c3, p4 _ (by omega), p3 _ (by omega), h, show i % 4 = i - 8 by omega]
      · rw [if_neg c3]
        by_cases c4 : i < 16
        · have h := q3 (i - 12) (by omega) (by omega)
          rw [show n + 4 + 4 + 4 + (i - 12) = n + i by omega] at h
          rw [if_pos c4, p4 _ (by omega), h, show i % 4 = i - 12 by omega]
        · have h := q4 (i - 16) (by omega) (by omega)
          rw [show n + 4 + 4 + 4 + 4 + (i - 16) = n + i by omega] at h
          rw [if_neg c4, h, show i % 4 = i - 16 by omega]

set_option maxRecDepth 100000 in
theorem c_X7_feed {E : Ev} {M : Mem} {Post : Option Value → Mem → Prop} {x a t : Nat} {f1 f2 f3 f4 : Value} {n : Int} {cb : Int → Int} (hX : M[x]? = some (ob 7 [rr E a, f1, f2, f3, f4])) (hT : M[a]? = some (ob 4 [rr E t, iv n])) (hB : M[t]? = some (ia E 1 640 cb)) (hxa : x ≠ a) {x1 x2 x3 x4 x5 : Int} (h1 : I32 x1) (h2 : I32 x2) (h3 : I32 x3) (h4 : I32 x4) (h5 : I32 x5) (n0 : 0 ≤ n) (n1 : n ≤ 640) (hp : n ≤ 620 → ∀ g, (∀ j, j < n → g j = cb j) → (∀ i, 0 ≤ i → i < 20 → g (n + i) = sg (byF x1 x2 x3 x4 x5 i)) → Post (some (iv (n + 20))) ((M.set t (ia E 1 640 g)).set a (ob 4 [rr E t, iv (n + 20)]))) (hq : 620 < n → Post (some (iv (-1))) M) : Cn E rX7_feed mX7_feed [rr E x, iv x1, iv x2, iv x3, iv x4, iv x5] M Post := by
  have hmt : a ≠ t := (ob_ia hT hB).symm
  refine Cn.of (L := [some (rr E x), some (iv x1), some (iv x2), some (iv x3), some (iv x4), some (iv x5)]) (by decide) (Nat.le_of_ble_eq_true rfl) rfl ?_
  refine v_aload_0 dX7_feed_0 ?_
  refine g_X7_10 rfl dX7_feed_1 hX ?_
  refine v_bipush dX7_feed_4 (by decide) ?_
  refine l_X7_45 rfl dX7_feed_6 hT ⟨Nat.le_of_ble_eq_true rfl, Nat.le_of_ble_eq_true rfl⟩ (Nat.le_of_ble_eq_true rfl) ⟨Nat.le_refl _, Nat.le_refl _⟩ (c_X4_hasRoom hT n0 n1 (by omega) (by omega) ?_)
  refine v_ifne_b (tgt := 14) dX7_feed_9 rfl (fun c9 => ?_) (fun c9 => ?_)
  · refine v_aload_0 dX7_feed_14 ?_
    refine g_X7_10 rfl dX7_feed_15 hX ?_
    refine v_iload_1 dX7_feed_18 ?_
    refine l_X7_49 rfl dX7_feed_19 hT ⟨Nat.le_of_ble_eq_true rfl, Nat.le_of_ble_eq_true rfl⟩ (Nat.le_of_ble_eq_true rfl) ⟨Nat.le_refl _, Nat.le_refl _⟩ (c_X4_append hT hB h1 (by omega) (by omega) (fun g1 p0 q0 => ?_))
    refine v_aload_0 dX7_feed_22 ?_
    refine g_X7_10 rfl dX7_feed_23 (gs_ne hxa.symm (gs_ne (ob_ia hX hB) hX)) ?_
    refine v_iload_2 dX7_feed_26 ?_
    refine l_X7_49 rfl dX7_feed_27 (gs_eq (gs_ne (ob_ia hT hB) hT)) ⟨Nat.le_of_ble_eq_true rfl, Nat.le_of_ble_eq_true rfl⟩ (Nat.le_of_ble_eq_true rfl) ⟨Nat.le_refl _, Nat.le_refl _⟩ (c_X4_append (gs_eq (gs_ne (ob_ia hT hB) hT)) (gs_ne (ob_ia hT hB).symm (gs_eq hB)) h2 (by omega) (by omega) (fun g2 p1 q1 => ?_))
    rw [List.set_comm _ _ hmt, gs_gs, gs_gs]
    refine v_aload_0 dX7_feed_30 ?_
    refine g_X7_10 rfl dX7_feed_31 (gs_ne hxa.symm (gs_ne (ob_ia hX hB) hX)) ?_
    refine v_iload_3 dX7_feed_34 ?_
    refine l_X7_49 rfl dX7_feed_35 (gs_eq (gs_ne (ob_ia hT hB) hT)) ⟨Nat.le_of_ble_eq_true rfl, Nat.le_of_ble_eq_true rfl⟩ (Nat.le_of_ble_eq_true rfl) ⟨Nat.le_refl _, Nat.le_refl _⟩ (c_X4_append (gs_eq (gs_ne (ob_ia hT hB) hT)) (gs_ne (ob_ia hT hB).symm (gs_eq hB)) h3 (by omega) (by omega) (fun g3 p2 q2 => ?_))
    rw [List.set_comm _ _ hmt, gs_gs, gs_gs]
    refine v_aload_0 dX7_feed_38 ?_
    refine g_X7_10 rfl dX7_feed_39 (gs_ne hxa.symm (gs_ne (ob_ia hX hB) hX)) ?_
    refine v_iload_4 dX7_feed_42 ?_
    refine l_X7_49 rfl dX7_feed_44 (gs_eq (gs_ne (ob_ia hT hB) hT)) ⟨Nat.le_of_ble_eq_true rfl, Nat.le_of_ble_eq_true rfl⟩ (Nat.le_of_ble_eq_true rfl) ⟨Nat.le_refl _, Nat.le_refl _⟩ (c_X4_append (gs_eq (gs_ne (ob_ia hT hB) hT)) (gs_ne (ob_ia hT hB).symm (gs_eq hB)) h4 (by omega) (by omega) (fun g4 p3 q3 => ?_))
    rw [List.set_comm _ _ hmt, gs_gs, gs_gs]
    refine v_aload_0 dX7_feed_47 ?_
    refine g_X7_10 rfl dX7_feed_48 (gs_ne hxa.symm (gs_ne (ob_ia hX hB) hX)) ?_
    refine v_iload_5 dX7_feed_51 ?_
    refine l_X7_49 rfl dX7_feed_53 (gs_eq (gs_ne (ob_ia hT hB) hT)) ⟨Nat.le_of_ble_eq_true rfl, Nat.le_of_ble_eq_true rfl⟩ (Nat.le_of_ble_eq_true rfl) ⟨Nat.le_refl _, Nat.le_refl _⟩ (c_X4_append (gs_eq (gs_ne (ob_ia hT hB) hT)) (gs_ne (ob_ia hT hB).symm (gs_eq hB)) h5 (by omega) (by omega) (fun g5 p4 q4 => ?_))
    rw [List.set_comm _ _ hmt, gs_gs, gs_gs]
    refine v_aload_0 dX7_feed_56 ?_
    refine g_X7_10 rfl dX7_feed_57 (gs_ne hxa.symm (gs_ne (ob_ia hX hB) hX)) ?_
    refine g_X7_53 rfl dX7_feed_60 (gs_eq (gs_ne (ob_ia hT hB) hT)) ?_
    exact v_iret dX7_feed_63 rfl (Nat.le_refl _) (Nat.le_refl _) (fd_int (Q := fun z => Post (some (iv z)) ((M.set t (ia E 1 640 g5)).set a (ob 4 [rr E t, iv z]))) (show n + 4 + 4 + 4 + 4 + 4 = n + 20 by omega) (hp (by omega) g5 (fd_old p0 p1 p2 p3 p4) (fe_all q0 p1 q1 p2 q2 p3 q3 p4 q4)))
  · refine v_iconst dX7_feed_12 ?_
    exact v_iret dX7_feed_13 rfl (Nat.le_refl _) (Nat.le_refl _) (hq (by omega))

set_option maxRecDepth 100000 in
theorem c_X7_end {E : Ev} {M : Mem} {Post : Option Value → Mem → Prop} {x a t : Nat} {f1 f2 f3 f4 : Value} {n : Int} {cb : Int → Int} (hX : M[x]? = some (ob 7 [rr E a, f1, f2, f3, f4])) (hT : M[a]? = some (ob 4 [rr E t, iv n])) (hB : M[t]? = some (ia E 1 640 cb)) (hxa : x ≠ a) {z : Int} (hz : I32 z) (n0 : 0 ≤ n) (n1 : n ≤ 640) (hp : 0 ≤ z → z ≤ n → Post (some (iv 1)) (M.set a (ob 4 [rr E t, iv z]))) (hq : ¬ (0 ≤ z ∧ z ≤ n) → Post (some (iv 0)) M) : Cn E rX7_end mX7_end [rr E x, iv z] M Post := by
  refine Cn.of (L := [some (rr E x), some (iv z)]) (by decide) (Nat.le_of_ble_eq_true rfl) rfl ?_
  refine v_aload_0 dX7_end_0 ?_
  refine g_X7_10 rfl dX7_end_1 hX ?_
  refine v_iload_1 dX7_end_4 ?_
  refine l_X7_57 rfl dX7_end_5 hT ⟨Nat.le_of_ble_eq_true rfl, Nat.le_of_ble_eq_true rfl⟩ (Nat.le_of_ble_eq_true rfl) ⟨Nat.le_refl _, Nat.le_refl _⟩ (c_X4_cutTo hT n0 n1 hz (fun z0 z1 => ?_) (fun zn => ?_))
  · exact v_zret dX7_end_8 rfl (Nat.le_refl _) (Nat.le_refl _) (Or.inr rfl) (hp z0 z1)
  · exact v_zret dX7_end_8 rfl (Nat.le_refl _) (Nat.le_refl _) (Or.inl rfl) (hq zn)
