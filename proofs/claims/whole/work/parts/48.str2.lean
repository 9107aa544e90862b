theorem w_len : ∀ i : Nat, i < 6 → (wS.getD i []).length = lenS.getD i 0 := by decide

set_option maxRecDepth 100000 in
theorem lp_isWord {E : Ev} {M : Mem} {Post : Option Value → Mem → Prop} {t a b : Nat} {T : Int → Int} {L p : Int} (hA : TA E M a b T L) (hk : TkAt E M t a T L p) (p0 : 0 ≤ p) (p1 : p ≤ L) {i : Nat} (hi : i < 6) (k1 : tkK T L p = 1) (c21 : tkB T L p - tkS T L p = ((lenS.getD i 0 : Nat) : Int)) (hp : Post (some (iv (pI (isW T L (wS.getD i []) p)))) M) : V E rX6_isWord mX6_isWord (finM E rX6_isWord Post) 0 0 M 28 [some (rr E t), some (xr (E.aK i)), some (iv 0)] [] := by
  obtain ⟨hT, ⟨cb, hB, hcb⟩, hT8, L0, L1⟩ := hA
  obtain ⟨z, hK, hz⟩ := hk
  have kb := tkK_bd T L p
  have sb := tkS_bd (T := T) p0 p1 L1
  have bb := tkB_bd (T := T) p0 p1
  have ll := len_i i hi
  have lp : ∀ (r : Nat) (j : Int), (0 ≤ j) → (j ≤ ((lenS.getD i 0 : Nat) : Int)) → (∀ x : Nat, (x : Int) < j → T (tkS T L p + x) = (wS.getD i []).getD x 0) → ((lenS.getD i 0 : Nat) : Int) - j < (r : Int) → V E rX6_isWord mX6_isWord (finM E rX6_isWord Post) 0 0 M 28 [some (rr E t), some (xr (E.aK i)), some (iv j)] [] := by
    intro r
    induction r with
    | zero => intro j h_0 h_1 h_2 hz; exact absurd hz (by omega)
    | succ r ih =>
      intro j h_0 h_1 h_2 hz
      refine v_iload_2 dX6_isWord_28 ?_
      refine v_axload_1 dX6_isWord_29 ?_
      refine v_callX (q := mJ0_length_8abf5) (Rq := rJ0_length_8abf5) (As := []) (rest := [iv j]) hi dX6_isWord_30 rfl (pl 351 (by decide +kernel)) mfJ0_length_8abf5 rfl ⟨Nat.le_of_ble_eq_true rfl, Nat.le_of_ble_eq_true rfl⟩ (Nat.le_of_ble_eq_true rfl) ⟨Nat.le_refl _, Nat.le_refl _⟩ (c_length hi ?_)
      refine v_icmp_ge (tgt := 65) dX6_isWord_33 rfl ⟨by omega, by omega⟩ ⟨by omega, by omega⟩ (fun c33 => ?_) (fun c33 => ?_)
      · refine v_iconst dX6_isWord_65 ?_
        exact v_zret dX6_isWord_66 rfl (Nat.le_refl _) (Nat.le_refl _) (Or.inr rfl) (ret_t ⟨k1, by rw [w_len i hi]; exact c21, fun x hx => h_2 x (by rw [w_len i hi] at hx; omega)⟩ hp)
      · refine v_aload_0 dX6_isWord_36 ?_
        refine g_X6_9 rfl dX6_isWord_37 hK ?_
        refine v_aload_0 dX6_isWord_40 ?_
        refine g_X6_36 rfl dX6_isWord_41 hK ?_
        refine v_iload_2 dX6_isWord_44 ?_
        refine v_iadd dX6_isWord_45 ?_
        refine l_X6_42 rfl dX6_isWord_46 hT ⟨Nat.le_of_ble_eq_true rfl, Nat.le_of_ble_eq_true rfl⟩ (Nat.le_of_ble_eq_true rfl) ⟨Nat.le_refl _, Nat.le_refl _⟩ (c_X4_byteAt hT hB ⟨by omega, by omega⟩ L0 L1 (fun y0 y1 => ?_) (fun y => absurd ⟨by omega, by omega⟩ y))
        rw [hcb _ (by omega) (by omega)]
        have h8 := hT8 (tkS T L p + j) (by omega) (by omega)
        have hs := sg_ok h8.1 h8.2
        rw [show sg (T (tkS T L p + j)) % 256 = T (tkS T L p + j) by omega]
        have hc := ch_ok i hi j.toNat (by omega)
        refine v_axload_1 dX6_isWord_49 ?_
        refine v_iload_2 dX6_isWord_50 ?_
        refine v_callX (q := mJ0_charAt_5068e) (Rq := rJ0_charAt_5068e) (As := [iv j]) (rest := [iv (T (tkS T L p + j))]) hi dX6_isWord_51 rfl (pl 361 (by decide +kernel)) mfJ0_charAt_5068e rfl ⟨Nat.le_of_ble_eq_true rfl, Nat.le_of_ble_eq_true rfl⟩ (Nat.le_of_ble_eq_true rfl) ⟨Nat.le_refl _, Nat.le_refl _⟩ (c_charAt hi (by omega) (by omega) ?_)
        refine v_icmp_eq (tgt := 59) dX6_isWord_54 rfl ⟨by omega, by omega⟩ ⟨by omega, by omega⟩ (fun c54 => ?_) (fun c54 => ?_)
        · refine v_iinc_2 dX6_isWord_59 (Nat.le_of_ble_eq_true rfl) rfl ?_
          refine v_goto (tgt := 28) dX6_isWord_62 rfl ?_
          exact ih (j + 1) (by omega) (by omega) (fun x hx => by
            by_cases e : (x : Int) = j
            · rw [show x = j.toNat by omega, toNat_cast h_0]; exact c54
            · exact h_2 x (by omega)) (by omega)
        · refine v_iconst dX6_isWord_57 ?_
          exact v_zret dX6_isWord_58 rfl (Nat.le_refl _) (Nat.le_refl _) (Or.inl rfl) (ret_f (fun q => c54 (by have t := q.2.2 j.toNat (by rw [w_len i hi]; omega); rwa [toNat_cast h_0] at t)) hp)
  exact lp 11 0 (by omega) (by omega) (fun x hx => by omega) (by omega)

set_option maxRecDepth 100000 in
theorem c_X6_isWord {E : Ev} {M : Mem} {Post : Option Value → Mem → Prop} {t a b : Nat} {T : Int → Int} {L p : Int} (hA : TA E M a b T L) (hk : TkAt E M t a T L p) (p0 : 0 ≤ p) (p1 : p ≤ L) {i : Nat} (hi : i < 6) (hp : Post (some (iv (pI (isW T L (wS.getD i []) p)))) M) : Cn E rX6_isWord mX6_isWord [rr E t, xr (E.aK i)] M Post := by
  have hA0 := hA
  have hk0 := hk
  obtain ⟨hT, ⟨cb, hB, hcb⟩, hT8, L0, L1⟩ := hA
  obtain ⟨z, hK, hz⟩ := hk
  have kb := tkK_bd T L p
  have sb := tkS_bd (T := T) p0 p1 L1
  have bb := tkB_bd (T := T) p0 p1
  have ll := len_i i hi
  refine Cn.of (L := [some (rr E t), some (xr (E.aK i)), none]) (by decide) (Nat.le_of_ble_eq_true rfl) rfl ?_
  refine v_aload_0 dX6_isWord_0 ?_
  refine g_X6_39 rfl dX6_isWord_1 hK ?_
  refine v_iconst dX6_isWord_4 ?_
  refine v_icmp_ne (tgt := 24) dX6_isWord_5 rfl ⟨by omega, by omega⟩ ⟨by omega, by omega⟩ (fun c5 => ?_) (fun c5 => ?_)
  · refine v_iconst dX6_isWord_24 ?_
    exact v_zret dX6_isWord_25 rfl (Nat.le_refl _) (Nat.le_refl _) (Or.inl rfl) (ret_f (fun q => c5 q.1) hp)
  · refine v_aload_0 dX6_isWord_8 ?_
    refine g_X6_15 rfl dX6_isWord_9 hK ?_
    refine v_aload_0 dX6_isWord_12 ?_
    refine g_X6_36 rfl dX6_isWord_13 hK ?_
    refine v_isub dX6_isWord_16 ?_
    refine v_axload_1 dX6_isWord_17 ?_
    refine v_callX (q := mJ0_length_8abf5) (Rq := rJ0_length_8abf5) (As := []) (rest := [iv (tkB T L p - tkS T L p)]) hi dX6_isWord_18 rfl (pl 351 (by decide +kernel)) mfJ0_length_8abf5 rfl ⟨Nat.le_of_ble_eq_true rfl, Nat.le_of_ble_eq_true rfl⟩ (Nat.le_of_ble_eq_true rfl) ⟨Nat.le_refl _, Nat.le_refl _⟩ (c_length hi ?_)
    refine v_icmp_eq (tgt := 26) dX6_isWord_21 rfl ⟨by omega, by omega⟩ ⟨by omega, by omega⟩ (fun c21 => ?_) (fun c21 => ?_)
    · refine v_iconst dX6_isWord_26 ?_
      refine v_istore_2 dX6_isWord_27 (Nat.le_of_ble_eq_true rfl) rfl ?_
      exact lp_isWord hA0 hk0 p0 p1 hi c5 c21 hp
    · refine v_iconst dX6_isWord_24 ?_
      exact v_zret dX6_isWord_25 rfl (Nat.le_refl _) (Nat.le_refl _) (Or.inl rfl) (ret_f (fun q => c21 (by have t := q.2.1; rwa [w_len i hi] at t)) hp)
