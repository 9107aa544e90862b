def w0F : Int → Int := upI (upI (upI (upI (upI (upI (upI (upI (upI (upI (upI (fun _ => 0) 1 1) 2 1) 3 50) 4 50) 5 100) 6 150) 7 1) 8 1) 9 2) 12 100) 13 100
set_option maxRecDepth 100000 in
theorem c_X2_tellFirst {E : Ev} {M : Mem} {Post : Option Value → Mem → Prop} {o : Nat} {w : Int → Int} (hO : OffAt E M o w) (hp : ∀ M2, OffAt E M2 o w0F → Fr o (o + 26) M M2 → Post none M2) : Cn E rX2_tellFirst mX2_tellFirst [rr E o] M Post := by
  refine Cn.of (L := [some (rr E o), none]) (by decide) (Nat.le_of_ble_eq_true rfl) rfl ?_
  refine v_aload_0 dX2_tellFirst_0 ?_
  refine l_X2_43 rfl dX2_tellFirst_1 hO.1 ⟨Nat.le_of_ble_eq_true rfl, Nat.le_of_ble_eq_true rfl⟩ (Nat.le_of_ble_eq_true rfl) ⟨Nat.le_refl _, Nat.le_refl _⟩ (c_clear hO (fun M1 hO1 hf1 => ?_))
  obtain ⟨fb1, hb1, hc1⟩ := hO1.2.1
  refine v_iconst dX2_tellFirst_4 ?_
  refine v_istore_1 dX2_tellFirst_5 (Nat.le_of_ble_eq_true rfl) rfl ?_
  refine v_iload_1 dX2_tellFirst_6 ?_
  refine v_iconst dX2_tellFirst_7 ?_
  refine v_icmp_ge (tgt := 29) dX2_tellFirst_8 rfl ⟨by omega, by omega⟩ ⟨by omega, by omega⟩ (fun c8 => absurd c8 (by omega)) (fun c8 => ?_)
  refine v_aload_0 dX2_tellFirst_11 ?_
  refine g_X2_9 rfl dX2_tellFirst_12 hO1.1 ?_
  refine v_iload_1 dX2_tellFirst_15 ?_
  refine v_bipush dX2_tellFirst_16 (by decide) ?_
  refine v_iload_1 dX2_tellFirst_18 ?_
  refine v_iconst dX2_tellFirst_19 ?_
  refine v_iadd dX2_tellFirst_20 ?_
  refine v_imul dX2_tellFirst_21 ?_
  refine v_iastore dX2_tellFirst_22 hb1 (by omega) (by omega) (by decide) ?_
  have hO2 := hO1.band (k := 0) (x := 50 * (0 + 1)) (by decide) (by decide) hb1 hc1
  obtain ⟨fb2, hb2, hc2⟩ := hO2.2.1
  refine v_iinc_1 dX2_tellFirst_23 (Nat.le_of_ble_eq_true rfl) rfl ?_
  refine v_goto (tgt := 6) dX2_tellFirst_26 rfl ?_
  refine v_iload_1 dX2_tellFirst_6 ?_
  refine v_iconst dX2_tellFirst_7 ?_
  refine v_icmp_ge (tgt := 29) dX2_tellFirst_8 rfl ⟨by omega, by omega⟩ ⟨by omega, by omega⟩ (fun c8 => absurd c8 (by omega)) (fun c8 => ?_)
  refine v_aload_0 dX2_tellFirst_11 ?_
  refine g_X2_9 rfl dX2_tellFirst_12 hO2.1 ?_
  refine v_iload_1 dX2_tellFirst_15 ?_
  refine v_bipush dX2_tellFirst_16 (by decide) ?_
  refine v_iload_1 dX2_tellFirst_18 ?_
  refine v_iconst dX2_tellFirst_19 ?_
  refine v_iadd dX2_tellFirst_20 ?_
  refine v_imul dX2_tellFirst_21 ?_
  refine v_iastore dX2_tellFirst_22 hb2 (by omega) (by omega) (by decide) ?_
  have hO3 := hO2.band (k := 0 + 1) (x := 50 * (0 + 1 + 1)) (by decide) (by decide) hb2 hc2
  obtain ⟨fb3, hb3, hc3⟩ := hO3.2.1
  refine v_iinc_1 dX2_tellFirst_23 (Nat.le_of_ble_eq_true rfl) rfl ?_
  refine v_goto (tgt := 6) dX2_tellFirst_26 rfl ?_
  refine v_iload_1 dX2_tellFirst_6 ?_
  refine v_iconst dX2_tellFirst_7 ?_
  refine v_icmp_ge (tgt := 29) dX2_tellFirst_8 rfl ⟨by omega, by omega⟩ ⟨by omega, by omega⟩ (fun c8 => absurd c8 (by omega)) (fun c8 => ?_)
  refine v_aload_0 dX2_tellFirst_11 ?_
  refine g_X2_9 rfl dX2_tellFirst_12 hO3.1 ?_
  refine v_iload_1 dX2_tellFirst_15 ?_
  refine v_bipush dX2_tellFirst_16 (by decide) ?_
  refine v_iload_1 dX2_tellFirst_18 ?_
  refine v_iconst dX2_tellFirst_19 ?_
  refine v_iadd dX2_tellFirst_20 ?_
  refine v_imul dX2_tellFirst_21 ?_
  refine v_iastore dX2_tellFirst_22 hb3 (by omega) (by omega) (by decide) ?_
  have hO4 := hO3.band (k := 0 + 1 + 1) (x := 50 * (0 + 1 + 1 + 1)) (by decide) (by decide) hb3 hc3
  refine v_iinc_1 dX2_tellFirst_23 (Nat.le_of_ble_eq_true rfl) rfl ?_
  refine v_goto (tgt := 6) dX2_tellFirst_26 rfl ?_
  refine v_iload_1 dX2_tellFirst_6 ?_
  refine v_iconst dX2_tellFirst_7 ?_
  refine v_icmp_ge (tgt := 29) dX2_tellFirst_8 rfl ⟨by omega, by omega⟩ ⟨by omega, by omega⟩ (fun c8 => ?_) (fun c8 => absurd c8 (by omega))
  obtain ⟨w4, hw4⟩ : ∃ w4 : Int → Int, w4 = upI (upI (upI (clW w) (4 + 0) (50 * (0 + 1))) (4 + (0 + 1)) (50 * (0 + 1 + 1))) (4 + (0 + 1 + 1)) (50 * (0 + 1 + 1 + 1)) := ⟨_, rfl⟩
  rw [← hw4] at hO4
  have e41 : w4 1 = 0 := by rw [hw4]; simp [upI, clW]
  have e42 : w4 2 = 0 := by rw [hw4]; simp [upI, clW]
  have h54 : P5 w4 := fun k k0 k1 => by omega
  refine v_aload_0 dX2_tellFirst_29 ?_
  refine v_bipush dX2_tellFirst_30 (by decide) ?_
  refine p_X2_30 rfl dX2_tellFirst_32 hO4.1 ?_
  have hO5 := hO4.hdr2 (w2 := upI w4 3 50) h54 (fun j j0 j3 => upI_n _ _ j3) (a := 50) (b := w4 0) (upI_s _ _ _) (upI_n _ _ (by decide))
  obtain ⟨w5, hw5⟩ : ∃ w5 : Int → Int, w5 = upI w4 3 50 := ⟨_, rfl⟩
  rw [← hw5] at hO5
  have e51 : w5 1 = 0 := by rw [hw5, upI_n _ _ (by decide)]; exact e41
  have e52 : w5 2 = 0 := by rw [hw5, upI_n _ _ (by decide)]; exact e42
  have h55 : P5 w5 := fun k k0 k1 => by omega
  refine v_aload_0 dX2_tellFirst_35 ?_
  refine v_iconst dX2_tellFirst_36 ?_
  refine v_iconst dX2_tellFirst_37 ?_
  refine l_X2_46 rfl dX2_tellFirst_38 hO5.1 ⟨Nat.le_of_ble_eq_true rfl, Nat.le_of_ble_eq_true rfl⟩ (Nat.le_of_ble_eq_true rfl) ⟨Nat.le_refl _, Nat.le_refl _⟩ (c_addSubst hO5 h55 (by omega) (by omega) (fun M6 hO6 hf6 => ?_))
  rw [e51]
  obtain ⟨w6, hw6⟩ : ∃ w6 : Int → Int, w6 = sbR w5 1 1 := ⟨_, rfl⟩
  rw [← hw6] at hO6
  have e61 : w6 1 = 1 := by rw [hw6]; unfold sbR; rw [e51]; simp [upI]
  have e62 : w6 2 = 0 := by rw [hw6]; unfold sbR; rw [e51]; simp [upI]; exact e52
  have e69 : w6 (9 + 13 * 0) = 0 := by rw [hw6]; unfold sbR; rw [e51]; simp [upI]
  have h56 : P5 w6 := fun k k0 k1 => by
    have : k = 0 := by omega
    subst this
    omega
  obtain ⟨p6, q6, n6, lv6, ix6, u6, -⟩ := hO6.sub (k := 0) (by decide) (by decide)
  refine v_astore_1 dX2_tellFirst_41 (Nat.le_of_ble_eq_true rfl) rfl ?_
  refine v_aload_1 dX2_tellFirst_42 ?_
  refine v_ifnull_s dX2_tellFirst_43 ?_
  refine v_aload_1 dX2_tellFirst_46 ?_
  refine v_iconst dX2_tellFirst_47 ?_
  refine v_iconst dX2_tellFirst_48 ?_
  refine l_X2_50 rfl dX2_tellFirst_49 u6 ⟨Nat.le_of_ble_eq_true rfl, Nat.le_of_ble_eq_true rfl⟩ (Nat.le_of_ble_eq_true rfl) ⟨Nat.le_refl _, Nat.le_refl _⟩ (c_addPoint hO6 h56 (k := 0) (i := 0) (by decide) (by omega) (by decide) e69 (by decide) (by decide) (fun M7 hO7 hf7 => ?_))
  obtain ⟨w7, hw7⟩ : ∃ w7 : Int → Int, w7 = ptW w6 0 0 0 0 := ⟨_, rfl⟩
  rw [← hw7] at hO7
  have e71 : w7 1 = 1 := by rw [hw7]; unfold ptW; simp [upI]; exact e61
  have e72 : w7 2 = 0 := by rw [hw7]; unfold ptW; simp [upI]; exact e62
  have e79 : w7 (9 + 13 * 0) = 1 := by rw [hw7]; unfold ptW; simp [upI]
  have h57 : P5 w7 := fun k k0 k1 => by
    have : k = 0 := by omega
    subst this
    omega
  obtain ⟨p7, q7, n7, lv7, ix7, u7, -⟩ := hO7.sub (k := 0) (by decide) (by decide)
  refine v_aload_1 dX2_tellFirst_52 ?_
  refine v_bipush dX2_tellFirst_53 (by decide) ?_
  refine v_bipush dX2_tellFirst_55 (by decide) ?_
  refine l_X2_50 rfl dX2_tellFirst_57 u7 ⟨Nat.le_of_ble_eq_true rfl, Nat.le_of_ble_eq_true rfl⟩ (Nat.le_of_ble_eq_true rfl) ⟨Nat.le_refl _, Nat.le_refl _⟩ (c_addPoint hO7 h57 (k := 0) (i := 1) (by decide) (by omega) (by decide) e79 (by decide) (by decide) (fun M8 hO8 hf8 => ?_))
  obtain ⟨w8, hw8⟩ : ∃ w8 : Int → Int, w8 = ptW w7 0 1 100 100 := ⟨_, rfl⟩
  rw [← hw8] at hO8
  have e81 : w8 1 = 1 := by rw [hw8]; unfold ptW; simp [upI]; exact e71
  have e82 : w8 2 = 0 := by rw [hw8]; unfold ptW; simp [upI]; exact e72
  have e89 : w8 (9 + 13 * 0) = 2 := by rw [hw8]; unfold ptW; simp [upI]
  have h58 : P5 w8 := fun k k0 k1 => by
    have : k = 0 := by omega
    subst this
    omega
  refine v_aload_0 dX2_tellFirst_60 ?_
  refine v_iconst dX2_tellFirst_61 ?_
  refine l_X2_54 rfl dX2_tellFirst_62 hO8.1 ⟨Nat.le_of_ble_eq_true rfl, Nat.le_of_ble_eq_true rfl⟩ (Nat.le_of_ble_eq_true rfl) ⟨Nat.le_refl _, Nat.le_refl _⟩ (c_addStation hO8 h58 (by omega) (by omega) (by omega) (fun M9 hO9 hf9 => ?_))
  have eW : upI (upI w8 (46 + w8 2) 0) 2 (w8 2 + 1) = w0F := by
    rw [e82]
    funext j
    simp only [hw8, hw7, hw6, hw5, ptW, sbR]
    have e51b : upI w4 3 50 1 = 0 := by rw [← hw5]; exact e51
    rw [e51b]
    simp only [hw4, w0F, upI, clW]
    rcases (show j = 1 ∨ j = 2 ∨ j = 3 ∨ j = 4 ∨ j = 5 ∨ j = 6 ∨ j = 7 ∨ j = 8 ∨ j = 9 ∨ j = 10 ∨ j = 11 ∨ j = 12 ∨ j = 13 ∨ j = 46 ∨ (j ≠ 1 ∧ j ≠ 2 ∧ j ≠ 3 ∧ j ≠ 4 ∧ j ≠ 5 ∧ j ≠ 6 ∧ j ≠ 7 ∧ j ≠ 8 ∧ j ≠ 9 ∧ j ≠ 10 ∧ j ≠ 11 ∧ j ≠ 12 ∧ j ≠ 13 ∧ j ≠ 46) by omega) with rfl | rfl | rfl | rfl | rfl | rfl | rfl | rfl | rfl | rfl | rfl | rfl | rfl | rfl | h
    · simp
    · simp
    · simp
    · simp
    · simp
    · simp
    · simp
    · simp
    · simp
    · simp
    · simp
    · simp
    · simp
    · simp
    · repeat rw [if_neg (by omega)]
  rw [eW] at hO9
  exact v_vret dX2_tellFirst_65 rfl (Nat.le_refl _) (Nat.le_refl _) (hp M9 hO9 (hf1.tr ((((Fr.set (by omega) (by omega)).tr (Fr.set (by omega) (by omega))).tr (Fr.set (by omega) (by omega))).tr ((Fr.set (by omega) (by omega)).tr (hf6.tr (hf7.tr (hf8.tr hf9)))))))

