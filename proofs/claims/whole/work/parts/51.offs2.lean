set_option maxRecDepth 100000 in
theorem c_putBand {E : Ev} {M : Mem} {Post : Option Value → Mem → Prop} {o : Nat} {w : Int → Int} (hO : OffAt E M o w) {k x : Int} (k0 : 0 ≤ k) (k3 : k < 3) (hp : ∀ M2, OffAt E M2 o (upI w (4 + k) x) → Fr o (o + 26) M M2 → Post none M2) : Cn E rX2_putBand mX2_putBand [rr E o, iv k, iv x] M Post := by
  obtain ⟨fb, b1, b2⟩ := hO.2.1
  refine Cn.of (L := [some (rr E o), some (iv k), some (iv x)]) (by decide) (Nat.le_of_ble_eq_true rfl) rfl ?_
  refine v_iload_1 dX2_putBand_0 ?_
  refine v_if_lt (tgt := 16) dX2_putBand_1 rfl ⟨by omega, by omega⟩ (fun c1 => absurd c1 (by omega)) (fun c1 => ?_)
  refine v_iload_1 dX2_putBand_4 ?_
  refine v_iconst dX2_putBand_5 ?_
  refine v_icmp_ge (tgt := 16) dX2_putBand_6 rfl ⟨by omega, by omega⟩ ⟨by omega, by omega⟩ (fun c6 => absurd c6 (by omega)) (fun c6 => ?_)
  refine v_aload_0 dX2_putBand_9 ?_
  refine g_X2_9 rfl dX2_putBand_10 hO.1 ?_
  refine v_iload_1 dX2_putBand_13 ?_
  refine v_iload_2 dX2_putBand_14 ?_
  refine v_iastore dX2_putBand_15 b1 (by omega) (by omega) (by decide) ?_
  exact v_vret dX2_putBand_16 rfl (Nat.le_refl _) (Nat.le_refl _) (hp _ (hO.band k0 k3 b1 b2) (Fr.set (by omega) (by omega)))

set_option maxRecDepth 100000 in
theorem c_addStation {E : Ev} {M : Mem} {Post : Option Value → Mem → Prop} {o : Nat} {w : Int → Int} (hO : OffAt E M o w) (h5 : P5 w) {x : Int} (w0 : 0 ≤ w 2) (w4 : w 2 < 4) (w1 : w 1 ≤ 3) (hp : ∀ M2, OffAt E M2 o (upI (upI w (46 + w 2) x) 2 (w 2 + 1)) → Fr o (o + 26) M M2 → Post none M2) : Cn E rX2_addStation mX2_addStation [rr E o, iv x] M Post := by
  obtain ⟨fd, d1, d2⟩ := hO.2.2.2.1
  refine Cn.of (L := [some (rr E o), some (iv x)]) (by decide) (Nat.le_of_ble_eq_true rfl) rfl ?_
  refine v_aload_0 dX2_addStation_0 ?_
  refine g_X2_37 rfl dX2_addStation_1 hO.1 ?_
  refine v_if_lt (tgt := 35) dX2_addStation_4 rfl ⟨by omega, by omega⟩ (fun c4 => absurd c4 (by omega)) (fun c4 => ?_)
  refine v_aload_0 dX2_addStation_7 ?_
  refine g_X2_37 rfl dX2_addStation_8 hO.1 ?_
  refine v_iconst dX2_addStation_11 ?_
  refine v_icmp_ge (tgt := 35) dX2_addStation_12 rfl ⟨by omega, by omega⟩ ⟨by omega, by omega⟩ (fun c12 => absurd c12 (by omega)) (fun c12 => ?_)
  refine v_aload_0 dX2_addStation_15 ?_
  refine g_X2_21 rfl dX2_addStation_16 hO.1 ?_
  refine v_aload_0 dX2_addStation_19 ?_
  refine g_X2_37 rfl dX2_addStation_20 hO.1 ?_
  refine v_iload_1 dX2_addStation_23 ?_
  refine v_iastore dX2_addStation_24 d1 (by omega) (by omega) (by decide) ?_
  refine v_aload_0 dX2_addStation_25 ?_
  refine v_dupr dX2_addStation_26 ?_
  refine g_X2_37 rfl dX2_addStation_27 (gs_ne (by omega) hO.1) ?_
  refine v_iconst dX2_addStation_30 ?_
  refine v_iadd dX2_addStation_31 ?_
  refine p_X2_37 rfl dX2_addStation_32 (gs_ne (by omega) hO.1) ?_
  exact v_vret dX2_addStation_35 rfl (Nat.le_refl _) (Nat.le_refl _) (hp _ (hO.sta h5 w0 w4 w1 d1 d2) ((Fr.set (by omega) (by omega)).tr (Fr.set (by omega) (by omega))))

set_option maxRecDepth 100000 in
theorem c_addSubst {E : Ev} {M : Mem} {Post : Option Value → Mem → Prop} {o : Nat} {w : Int → Int} (hO : OffAt E M o w) (h5 : P5 w) {x y : Int} (w0 : 0 ≤ w 1) (w3 : w 1 < 3) (hp : ∀ M2, OffAt E M2 o (sbR w x y) → Fr o (o + 26) M M2 → Post (some (rr E (o + 17 + 3 * (w 1).toNat))) M2) : Cn E rX2_addSubstance mX2_addSubstance [rr E o, iv x, iv y] M Post := by
  obtain ⟨gs, s1, s2⟩ := hO.2.2.1
  obtain ⟨p, q, nn, lv, ix, u1, u2, u3, u4⟩ := hO.sub w0 w3
  refine Cn.of (L := [some (rr E o), some (iv x), some (iv y), none]) (by decide) (Nat.le_of_ble_eq_true rfl) rfl ?_
  refine v_aload_0 dX2_addSubstance_0 ?_
  refine g_X2_34 rfl dX2_addSubstance_1 hO.1 ?_
  refine v_if_lt (tgt := 15) dX2_addSubstance_4 rfl ⟨by omega, by omega⟩ (fun c4 => absurd c4 (by omega)) (fun c4 => ?_)
  refine v_aload_0 dX2_addSubstance_7 ?_
  refine g_X2_34 rfl dX2_addSubstance_8 hO.1 ?_
  refine v_iconst dX2_addSubstance_11 ?_
  refine v_icmp_lt (tgt := 17) dX2_addSubstance_12 rfl ⟨by omega, by omega⟩ ⟨by omega, by omega⟩ (fun c12 => ?_) (fun c12 => absurd c12 (by omega))
  refine v_aload_0 dX2_addSubstance_17 ?_
  refine g_X2_17 rfl dX2_addSubstance_18 hO.1 ?_
  refine v_aload_0 dX2_addSubstance_21 ?_
  refine g_X2_34 rfl dX2_addSubstance_22 hO.1 ?_
  refine v_aaload (ty := .object RX3) dX2_addSubstance_25 s1 rfl rfl (by omega) (by omega) (by decide) ?_
  rw [s2 _ (by omega) (by omega)]
  refine v_astore_3 dX2_addSubstance_26 (Nat.le_of_ble_eq_true rfl) rfl ?_
  refine v_aload_3 dX2_addSubstance_27 ?_
  refine v_iload_1 dX2_addSubstance_28 ?_
  refine p_X2_58 rfl dX2_addSubstance_29 u1 ?_
  refine v_aload_3 dX2_addSubstance_32 ?_
  refine v_iload_2 dX2_addSubstance_33 ?_
  refine p_X2_61 rfl dX2_addSubstance_34 (gs_eq u1) ?_
  rw [gs_gs]
  refine v_aload_3 dX2_addSubstance_37 ?_
  refine v_iconst dX2_addSubstance_38 ?_
  refine p_X2_64 rfl dX2_addSubstance_39 (gs_eq u1) ?_
  rw [gs_gs]
  refine v_aload_0 dX2_addSubstance_42 ?_
  refine v_dupr dX2_addSubstance_43 ?_
  refine g_X2_34 rfl dX2_addSubstance_44 (gs_ne (by omega) hO.1) ?_
  refine v_iconst dX2_addSubstance_47 ?_
  refine v_iadd dX2_addSubstance_48 ?_
  refine p_X2_34 rfl dX2_addSubstance_49 (gs_ne (by omega) hO.1) ?_
  refine v_aload_3 dX2_addSubstance_52 ?_
  exact v_aret dX2_addSubstance_53 rfl (Nat.le_refl _) (Nat.le_refl _) (hp _ (hO.adds h5 w0 w3 u1) ((Fr.set (by omega) (by omega)).tr (Fr.set (by omega) (by omega))))

set_option maxRecDepth 100000 in
theorem c_addPoint {E : Ev} {M : Mem} {Post : Option Value → Mem → Prop} {o : Nat} {w : Int → Int} (hO : OffAt E M o w) (h5 : P5 w) {k i x y : Int} (k0 : 0 ≤ k) (k1 : k < w 1) (k3 : k < 3) (hi : w (9 + 13 * k) = i) (i0 : 0 ≤ i) (i5 : i < 5) (hp : ∀ M2, OffAt E M2 o (ptW w k i x y) → Fr o (o + 26) M M2 → Post none M2) : Cn E rX3_addPoint mX3_addPoint [rr E (o + 17 + 3 * k.toNat), iv x, iv y] M Post := by
  obtain ⟨p, q, nn, lv, ix, u1, u2, u3, u4⟩ := hO.sub k0 k3
  have u4 := u4 k1
  have ep : p = i := u4.1.trans hi
  subst ep
  refine Cn.of (L := [some (rr E (o + 17 + 3 * k.toNat)), some (iv x), some (iv y)]) (by decide) (Nat.le_of_ble_eq_true rfl) rfl ?_
  refine v_aload_0 dX3_addPoint_0 ?_
  refine g_X3_18 rfl dX3_addPoint_1 u1 ?_
  refine v_if_lt (tgt := 45) dX3_addPoint_4 rfl ⟨by omega, by omega⟩ (fun c4 => absurd c4 (by omega)) (fun c4 => ?_)
  refine v_aload_0 dX3_addPoint_7 ?_
  refine g_X3_18 rfl dX3_addPoint_8 u1 ?_
  refine v_iconst dX3_addPoint_11 ?_
  refine v_icmp_ge (tgt := 45) dX3_addPoint_12 rfl ⟨by omega, by omega⟩ ⟨by omega, by omega⟩ (fun c12 => absurd c12 (by omega)) (fun c12 => ?_)
  refine v_aload_0 dX3_addPoint_15 ?_
  refine g_X3_9 rfl dX3_addPoint_16 u1 ?_
  refine v_aload_0 dX3_addPoint_19 ?_
  refine g_X3_18 rfl dX3_addPoint_20 u1 ?_
  refine v_iload_1 dX3_addPoint_23 ?_
  refine v_iastore dX3_addPoint_24 u2 (by omega) (by omega) (by decide) ?_
  refine v_aload_0 dX3_addPoint_25 ?_
  refine g_X3_15 rfl dX3_addPoint_26 (gs_ne (by omega) u1) ?_
  refine v_aload_0 dX3_addPoint_29 ?_
  refine g_X3_18 rfl dX3_addPoint_30 (gs_ne (by omega) u1) ?_
  refine v_iload_2 dX3_addPoint_33 ?_
  refine v_iastore dX3_addPoint_34 (gs_ne (by omega) u3) (by omega) (by omega) (by decide) ?_
  refine v_aload_0 dX3_addPoint_35 ?_
  refine v_dupr dX3_addPoint_36 ?_
  refine g_X3_18 rfl dX3_addPoint_37 (gs_ne (by omega) (gs_ne (by omega) u1)) ?_
  refine v_iconst dX3_addPoint_40 ?_
  refine v_iadd dX3_addPoint_41 ?_
  refine p_X3_18 rfl dX3_addPoint_42 (gs_ne (by omega) (gs_ne (by omega) u1)) ?_
  exact v_vret dX3_addPoint_45 rfl (Nat.le_refl _) (Nat.le_refl _) (hp _ (hO.pt h5 k0 k1 k3 i0 i5 u1 u2 u3 u4) (((Fr.set (by omega) (by omega)).tr (Fr.set (by omega) (by omega))).tr (Fr.set (by omega) (by omega))))

def h0W (w : Int → Int) : Int → Int := fun j => if 0 ≤ j ∧ j ≤ 3 then 0 else w j
def clW (w : Int → Int) : Int → Int := fun j => if 4 ≤ j ∧ j ≤ 6 then w j else 0
theorem h0_0 (w : Int → Int) {j : Int} (h : 0 ≤ j) (h3 : j ≤ 3) : h0W w j = 0 := if_pos ⟨h, h3⟩
theorem h0_n (w : Int → Int) {j : Int} (h : 3 < j) : h0W w j = w j := if_neg (by omega)
theorem OffAt.hd0 {E : Ev} {M : Mem} {o : Nat} {w : Int → Int} (h : OffAt E M o w) : OffAt E (M.set o (ob 2 [rr E (o + 1), rr E (o + 2), rr E (o + 3), rr E (o + 4), iv 0, iv 0, iv 0, iv 0])) o (h0W w) := by
  obtain ⟨hH, ⟨fb, b1, b2⟩, ⟨gs, s1, s2⟩, ⟨fd, d1, d2⟩, ⟨gr, r1, r2⟩, hR, hU⟩ := h
  refine ⟨?_, ⟨fb, gs_ne (by omega) b1, fun j j0 j1 => by rw [h0_n _ (by omega)]; exact b2 j j0 j1⟩, ⟨gs, gs_ne (by omega) s1, s2⟩, ⟨fd, gs_ne (by omega) d1, fun j j0 j1 j2 => by rw [h0_0 _ (by omega) (by omega)] at j2; omega⟩, ⟨gr, gs_ne (by omega) r1, r2⟩, fun r hr => ?_, fun z hz => ?_⟩
  · rw [h0_0 _ (by omega) (by omega), h0_0 _ (by omega) (by omega), h0_0 _ (by omega) (by omega), h0_0 _ (by omega) (by omega)]
    exact gs_eq hH
  · obtain ⟨f, f1, f2⟩ := hR r hr
    exact ⟨f, gs_ne (by omega) f1, fun x x0 x1 => by rw [h0_n _ (by omega)]; exact f2 x x0 x1⟩
  · obtain ⟨p2, q2, n2, lv, ix, u1, u2, u3, u4⟩ := hU z hz
    exact ⟨p2, q2, n2, lv, ix, gs_ne (by omega) u1, gs_ne (by omega) u2, gs_ne (by omega) u3, fun hk2 => by rw [h0_0 _ (by omega) (by omega)] at hk2; omega⟩
theorem OffAt.rd0 {E : Ev} {M : Mem} {o : Nat} {w : Int → Int} (h : OffAt E M o w) (w1 : w 1 = 0) {r x v : Int} (r0 : 0 ≤ r) (r12 : r < 12) (x0 : 0 ≤ x) (x60 : x < 60) {f : Int → Int} (hf : M[o + 5 + r.toNat]? = some (ia E 0 60 f)) (hf2 : ∀ x, 0 ≤ x → x < 60 → f x = w (50 + 60 * r + x) - 1) : OffAt E (M.set (o + 5 + r.toNat) (ia E 0 60 (upI f x v))) o (upI w (50 + 60 * r + x) (v + 1)) := by
  have hw : ∀ j, j ≠ 50 + 60 * r + x → upI w (50 + 60 * r + x) (v + 1) j = w j := fun j a => upI_n _ _ a
  obtain ⟨hH, ⟨fb, b1, b2⟩, ⟨gs, s1, s2⟩, ⟨fd, d1, d2⟩, ⟨gr, r1, r2⟩, hR, hU⟩ := h
  refine ⟨?_, ⟨fb, gs_ne (by omega) b1, fun j j0 j1 => by rw [hw _ (by omega)]; exact b2 j j0 j1⟩, ⟨gs, gs_ne (by omega) s1, s2⟩, ⟨fd, gs_ne (by omega) d1, fun j j0 j1 j2 => by rw [hw _ (by omega)]; rw [hw 2 (by omega)] at j2; exact d2 j j0 j1 j2⟩, ⟨gr, gs_ne (by omega) r1, r2⟩, fun q hq => ?_, fun z hz => ?_⟩
  · rw [hw 3 (by omega), hw 1 (by omega), hw 2 (by omega), hw 0 (by omega)]
    exact gs_ne (by omega) hH
  · by_cases e : (q : Int) = r
    · have e2 : q = r.toNat := by omega
      subst e2
      refine ⟨_, gs_eq hf, fun y y0 y1 => ?_⟩
      rw [toNat_cast r0]
      by_cases ey : y = x
      · rw [ey, upI_s, upI_s]; omega
      · rw [upI_n _ _ ey, hw _ (by omega)]; exact hf2 y y0 y1
    · obtain ⟨f, f1, f2⟩ := hR q hq
      exact ⟨f, gs_ne (by omega) f1, fun y y0 y1 => by rw [hw _ (by omega)]; exact f2 y y0 y1⟩
  · obtain ⟨p2, q2, n2, lv, ix, u1, u2, u3, u4⟩ := hU z hz
    exact ⟨p2, q2, n2, lv, ix, gs_ne (by omega) u1, gs_ne (by omega) u2, gs_ne (by omega) u3, fun hk2 => by rw [hw 1 (by omega)] at hk2; omega⟩
theorem OffAt.cl0 {E : Ev} {M : Mem} {o : Nat} {v v2 : Int → Int} (h : OffAt E M o v) (e : ∀ j, 0 ≤ j → j ≤ 6 → v2 j = v j) (e2 : ∀ j, 50 ≤ j → j < 770 → v2 j = v j) (z1 : v 1 = 0) (z2 : v 2 = 0) : OffAt E M o v2 := by
  obtain ⟨hH, ⟨fb, b1, b2⟩, ⟨gs, s1, s2⟩, ⟨fd, d1, d2⟩, ⟨gr, r1, r2⟩, hR, hU⟩ := h
  refine ⟨?_, ⟨fb, b1, fun j j0 j1 => by rw [e _ (by omega) (by omega)]; exact b2 j j0 j1⟩, ⟨gs, s1, s2⟩, ⟨fd, d1, fun j j0 j1 j2 => by rw [e 2 (by omega) (by omega)] at j2; omega⟩, ⟨gr, r1, r2⟩, fun q hq => ?_, fun z hz => ?_⟩
  · rw [e 3 (by omega) (by omega), e 1 (by omega) (by omega), e 2 (by omega) (by omega), e 0 (by omega) (by omega)]; exact hH
  · obtain ⟨f, f1, f2⟩ := hR q hq
    exact ⟨f, f1, fun y y0 y1 => by rw [e2 _ (by omega) (by omega)]; exact f2 y y0 y1⟩
  · obtain ⟨p2, q2, n2, lv, ix, u1, u2, u3, u4⟩ := hU z hz
    exact ⟨p2, q2, n2, lv, ix, u1, u2, u3, fun hk2 => by rw [e 1 (by omega) (by omega)] at hk2; omega⟩

set_option maxRecDepth 100000 in
theorem li_clear {E : Ev} {M : Mem} {Post : Option Value → Mem → Prop} {o : Nat} {w : Int → Int} {x : Int} (x0 : 0 ≤ x) (x12 : x < 12) (kx : ∀ v M2, (OffAt E M2 o v) → (∀ j, 0 ≤ j → j ≤ 3 → v j = 0) → (∀ j, 4 ≤ j → j ≤ 6 → v j = w j) → (∀ j, 50 ≤ j → j < 50 + 60 * x + 60 → v j = 0) → (Fr o (o + 26) M M2) → V E rX2_clear mX2_clear (finM E rX2_clear Post) 0 0  M2 51 [some (rr E o), some (iv x), some (iv 60)] []) : ∀ v M2, (OffAt E M2 o v) → (∀ j, 0 ≤ j → j ≤ 3 → v j = 0) → (∀ j, 4 ≤ j → j ≤ 6 → v j = w j) → (∀ j, 50 ≤ j → j < 50 + 60 * x → v j = 0) → (Fr o (o + 26) M M2) → V E rX2_clear mX2_clear (finM E rX2_clear Post) 0 0  M2 30 [some (rr E o), some (iv x), some (iv 0)] [] := by
  have lp : ∀ (r : Nat) (y : Int) (v : Int → Int) (M2 : Mem), (OffAt E M2 o v) → (∀ j, 0 ≤ j → j ≤ 3 → v j = 0) → (∀ j, 4 ≤ j → j ≤ 6 → v j = w j) → (∀ j, 50 ≤ j → j < 50 + 60 * x + y → v j = 0) → (Fr o (o + 26) M M2) → (0 ≤ y) → (y ≤ 60) → 60 - y < (r : Int) → V E rX2_clear mX2_clear (finM E rX2_clear Post) 0 0 M2 30 [some (rr E o), some (iv x), some (iv y)] [] := by
    intro r
    induction r with
    | zero => intro y v M2 h_0 h_1 h_2 h_3 h_4 h_5 h_6 hz; exact absurd hz (by omega)
    | succ r ih =>
      intro y v M2 h_0 h_1 h_2 h_3 h_4 h_5 h_6 hz
      refine v_iload_2 dX2_clear_30 ?_
      refine v_bipush dX2_clear_31 (by decide) ?_
      refine v_icmp_ge (tgt := 51) dX2_clear_33 rfl ⟨by omega, by omega⟩ ⟨by omega, by omega⟩ (fun c33 => ?_) (fun c33 => ?_)
      · have ey : y = 60 := by omega
        subst ey
        exact kx v M2 h_0 h_1 h_2 (fun j j0 j1 => h_3 j j0 (by omega)) h_4
      · refine v_aload_0 dX2_clear_36 ?_
        refine g_X2_26 rfl dX2_clear_37 h_0.1 ?_
        refine v_iload_1 dX2_clear_40 ?_
        obtain ⟨gr, s1, s2⟩ := h_0.2.2.2.2.1
        refine v_aaload (ty := .array .int) dX2_clear_41 s1 rfl rfl (by omega) (by omega) (by decide) ?_
        rw [s2 _ (by omega) (by omega)]
        obtain ⟨f, f1, f2⟩ := h_0.row (r := x) (by omega) (by omega)
        refine v_iload_2 dX2_clear_42 ?_
        refine v_iconst dX2_clear_43 ?_
        refine v_iastore dX2_clear_44 f1 (by omega) (by omega) (by decide) ?_
        refine v_iinc_2 dX2_clear_45 (Nat.le_of_ble_eq_true rfl) rfl ?_
        refine v_goto (tgt := 30) dX2_clear_48 rfl ?_
        have ho := h_0.rd0 (h_1 1 (by omega) (by omega)) (r := x) (x := y) (v := -1) (by omega) (by omega) (by omega) (by omega) f1 f2
        exact ih (y + 1) _ _ ho (fun j j0 j1 => by rw [upI_n _ _ (by omega)]; exact h_1 j j0 j1) (fun j j0 j1 => by rw [upI_n _ _ (by omega)]; exact h_2 j j0 j1) (fun j j0 j1 => by
          by_cases e : j = 50 + 60 * x + y
          · rw [e, upI_s]; rfl
          · rw [upI_n _ _ e]; exact h_3 j j0 (by omega)) (h_4.tr (Fr.set (by omega) (by omega))) (by omega) (by omega) (by omega)
  intro v M2 a b c d e
  exact lp 61 0 v M2 a b c (fun j j0 j1 => d j j0 (by omega)) e (by omega) (by omega) (by omega)

theorem cl_e {w v : Int → Int} (h1 : ∀ j, 0 ≤ j → j ≤ 3 → v j = 0) (h2 : ∀ j, 4 ≤ j → j ≤ 6 → v j = w j) (j : Int) (j0 : 0 ≤ j) (j1 : j ≤ 6) : clW w j = v j := by
  unfold clW
  by_cases c : 4 ≤ j ∧ j ≤ 6
  · rw [if_pos c, h2 j c.1 c.2]
  · rw [if_neg c, h1 j j0 (by omega)]

set_option maxRecDepth 100000 in
theorem c_clear {E : Ev} {M : Mem} {Post : Option Value → Mem → Prop} {o : Nat} {w : Int → Int} (hO : OffAt E M o w) (hp : ∀ M2, OffAt E M2 o (clW w) → Fr o (o + 26) M M2 → Post none M2) : Cn E rX2_clear mX2_clear [rr E o] M Post := by
  have lp : ∀ (r : Nat) (x : Int) (v : Int → Int) (M2 : Mem), (OffAt E M2 o v) → (∀ j, 0 ≤ j → j ≤ 3 → v j = 0) → (∀ j, 4 ≤ j → j ≤ 6 → v j = w j) → (∀ j, 50 ≤ j → j < 50 + 60 * x → v j = 0) → (Fr o (o + 26) M M2) → (0 ≤ x) → (x ≤ 12) → 12 - x < (r : Int) → V E rX2_clear mX2_clear (finM E rX2_clear Post) 0 0 M2 22 [some (rr E o), some (iv x), none] [] := by
    intro r
    induction r with
    | zero => intro x v M2 h_0 h_1 h_2 h_3 h_4 h_5 h_6 hz; exact absurd hz (by omega)
    | succ r ih =>
      intro x v M2 h_0 h_1 h_2 h_3 h_4 h_5 h_6 hz
      refine v_iload_1 dX2_clear_22 ?_
      refine v_bipush dX2_clear_23 (by decide) ?_
      refine v_icmp_ge (tgt := 57) dX2_clear_25 rfl ⟨by omega, by omega⟩ ⟨by omega, by omega⟩ (fun c25 => ?_) (fun c25 => ?_)
      · exact v_vret dX2_clear_57 rfl (Nat.le_refl _) (Nat.le_refl _) (hp M2 (h_0.cl0 (fun j j0 j1 => (cl_e h_1 h_2 j j0 j1)) (fun j j0 j1 => by rw [h_3 j j0 (by omega)]; exact if_neg (by omega)) (h_1 1 (by omega) (by omega)) (h_1 2 (by omega) (by omega))) h_4)
      · refine v_iconst dX2_clear_28 ?_
        refine v_istore_2 dX2_clear_29 (Nat.le_of_ble_eq_true rfl) rfl ?_
        refine li_clear (by omega) (by omega) (fun v2 M3 a b c d e => ?_) v M2 h_0 h_1 h_2 h_3 h_4
        refine v_iinc_1 dX2_clear_51 (Nat.le_of_ble_eq_true rfl) rfl ?_
        refine v_goto (tgt := 22) dX2_clear_54 rfl ?_
        exact v_weak [some (rr E o), some (iv (x + 1)), none] ⟨rfl, rfl, trivial⟩ (ih (x + 1) v2 M3 a b c (fun j j0 j1 => d j j0 (by omega)) e (by omega) (by omega) (by omega))
  refine Cn.of (L := [some (rr E o), none, none]) (by decide) (Nat.le_of_ble_eq_true rfl) rfl ?_
  refine v_aload_0 dX2_clear_0 ?_
  refine v_iconst dX2_clear_1 ?_
  refine p_X2_30 rfl dX2_clear_2 hO.1 ?_
  refine v_aload_0 dX2_clear_5 ?_
  refine v_iconst dX2_clear_6 ?_
  refine p_X2_34 rfl dX2_clear_7 (gs_eq hO.1) ?_
  rw [gs_gs]
  refine v_aload_0 dX2_clear_10 ?_
  refine v_iconst dX2_clear_11 ?_
  refine p_X2_37 rfl dX2_clear_12 (gs_eq hO.1) ?_
  rw [gs_gs]
  refine v_aload_0 dX2_clear_15 ?_
  refine v_iconst dX2_clear_16 ?_
  refine p_X2_40 rfl dX2_clear_17 (gs_eq hO.1) ?_
  rw [gs_gs]
  refine v_iconst dX2_clear_20 ?_
  refine v_istore_1 dX2_clear_21 (Nat.le_of_ble_eq_true rfl) rfl ?_
  exact lp 13 0 (h0W w) _ hO.hd0 (fun j j0 j1 => h0_0 w j0 j1) (fun j j0 j1 => h0_n w (by omega)) (fun j j0 j1 => by omega) (Fr.set (by omega) (by omega)) (by omega) (by omega) (by omega)
