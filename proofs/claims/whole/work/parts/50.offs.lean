/-! how a draft is filled -/
theorem OffAt.band {E : Ev} {M : Mem} {o : Nat} {w : Int → Int} (h : OffAt E M o w) {k x : Int} (hk : 0 ≤ k) (hk3 : k < 3) {f : Int → Int} (hf : M[o + 1]? = some (ia E 0 3 f)) (hfj : ∀ j, 0 ≤ j → j < 3 → f j = w (4 + j)) : OffAt E (M.set (o + 1) (ia E 0 3 (upI f k x))) o (upI w (4 + k) x) := by
  have hw : ∀ j, j ≠ 4 + k → upI w (4 + k) x j = w j := fun j a => upI_n _ _ a
  obtain ⟨hH, ⟨fb, b1, b2⟩, ⟨gs, s1, s2⟩, ⟨fd, d1, d2⟩, ⟨gr, r1, r2⟩, hR, hU⟩ := h
  refine ⟨?_, ⟨_, gs_eq hf, fun j j0 j1 => ?_⟩, ⟨gs, gs_ne (by omega) s1, s2⟩, ⟨fd, gs_ne (by omega) d1, fun j j0 j1 j2 => by rw [hw _ (by omega)]; rw [hw 2 (by omega)] at j2; exact d2 j j0 j1 j2⟩, ⟨gr, gs_ne (by omega) r1, r2⟩, fun r hr => ?_, fun z hz => ?_⟩
  · rw [hw 3 (by omega), hw 1 (by omega), hw 2 (by omega), hw 0 (by omega)]
    exact gs_ne (by omega) hH
  · by_cases e : j = k
    · rw [e, upI_s, upI_s]
    · rw [upI_n _ _ e, upI_n _ _ (by omega)]; exact hfj j j0 j1
  · obtain ⟨f, f1, f2⟩ := hR r hr
    exact ⟨f, gs_ne (by omega) f1, fun x x0 x1 => by rw [hw _ (by omega)]; exact f2 x x0 x1⟩
  · obtain ⟨p2, q2, n2, lv, ix, u1, u2, u3, u4⟩ := hU z hz
    refine ⟨p2, q2, n2, lv, ix, gs_ne (by omega) u1, gs_ne (by omega) u2, gs_ne (by omega) u3, fun hk2 => ?_⟩
    rw [hw 1 (by omega)] at hk2
    obtain ⟨v1, v2, v3, v4⟩ := u4 hk2
    refine ⟨by rw [hw _ (by omega)]; exact v1, by rw [hw _ (by omega)]; exact v2, by rw [hw _ (by omega)]; exact v3, fun i i0 i1 => ?_⟩
    rw [hw _ (by omega), hw _ (by omega)]
    exact v4 i i0 i1
theorem OffAt.sta {E : Ev} {M : Mem} {o : Nat} {w : Int → Int} (h : OffAt E M o w) (h5 : P5 w) {x : Int} (hk : 0 ≤ w 2) (hk3 : w 2 < 4) (hk1 : w 1 ≤ 3) {f : Int → Int} (hf : M[o + 3]? = some (ia E 0 4 f)) (hfj : ∀ j, 0 ≤ j → j < 4 → j < w 2 → f j = w (46 + j)) : OffAt E ((M.set (o + 3) (ia E 0 4 (upI f (w 2) x))).set o (ob 2 [rr E (o + 1), rr E (o + 2), rr E (o + 3), rr E (o + 4), iv (w 3), iv (w 1), iv (w 2 + 1), iv (w 0)])) o (upI (upI w (46 + w 2) x) 2 (w 2 + 1)) := by
  have hw : ∀ j, j ≠ 2 → j ≠ 46 + w 2 → upI (upI w (46 + w 2) x) 2 (w 2 + 1) j = w j := fun j a b => by rw [upI_n _ _ a, upI_n _ _ b]
  obtain ⟨hH, ⟨fb, b1, b2⟩, ⟨gs, s1, s2⟩, ⟨fd, d1, d2⟩, ⟨gr, r1, r2⟩, hR, hU⟩ := h
  refine ⟨?_, ⟨fb, gs_ne (by omega) (gs_ne (by omega) b1), fun j j0 j1 => by rw [hw _ (by omega) (by omega)]; exact b2 j j0 j1⟩, ⟨gs, gs_ne (by omega) (gs_ne (by omega) s1), s2⟩, ⟨_, gs_ne (by omega) (gs_eq hf), fun j j0 j1 j2 => ?_⟩, ⟨gr, gs_ne (by omega) (gs_ne (by omega) r1), r2⟩, fun r hr => ?_, fun z hz => ?_⟩
  · rw [hw 3 (by omega) (by omega), hw 1 (by omega) (by omega), upI_s, hw 0 (by omega) (by omega)]
    exact gs_eq (gs_ne (by omega) hH)
  · rw [upI_s] at j2
    by_cases e : j = w 2
    · rw [e, upI_s, upI_n _ _ (by omega), upI_s]
    · rw [upI_n _ _ e, hw _ (by omega) (by omega)]; exact hfj j j0 j1 (by omega)
  · obtain ⟨f, f1, f2⟩ := hR r hr
    exact ⟨f, gs_ne (by omega) (gs_ne (by omega) f1), fun x x0 x1 => by rw [hw _ (by omega) (by omega)]; exact f2 x x0 x1⟩
  · obtain ⟨p2, q2, n2, lv, ix, u1, u2, u3, u4⟩ := hU z hz
    refine ⟨p2, q2, n2, lv, ix, gs_ne (by omega) (gs_ne (by omega) u1), gs_ne (by omega) (gs_ne (by omega) u2), gs_ne (by omega) (gs_ne (by omega) u3), fun hk2 => ?_⟩
    rw [hw 1 (by omega) (by omega)] at hk2
    have := h5 z (by omega) hk2
    obtain ⟨v1, v2, v3, v4⟩ := u4 hk2
    refine ⟨by rw [hw _ (by omega) (by omega)]; exact v1, by rw [hw _ (by omega) (by omega)]; exact v2, by rw [hw _ (by omega) (by omega)]; exact v3, fun i i0 i1 => ?_⟩
    rw [hw _ (by omega) (by omega), hw _ (by omega) (by omega)]
    exact v4 i i0 i1
theorem OffAt.adds {E : Ev} {M : Mem} {o : Nat} {w : Int → Int} (h : OffAt E M o w) (h5 : P5 w) {x y : Int} (hk : 0 ≤ w 1) (hk3 : w 1 < 3) {p q n : Int} (hu : M[o + 17 + 3 * (w 1).toNat]? = some (ob 3 [rr E (o + 17 + 3 * (w 1).toNat + 1), rr E (o + 17 + 3 * (w 1).toNat + 2), iv p, iv q, iv n])) : OffAt E ((M.set (o + 17 + 3 * (w 1).toNat) (ob 3 [rr E (o + 17 + 3 * (w 1).toNat + 1), rr E (o + 17 + 3 * (w 1).toNat + 2), iv 0, iv x, iv y])).set o (ob 2 [rr E (o + 1), rr E (o + 2), rr E (o + 3), rr E (o + 4), iv (w 3), iv (w 1 + 1), iv (w 2), iv (w 0)])) o (sbR w x y) := by
  have hw : ∀ j, j ≠ 1 → j < 7 + 13 * w 1 ∨ 9 + 13 * w 1 < j → sbR w x y j = w j := fun j a b => sb_n w a b
  have e1 := sb_1 w hk x y
  obtain ⟨hH, ⟨fb, b1, b2⟩, ⟨gs, s1, s2⟩, ⟨fd, d1, d2⟩, ⟨gr, r1, r2⟩, hR, hU⟩ := h
  refine ⟨?_, ⟨fb, gs_ne (by omega) (gs_ne (by omega) b1), fun j j0 j1 => by rw [hw _ (by omega) (by omega)]; exact b2 j j0 j1⟩, ⟨gs, gs_ne (by omega) (gs_ne (by omega) s1), s2⟩, ⟨fd, gs_ne (by omega) (gs_ne (by omega) d1), fun j j0 j1 j2 => by rw [hw _ (by omega) (by omega)]; rw [hw 2 (by omega) (by omega)] at j2; exact d2 j j0 j1 j2⟩, ⟨gr, gs_ne (by omega) (gs_ne (by omega) r1), r2⟩, fun r hr => ?_, fun z hz => ?_⟩
  · rw [hw 3 (by omega) (by omega), e1, hw 2 (by omega) (by omega), hw 0 (by omega) (by omega)]
    exact gs_eq (gs_ne (by omega) hH)
  · obtain ⟨f, f1, f2⟩ := hR r hr
    exact ⟨f, gs_ne (by omega) (gs_ne (by omega) f1), fun x x0 x1 => by rw [hw _ (by omega) (by omega)]; exact f2 x x0 x1⟩
  · obtain ⟨p2, q2, n2, lv, ix, u1, u2, u3, u4⟩ := hU z hz
    by_cases e : (z : Int) = w 1
    · have e2 : z = (w 1).toNat := by omega
      subst e2
      refine ⟨0, x, y, lv, ix, gs_ne (by omega) (gs_eq hu), gs_ne (by omega) (gs_ne (by omega) u2), gs_ne (by omega) (gs_ne (by omega) u3), fun hk2 => ?_⟩
      rw [toNat_cast hk]
      refine ⟨?_, ?_, ?_, fun i i0 i1 => by omega⟩
      · unfold sbR; rw [upI_s]
      · unfold sbR; rw [upI_n _ _ (by omega), upI_n _ _ (by omega), upI_s]
      · unfold sbR; rw [upI_n _ _ (by omega), upI_s]
    · refine ⟨p2, q2, n2, lv, ix, gs_ne (by omega) (gs_ne (by omega) u1), gs_ne (by omega) (gs_ne (by omega) u2), gs_ne (by omega) (gs_ne (by omega) u3), fun hk2 => ?_⟩
      rw [e1] at hk2
      have := h5 z (by omega) (by omega)
      obtain ⟨v1, v2, v3, v4⟩ := u4 (by omega)
      refine ⟨by rw [hw _ (by omega) (by omega)]; exact v1, by rw [hw _ (by omega) (by omega)]; exact v2, by rw [hw _ (by omega) (by omega)]; exact v3, fun i i0 i1 => ?_⟩
      rw [hw _ (by omega) (by omega), hw _ (by omega) (by omega)]
      exact v4 i i0 i1
theorem OffAt.pt {E : Ev} {M : Mem} {o : Nat} {w : Int → Int} (h : OffAt E M o w) (h5 : P5 w) {k i x y : Int} (hk : 0 ≤ k) (hk1 : k < w 1) (hk3 : k < 3) (i0 : 0 ≤ i) (i5 : i < 5) {q n : Int} {lv ix : Int → Int} (hu : M[o + 17 + 3 * k.toNat]? = some (ob 3 [rr E (o + 17 + 3 * k.toNat + 1), rr E (o + 17 + 3 * k.toNat + 2), iv i, iv q, iv n])) (hl : M[o + 17 + 3 * k.toNat + 1]? = some (ia E 0 5 lv)) (hx : M[o + 17 + 3 * k.toNat + 2]? = some (ia E 0 5 ix)) (hd : i = w (9 + 13 * k) ∧ q = w (7 + 13 * k) ∧ n = w (8 + 13 * k) ∧ ∀ j, 0 ≤ j → j < i → lv j = w (10 + 13 * k + 2 * j) ∧ ix j = w (11 + 13 * k + 2 * j)) : OffAt E (((M.set (o + 17 + 3 * k.toNat + 1) (ia E 0 5 (upI lv i x))).set (o + 17 + 3 * k.toNat + 2) (ia E 0 5 (upI ix i y))).set (o + 17 + 3 * k.toNat) (ob 3 [rr E (o + 17 + 3 * k.toNat + 1), rr E (o + 17 + 3 * k.toNat + 2), iv (i + 1), iv q, iv n])) o (ptW w k i x y) := by
  have hw : ∀ j, j < 9 + 13 * k ∨ (9 + 13 * k < j ∧ j ≠ 10 + 13 * k + 2 * i ∧ j ≠ 11 + 13 * k + 2 * i) → ptW w k i x y j = w j := fun j a => pt_n w a i0
  have n3 : ∀ {b : Nat} {e : Option va_E}, M[b]? = e → (b < o + 17 + 3 * k.toNat ∨ o + 20 + 3 * k.toNat ≤ b) → (((M.set (o + 17 + 3 * k.toNat + 1) (ia E 0 5 (upI lv i x))).set (o + 17 + 3 * k.toNat + 2) (ia E 0 5 (upI ix i y))).set (o + 17 + 3 * k.toNat) (ob 3 [rr E (o + 17 + 3 * k.toNat + 1), rr E (o + 17 + 3 * k.toNat + 2), iv (i + 1), iv q, iv n]))[b]? = e := fun hb hc => gs_ne (by omega) (gs_ne (by omega) (gs_ne (by omega) hb))
  obtain ⟨hH, ⟨fb, b1, b2⟩, ⟨gs, s1, s2⟩, ⟨fd, d1, d2⟩, ⟨gr, r1, r2⟩, hR, hU⟩ := h
  refine ⟨?_, ⟨fb, n3 b1 (by omega), fun j j0 j1 => by rw [hw _ (by omega)]; exact b2 j j0 j1⟩, ⟨gs, n3 s1 (by omega), s2⟩, ⟨fd, n3 d1 (by omega), fun j j0 j1 j2 => by rw [hw _ (by omega)]; rw [hw 2 (by omega)] at j2; exact d2 j j0 j1 j2⟩, ⟨gr, n3 r1 (by omega), r2⟩, fun r hr => ?_, fun z hz => ?_⟩
  · rw [hw 3 (by omega), hw 1 (by omega), hw 2 (by omega), hw 0 (by omega)]
    exact n3 hH (by omega)
  · obtain ⟨f, f1, f2⟩ := hR r hr
    exact ⟨f, n3 f1 (by omega), fun x x0 x1 => by rw [hw _ (by omega)]; exact f2 x x0 x1⟩
  · obtain ⟨p2, q2, n2, lv2, ix2, u1, u2, u3, u4⟩ := hU z hz
    by_cases e : (z : Int) = k
    · have e2 : z = k.toNat := by omega
      subst e2
      refine ⟨i + 1, q, n, _, _, gs_eq (gs_ne (by omega) (gs_ne (by omega) hu)), gs_ne (by omega) (gs_ne (by omega) (gs_eq hl)), gs_ne (by omega) (gs_eq (gs_ne (by omega) hx)), fun hk2 => ?_⟩
      rw [toNat_cast hk]
      refine ⟨(upI_s _ _ _).symm, by rw [hw _ (by omega)]; exact hd.2.1, by rw [hw _ (by omega)]; exact hd.2.2.1, fun j j0 j1 => ?_⟩
      by_cases ej : j = i
      · rw [ej, upI_s, upI_s, pt_a w i0, pt_b w i0]; exact ⟨rfl, rfl⟩
      · rw [upI_n _ _ ej, upI_n _ _ ej, hw _ (by omega), hw _ (by omega)]
        exact hd.2.2.2 j j0 (by omega)
    · refine ⟨p2, q2, n2, lv2, ix2, n3 u1 (by omega), n3 u2 (by omega), n3 u3 (by omega), fun hk2 => ?_⟩
      rw [hw 1 (by omega)] at hk2
      have := h5 z (by omega) hk2
      obtain ⟨v1, v2, v3, v4⟩ := u4 hk2
      refine ⟨by rw [hw _ (by omega)]; exact v1, by rw [hw _ (by omega)]; exact v2, by rw [hw _ (by omega)]; exact v3, fun i i0 i1 => ?_⟩
      rw [hw _ (by omega), hw _ (by omega)]
      exact v4 i i0 i1
