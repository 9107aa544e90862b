/-! the acts keep an office an office -/
theorem WF.pa {w : Int → Int} (hw : WF w) {x : Int} (h : Cp w x) : WF (paW w x) := by
  obtain ⟨a1, a2, a3, a4, a5, a6, a7, a8, a9, b1, b2⟩ := hw
  have ek : ∀ j, j ≠ 0 → paW w x j = w j := fun j hj => upI_n w _ hj
  have e0 : paW w x 0 = w 0 + x := upI_s w 0 _
  refine ⟨by omega, by rw [ek 1 (by omega)]; exact a2, by rw [ek 2 (by omega)]; exact a3, by rw [ek 3 (by omega)]; exact a4, by rw [ek 4 (by omega), ek 5 (by omega), ek 6 (by omega)]; exact a5, fun k k0 k1 => ?_, fun k i k0 k1 i0 i1 => ?_, fun k i k0 k1 i0 i1 => ?_, fun s s0 s1 => ?_, fun r y r0 r1 y0 y1 => ?_, fun r y r0 r1 y0 y1 => ?_⟩
  · rw [ek 1 (by omega)] at k1
    rw [ek _ (by omega), ek _ (by omega), ek _ (by omega)]; exact a6 k k0 k1
  · rw [ek 1 (by omega)] at k1
    rw [ek _ (by omega)] at i1
    rw [ek _ (by omega), ek _ (by omega)]; exact a7 k i k0 k1 i0 i1
  · rw [ek 1 (by omega)] at k1
    rw [ek _ (by omega)] at i1
    rw [ek _ (by omega), ek _ (by omega), ek _ (by omega), ek _ (by omega)]; exact a8 k i k0 k1 i0 i1
  · rw [ek 2 (by omega)] at s1
    rw [ek _ (by omega)]; exact a9 s s0 s1
  · rw [ek _ (by omega)]; exact b1 r y r0 r1 y0 y1
  · rw [e0] at y0
    rw [ek _ (by omega)]; exact b2 r y r0 r1 (by omega) y1
theorem WF.sm {w : Int → Int} (hw : WF w) {x : Int} (h : Cs x) : WF (smW w x) := by
  obtain ⟨a1, a2, a3, a4, a5, a6, a7, a8, a9, b1, b2⟩ := hw
  have ek : ∀ j, j ≠ 3 → smW w x j = w j := fun j hj => upI_n w _ hj
  have e0 : smW w x 3 = x := upI_s w 3 _
  refine ⟨by rw [ek 0 (by omega)]; exact a1, by rw [ek 1 (by omega)]; exact a2, by rw [ek 2 (by omega)]; exact a3, by rw [e0]; exact h, by rw [ek 4 (by omega), ek 5 (by omega), ek 6 (by omega)]; exact a5, fun k k0 k1 => ?_, fun k i k0 k1 i0 i1 => ?_, fun k i k0 k1 i0 i1 => ?_, fun s s0 s1 => ?_, fun r y r0 r1 y0 y1 => ?_, fun r y r0 r1 y0 y1 => ?_⟩
  · rw [ek 1 (by omega)] at k1
    rw [ek _ (by omega), ek _ (by omega), ek _ (by omega)]; exact a6 k k0 k1
  · rw [ek 1 (by omega)] at k1
    rw [ek _ (by omega)] at i1
    rw [ek _ (by omega), ek _ (by omega)]; exact a7 k i k0 k1 i0 i1
  · rw [ek 1 (by omega)] at k1
    rw [ek _ (by omega)] at i1
    rw [ek _ (by omega), ek _ (by omega), ek _ (by omega), ek _ (by omega)]; exact a8 k i k0 k1 i0 i1
  · rw [ek 2 (by omega)] at s1
    rw [ek _ (by omega)]; exact a9 s s0 s1
  · rw [ek _ (by omega)]; exact b1 r y r0 r1 y0 y1
  · rw [ek 0 (by omega)] at y0
    rw [ek _ (by omega)]; exact b2 r y r0 r1 y0 y1
theorem WF.wi {w : Int → Int} (hw : WF w) {k x y : Int} (h : Cw w k x y) : WF (wiW w k x y) := by
  obtain ⟨a1, a2, a3, a4, a5, a6, a7, a8, a9, b1, b2⟩ := hw
  have h1 := h.1.1
  have h2 := h.1.2
  have ek : ∀ j, j ≠ 7 + 13 * k → j ≠ 8 + 13 * k → wiW w k x y j = w j := fun j p q => by unfold wiW; rw [upI_n _ _ q, upI_n _ _ p]
  have e7 : wiW w k x y (7 + 13 * k) = x := by unfold wiW; rw [upI_n _ _ (by omega), upI_s]
  have e8 : wiW w k x y (8 + 13 * k) = y := by unfold wiW; rw [upI_s]
  refine ⟨by rw [ek 0 (by omega) (by omega)]; exact a1, by rw [ek 1 (by omega) (by omega)]; exact a2, by rw [ek 2 (by omega) (by omega)]; exact a3, by rw [ek 3 (by omega) (by omega)]; exact a4, by rw [ek 4 (by omega) (by omega), ek 5 (by omega) (by omega), ek 6 (by omega) (by omega)]; exact a5, fun q k0 k1 => ?_, fun q i k0 k1 i0 i1 => ?_, fun q i k0 k1 i0 i1 => ?_, fun s s0 s1 => ?_, fun r y r0 r1 y0 y1 => ?_, fun r y r0 r1 y0 y1 => ?_⟩
  · rw [ek 1 (by omega) (by omega)] at k1
    have t := a6 q k0 k1
    by_cases e : q = k
    · subst e
      rw [e7, e8, ek _ (by omega) (by omega)]; omega
    · rw [ek _ (by omega) (by omega), ek _ (by omega) (by omega), ek _ (by omega) (by omega)]; exact t
  · rw [ek 1 (by omega) (by omega)] at k1
    rw [ek _ (by omega) (by omega)] at i1
    have t := a6 q k0 k1
    rw [ek _ (by omega) (by omega), ek _ (by omega) (by omega)]; exact a7 q i k0 k1 i0 i1
  · rw [ek 1 (by omega) (by omega)] at k1
    rw [ek _ (by omega) (by omega)] at i1
    have t := a6 q k0 k1
    rw [ek _ (by omega) (by omega), ek _ (by omega) (by omega), ek _ (by omega) (by omega), ek _ (by omega) (by omega)]; exact a8 q i k0 k1 i0 i1
  · rw [ek 2 (by omega) (by omega)] at s1
    rw [ek _ (by omega) (by omega)]; exact a9 s s0 s1
  · rw [ek _ (by omega) (by omega)]; exact b1 r y r0 r1 y0 y1
  · rw [ek 0 (by omega) (by omega)] at y0
    rw [ek _ (by omega) (by omega)]; exact b2 r y r0 r1 y0 y1
theorem WF.co {w : Int → Int} (hw : WF w) {s k h v : Int} (c : Cc w s k h v) : WF (coW w s k h v) := hw.up c.1 c.2.1 c.2.2
theorem bands_cl (T : Int → Int) (L p : Int) (w : Int → Int) : sBands T L p (clW w) = sBands T L p (fun _ => 0) := by
  have e : ∀ a b c : Int, upI (upI (upI (clW w) 4 a) 5 b) 6 c = upI (upI (upI (fun _ => 0) 4 a) 5 b) 6 c := by
    intro a b c
    funext j
    by_cases c6 : j = 6
    · rw [c6, upI_s, upI_s]
    · rw [upI_n _ _ c6, upI_n _ _ c6]
      by_cases c5 : j = 5
      · rw [c5, upI_s, upI_s]
      · rw [upI_n _ _ c5, upI_n _ _ c5]
        by_cases c4 : j = 4
        · rw [c4, upI_s, upI_s]
        · rw [upI_n _ _ c4, upI_n _ _ c4]
          exact if_neg (by omega)
  unfold sBands
  simp only [e]
