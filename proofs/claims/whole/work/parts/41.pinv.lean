/-! what a text that is read tells is an office -/
def SW (w : Int → Int) (k : Int) : Prop :=
  (1 ≤ w (7 + 13 * k) ∧ w (7 + 13 * k) ≤ 12 ∧ 1 ≤ w (8 + 13 * k) ∧ w (8 + 13 * k) ≤ w (7 + 13 * k) ∧ 2 ≤ w (9 + 13 * k) ∧ w (9 + 13 * k) ≤ 5) ∧
  (∀ i, 0 ≤ i → i < w (9 + 13 * k) → 0 ≤ w (10 + 13 * k + 2 * i) ∧ w (10 + 13 * k + 2 * i) ≤ 999 ∧ 0 ≤ w (11 + 13 * k + 2 * i) ∧ w (11 + 13 * k + 2 * i) ≤ 500) ∧
  (∀ i, 0 ≤ i → i + 1 < w (9 + 13 * k) → w (10 + 13 * k + 2 * i) < w (10 + 13 * k + 2 * (i + 1)) ∧ w (11 + 13 * k + 2 * i) ≤ w (11 + 13 * k + 2 * (i + 1)))
def PW (w : Int → Int) : Prop :=
  (0 ≤ w 0 ∧ w 0 ≤ 24) ∧ (0 ≤ w 1 ∧ w 1 ≤ 3) ∧ (0 ≤ w 2 ∧ w 2 ≤ 4) ∧
  (∀ k, 0 ≤ k → k < w 1 → SW w k) ∧
  (∀ s, 0 ≤ s → s < w 2 → 0 ≤ w (46 + s) ∧ w (46 + s) ≤ 2) ∧
  (∀ r h, 0 ≤ r → r < 12 → 0 ≤ h → h < 60 → 0 ≤ w (50 + 60 * r + h) ∧ w (50 + 60 * r + h) ≤ 1000) ∧
  (∀ r h, 0 ≤ r → r < 12 → w 0 ≤ h → h < 60 → w (50 + 60 * r + h) = 0) ∧
  (∀ k, w 1 ≤ k → k < 3 → w (9 + 13 * k) = 0)
theorem SW.cong {w w2 : Int → Int} {k : Int} (h : SW w k) (e : ∀ j, 7 + 13 * k ≤ j → j ≤ 19 + 13 * k → w2 j = w j) : SW w2 k := by
  obtain ⟨h1, h2, h3⟩ := h
  refine ⟨?_, fun i i0 i1 => ?_, fun i i0 i1 => ?_⟩
  · rw [e _ (by omega) (by omega), e _ (by omega) (by omega), e _ (by omega) (by omega)]; exact h1
  · rw [e _ (by omega) (by omega)] at i1
    rw [e _ (by omega) (by omega), e _ (by omega) (by omega)]; exact h2 i i0 i1
  · rw [e _ (by omega) (by omega)] at i1
    rw [e _ (by omega) (by omega), e _ (by omega) (by omega), e _ (by omega) (by omega), e _ (by omega) (by omega)]; exact h3 i i0 i1
theorem PW.wf {w : Int → Int} (h : PW w) (h1 : 1 ≤ w 1) (h2 : 1 ≤ w 2) (h3 : 0 ≤ w 3 ∧ w 3 ≤ 100) (h4 : 1 ≤ w 4 ∧ w 4 < w 5 ∧ w 5 < w 6 ∧ w 6 ≤ 500) : WF w := by
  obtain ⟨a1, a2, a3, a4, a5, a6, a7, a8⟩ := h
  exact ⟨⟨a1.1, by omega⟩, ⟨h1, a2.2⟩, ⟨h2, a3.2⟩, h3, h4, fun k b c => (a4 k b c).1, fun k i b c d e => (a4 k b c).2.1 i d e, fun k i b c d e => (a4 k b c).2.2 i d e, a5, a6, a7⟩
/-- the points so far -/
def PI (w : Int → Int) (k i : Int) : Prop := w (9 + 13 * k) = i ∧
  (∀ j, 0 ≤ j → j < i → 0 ≤ w (10 + 13 * k + 2 * j) ∧ w (10 + 13 * k + 2 * j) ≤ 999 ∧ 0 ≤ w (11 + 13 * k + 2 * j) ∧ w (11 + 13 * k + 2 * j) ≤ 500) ∧
  (∀ j, 0 ≤ j → j + 1 < i → w (10 + 13 * k + 2 * j) < w (10 + 13 * k + 2 * (j + 1)) ∧ w (11 + 13 * k + 2 * j) ≤ w (11 + 13 * k + 2 * (j + 1)))
theorem pt_n (w : Int → Int) {k i a b j : Int} (h : j < 9 + 13 * k ∨ (9 + 13 * k < j ∧ j ≠ 10 + 13 * k + 2 * i ∧ j ≠ 11 + 13 * k + 2 * i)) (h2 : 0 ≤ i) : ptW w k i a b j = w j := by
  unfold ptW
  rw [upI_n _ _ (by omega), upI_n _ _ (by omega), upI_n _ _ (by omega)]
theorem PI.step {w : Int → Int} {k i a b : Int} (h : PI w k i) (i0 : 0 ≤ i) (a0 : 0 ≤ a) (a1 : a ≤ 999) (al : llW w k i ≤ a) (b0 : 0 ≤ b) (b1 : b ≤ 500) (bl : liW w k i ≤ b) : PI (ptW w k i a b) k (i + 1) := by
  obtain ⟨h1, h2, h3⟩ := h
  refine ⟨upI_s _ _ _, fun j j0 j1 => ?_, fun j j0 j1 => ?_⟩
  · by_cases e : j = i
    · rw [e, pt_a w i0, pt_b w i0]; exact ⟨a0, a1, b0, b1⟩
    · rw [pt_n w (by omega) i0, pt_n w (by omega) i0]; exact h2 j j0 (by omega)
  · by_cases e : j + 1 = i
    · rw [e, pt_a w i0, pt_b w i0, pt_n w (by omega) i0, pt_n w (by omega) i0]
      unfold llW at al
      unfold liW at bl
      rw [if_neg (by omega)] at al bl
      rw [show j = i - 1 by omega]
      omega
    · rw [pt_n w (by omega) i0, pt_n w (by omega) i0, pt_n w (by omega) i0, pt_n w (by omega) i0]
      exact h3 j j0 (by omega)
theorem bn_inr {α : Type} (r : Rs α) : bnS r .inr = r := by cases r <;> rfl
theorem pts_inv {T : Int → Int} {L k : Int} : ∀ (n : Nat) (i p : Int) (w : Int → Int) (p2 : Int) (w2 : Int → Int), 5 - i < n → 0 ≤ i → i ≤ 5 → PI w k i → sPts T L k (5 - i).toNat i (llW w k i) (liW w k i) p w = .inr (p2, w2) → (∃ i2, 2 ≤ i2 ∧ i2 ≤ 5 ∧ PI w2 k i2) ∧ ∀ j, j < 9 + 13 * k ∨ 19 + 13 * k < j → w2 j = w j
  | 0, i, p, w, p2, w2, hn, h0, h5, _, _ => by omega
  | n + 1, i, p, w, p2, w2, hn, h0, h5, hi, e => by
    have q := pts_st (T := T) (L := L) (p := p) (k := k) (w := w) h0 h5 (Sum.inr : RW → Rs RW)
    rw [bn_inr, e] at q
    by_cases c : 2 ≤ i ∧ tkK T L p = 3
    · rw [if_pos c] at q
      cases q
      exact ⟨⟨i, c.1, h5, hi⟩, fun _ _ => rfl⟩
    · rw [if_neg c] at q
      cases hq : ptS T L k i p w with
      | inl x => rw [hq] at q; cases q
      | inr r =>
        obtain ⟨p1, w1⟩ := r
        rw [hq] at q
        obtain ⟨a, b, a0, a1, al, b0, b1, bl, i5, ew⟩ := pt_inv hq
        have q2 : Sum.inr (p2, w2) = bnS (sPts T L k (5 - (i + 1)).toNat (i + 1) (llW w1 k (i + 1)) (liW w1 k (i + 1)) p1 w1) .inr := q
        rw [bn_inr] at q2
        subst ew
        obtain ⟨r1, r2⟩ := pts_inv n (i + 1) p1 _ p2 w2 (by omega) (by omega) (by omega) (hi.step h0 a0 a1 al b0 b1 bl) q2.symm
        exact ⟨r1, fun j hj => by rw [r2 j hj, pt_n w (by omega) h0]⟩
theorem nm_inv {α : Type} {T : Int → Int} {L p lo hi : Int} {k : Int → Int → Rs α} {x : α} (h : nmS T L p lo hi k = .inr x) : tkK T L p = 2 ∧ lo ≤ tkN T L p ∧ tkN T L p ≤ hi ∧ k (tkN T L p) (tkB T L p) = .inr x := by
  unfold nmS at h
  split at h
  · next a =>
    split at h
    · next b => exact ⟨a, b.1, b.2, h⟩
    · cases h
  · cases h
theorem sm_inv {α : Type} {T : Int → Int} {L p : Int} {k : Int → Rs α} {x : α} (h : smS T L p k = .inr x) : tkK T L p = 3 ∧ k (tkB T L p) = .inr x := by
  unfold smS at h
  split at h
  · next a => exact ⟨a, h⟩
  · cases h
theorem wd_inv {α : Type} {T : Int → Int} {L p : Int} {cs : List Int} {k : Int → Rs α} {x : α} (h : wdS T L cs p k = .inr x) : isW T L cs p ∧ k (tkB T L p) = .inr x := by
  unfold wdS at h
  split at h
  · next a => exact ⟨a, h⟩
  · cases h
theorem bn_inv {α β : Type} {r : Rs α} {f : α → Rs β} {x : β} (h : bnS r f = .inr x) : ∃ y, r = .inr y ∧ f y = .inr x := by
  cases r with
  | inl y => cases h
  | inr y => exact ⟨y, rfl, h⟩
theorem sb_n (w : Int → Int) {a b j : Int} (h1 : j ≠ 1) (h7 : j < 7 + 13 * w 1 ∨ 9 + 13 * w 1 < j) : sbR w a b j = w j := by
  unfold sbR
  rw [upI_n _ _ (by omega), upI_n _ _ (by omega), upI_n _ _ (by omega), upI_n _ _ h1]
theorem sub_inv {T : Int → Int} {L p p2 : Int} {w w2 : Int → Int} (hw : PW w) (h3 : w 1 < 3) (h : sSub T L p w = .inr (p2, w2)) : PW w2 ∧ w2 1 = w 1 + 1 ∧ ∀ j, j = 0 ∨ (2 ≤ j ∧ j ≤ 6) → w2 j = w j := by
  unfold sSub at h
  obtain ⟨-, h⟩ := wd_inv h
  obtain ⟨-, a1, a2, h⟩ := nm_inv h
  obtain ⟨-, b1, b2, h⟩ := nm_inv h
  obtain ⟨⟨p3, w3⟩, hq, h⟩ := bn_inv h
  obtain ⟨-, h⟩ := sm_inv h
  cases h
  generalize tkN T L (tkB T L p) = a at *
  generalize tkN T L (tkB T L (tkB T L p)) = b at *
  obtain ⟨c1, c2, c3, c4, c5, c6, c7, c8⟩ := hw
  have hq2 : sPts T L (w 1) (5 - 0 : Int).toNat 0 (llW (sbR w a b) (w 1) 0) (liW (sbR w a b) (w 1) 0) (tkB T L (tkB T L (tkB T L p))) (sbR w a b) = .inr (p3, w3) := hq
  obtain ⟨⟨i2, i2a, i2b, q1, q2, q3⟩, q4⟩ := pts_inv 6 0 _ (sbR w a b) p3 w3 (by omega) (by omega) (by omega) ⟨by unfold sbR; rw [upI_s], fun j j0 j1 => by omega, fun j j0 j1 => by omega⟩ hq2
  have e1 : w3 1 = w 1 + 1 := by rw [q4 1 (by omega), sb_1 w c2.1]
  have ek : ∀ j, j ≠ 1 → j < 7 + 13 * w 1 ∨ 19 + 13 * w 1 < j → w3 j = w j := fun j j1 j2 => by rw [q4 j (by omega), sb_n w j1 (by omega)]
  have e7 : w3 (7 + 13 * w 1) = a := by rw [q4 _ (by omega)]; unfold sbR; rw [upI_n _ _ (by omega), upI_n _ _ (by omega), upI_s]
  have e8 : w3 (8 + 13 * w 1) = b := by rw [q4 _ (by omega)]; unfold sbR; rw [upI_n _ _ (by omega), upI_s]
  show PW w3 ∧ w3 1 = w 1 + 1 ∧ ∀ j, j = 0 ∨ (2 ≤ j ∧ j ≤ 6) → w3 j = w j
  refine ⟨⟨?_, by omega, ?_, fun k k0 k1 => ?_, fun s s0 s1 => ?_, fun r h r0 r1 h0 h1 => ?_, fun r h r0 r1 h0 h1 => ?_, fun k k0 k1 => ?_⟩, e1, fun j hj => ek j (by omega) (by omega)⟩
  · rw [ek 0 (by omega) (by omega)]; exact c1
  · rw [ek 2 (by omega) (by omega)]; exact c3
  · by_cases e : k = w 1
    · subst e
      refine ⟨by omega, fun i i0 i1 => q2 i i0 (by omega), fun i i0 i1 => q3 i i0 (by omega)⟩
    · exact (c4 k k0 (by omega)).cong (fun j j0 j1 => ek j (by omega) (by omega))
  · rw [ek 2 (by omega) (by omega)] at s1
    rw [ek _ (by omega) (by omega)]; exact c5 s s0 s1
  · rw [ek _ (by omega) (by omega)]; exact c6 r h r0 r1 h0 h1
  · rw [ek 0 (by omega) (by omega)] at h0
    rw [ek _ (by omega) (by omega)]; exact c7 r h r0 r1 h0 h1
  · rw [ek _ (by omega) (by omega)]; exact c8 k (by omega) k1
theorem sta_inv {T : Int → Int} {L p p2 : Int} {w w2 : Int → Int} (hw : PW w) (h3 : w 2 < 4) (h : sSta T L p w = .inr (p2, w2)) : PW w2 ∧ w2 2 = w 2 + 1 ∧ ∀ j, j = 0 ∨ j = 1 ∨ (3 ≤ j ∧ j ≤ 6) → w2 j = w j := by
  unfold sSta at h
  obtain ⟨-, h⟩ := wd_inv h
  obtain ⟨-, a1, a2, h⟩ := nm_inv h
  obtain ⟨-, h⟩ := sm_inv h
  cases h
  generalize tkN T L (tkB T L p) = a at *
  obtain ⟨c1, c2, c3, c4, c5, c6, c7, c8⟩ := hw
  have ek : ∀ j, j ≠ 2 → j ≠ 46 + w 2 → upI (upI w (46 + w 2) a) 2 (w 2 + 1) j = w j := fun j j1 j2 => by rw [upI_n _ _ j1, upI_n _ _ j2]
  refine ⟨⟨?_, ?_, ?_, fun k k0 k1 => ?_, fun s s0 s1 => ?_, fun r h r0 r1 h0 h1 => ?_, fun r h r0 r1 h0 h1 => ?_, fun k k0 k1 => ?_⟩, upI_s _ _ _, fun j hj => ek j (by omega) (by omega)⟩
  · rw [ek 0 (by omega) (by omega)]; exact c1
  · rw [ek 1 (by omega) (by omega)]; exact c2
  · rw [upI_s]; omega
  · rw [ek 1 (by omega) (by omega)] at k1
    exact (c4 k k0 k1).cong (fun j j0 j1 => ek j (by omega) (by omega))
  · rw [upI_s] at s1
    by_cases e : s = w 2
    · rw [e, upI_n _ _ (by omega), upI_s]; omega
    · rw [ek _ (by omega) (by omega)]; exact c5 s s0 (by omega)
  · rw [ek _ (by omega) (by omega)]; exact c6 r h r0 r1 h0 h1
  · rw [ek 0 (by omega) (by omega)] at h0
    rw [ek _ (by omega) (by omega)]; exact c7 r h r0 r1 h0 h1
  · rw [ek 1 (by omega) (by omega)] at k0
    rw [ek _ (by omega) (by omega)]; exact c8 k k0 k1
theorem rdW_pw {w : Int → Int} (hw : PW w) {s k h v : Int} (s0 : 0 ≤ s) (s4 : s < 4) (k0 : 0 ≤ k) (k3 : k < 3) (h0 : 0 ≤ h) (h24 : h < 24) (v0 : -1 ≤ v) (v1 : v ≤ 999) : PW (rdW w s k h v) ∧ ∀ j, 0 < j → j < 50 → rdW w s k h v j = w j := by
  obtain ⟨c1, c2, c3, c4, c5, c6, c7, c8⟩ := hw
  have ha : atW s k h = 50 + 60 * (3 * s + k) + h := rfl
  have ek : ∀ j, j ≠ 0 → j ≠ atW s k h → rdW w s k h v j = w j := fun j j1 j2 => by unfold rdW; rw [upI_n _ _ j2, upI_n _ _ j1]
  have e0 : rdW w s k h v 0 = max (w 0) (h + 1) := rdW_0 w (by omega)
  refine ⟨⟨?_, ?_, ?_, fun k k0 k1 => ?_, fun s s0 s1 => ?_, fun r x r0 r1 h0 h1 => ?_, fun r x r0 r1 h0 h1 => ?_, fun k k0 k1 => ?_⟩, fun j j0 j1 => ek j (by omega) (by omega)⟩
  · omega
  · rw [ek 1 (by omega) (by omega)]; exact c2
  · rw [ek 2 (by omega) (by omega)]; exact c3
  · rw [ek 1 (by omega) (by omega)] at k1
    exact (c4 k k0 k1).cong (fun j j0 j1 => ek j (by omega) (by omega))
  · rw [ek 2 (by omega) (by omega)] at s1
    rw [ek _ (by omega) (by omega)]; exact c5 s s0 s1
  · by_cases e : 50 + 60 * r + x = atW s k h
    · rw [e]; unfold rdW; rw [upI_s]; omega
    · rw [ek _ (by omega) e]; exact c6 r x r0 r1 h0 h1
  · rw [e0] at h0
    rw [ek _ (by omega) (by omega)]; exact c7 r x r0 r1 (by omega) h1
  · rw [ek 1 (by omega) (by omega)] at k0
    rw [ek _ (by omega) (by omega)]; exact c8 k k0 k1
theorem rds_inv {T : Int → Int} {L s k : Int} (s0 : 0 ≤ s) (s4 : s < 4) (k0 : 0 ≤ k) (k3 : k < 3) : ∀ (n : Nat) (h p : Int) (w : Int → Int) (p2 : Int) (w2 : Int → Int), 0 ≤ h → h + n = 24 → PW w → sRds T L s k n h p w = .inr (p2, w2) → PW w2 ∧ ∀ j, 0 < j → j < 50 → w2 j = w j
  | 0, h, p, w, p2, w2, h0, hn, hw, e => by
    rw [sRds] at e
    split at e
    · cases e; exact ⟨hw, fun _ _ _ => rfl⟩
    · split at e
      · cases e
      · obtain ⟨-, -, -, e⟩ := nm_inv e
        cases e
  | n + 1, h, p, w, p2, w2, h0, hn, hw, e => by
    rw [sRds] at e
    split at e
    · cases e; exact ⟨hw, fun _ _ _ => rfl⟩
    · split at e
      · obtain ⟨r1, r2⟩ := rdW_pw hw s0 s4 k0 k3 h0 (by omega) (show (-1 : Int) ≤ -1 by omega) (by omega)
        obtain ⟨q1, q2⟩ := rds_inv s0 s4 k0 k3 n (h + 1) _ _ p2 w2 (by omega) (by omega) r1 e
        exact ⟨q1, fun j j0 j1 => by rw [q2 j j0 j1, r2 j j0 j1]⟩
      · obtain ⟨k2, v0, v1, e⟩ := nm_inv e
        obtain ⟨r1, r2⟩ := rdW_pw hw s0 s4 k0 k3 h0 (by omega) (show (-1 : Int) ≤ tkN T L p by omega) v1
        obtain ⟨q1, q2⟩ := rds_inv s0 s4 k0 k3 n (h + 1) _ _ p2 w2 (by omega) (by omega) r1 e
        exact ⟨q1, fun j j0 j1 => by rw [q2 j j0 j1, r2 j j0 j1]⟩
theorem ser_inv {T : Int → Int} {L p p2 : Int} {w w2 : Int → Int} {td td2 : Int → Bool} (hw : PW w) (h : sSer T L p w td = .inr ((p2, w2), td2)) : PW w2 ∧ (∀ j, 0 < j → j < 50 → w2 j = w j) ∧ ∃ i, 0 ≤ i ∧ i < 12 ∧ ¬ td i = true ∧ td2 = upB td i := by
  unfold sSer at h
  obtain ⟨-, h⟩ := wd_inv h
  obtain ⟨-, a1, a2, h⟩ := nm_inv h
  obtain ⟨-, b1, b2, h⟩ := nm_inv h
  split at h
  · cases h
  · next nt =>
    obtain ⟨⟨p3, w3⟩, hq, h⟩ := bn_inv h
    obtain ⟨-, h⟩ := sm_inv h
    cases h
    have c2 := hw.2.1
    have c3 := hw.2.2.1
    obtain ⟨r1, r2⟩ := rds_inv a1 (by omega) b1 (by omega) 24 0 _ w p3 w3 (by omega) (by omega) hw hq
    exact ⟨r1, r2, _, by omega, by omega, nt, rfl⟩
