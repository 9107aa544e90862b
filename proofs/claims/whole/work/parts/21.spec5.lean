/-! halving -/
def stp : Nat → Int
  | 0 => 0
  | j + 1 => 2 ^ j
theorem stp_div : ∀ j : Nat, j ≤ 9 → stp (j + 1) / 2 = stp j := by decide
theorem stp_bd : ∀ j : Nat, j ≤ 10 → 0 ≤ stp j ∧ stp j ≤ 512 := by decide
theorem stp_pos (j : Nat) (h : j ≤ 9) : 0 < stp (j + 1) := by
  have : ∀ j : Nat, j ≤ 9 → 0 < stp (j + 1) := by decide
  exact this j h
/-- P holds up to some place: it lies from les on, below les + 2 ^ j -/
def bsI (P : Int → Bool) (les : Int) (j : Nat) : Prop := -1 ≤ les ∧ les ≤ 999 ∧ (les = -1 ∨ P les = true) ∧ (999 < les + 2 ^ j ∨ P (les + 2 ^ j) = false)
theorem bs_yes {P : Int → Bool} {les : Int} {j : Nat} (h : bsI P les (j + 1)) (h0 : 0 < stp (j + 1)) (h1 : les + stp (j + 1) ≤ 999) (h2 : P (les + stp (j + 1)) = true) : bsI P (les + stp (j + 1)) j := by
  have e : (2 : Int) ^ (j + 1) = 2 ^ j + 2 ^ j := by rw [Int.pow_succ]; omega
  obtain ⟨a, b, c, d⟩ := h
  have es : stp (j + 1) = 2 ^ j := rfl
  rw [es] at h0 h1 h2 ⊢
  refine ⟨by omega, h1, Or.inr h2, ?_⟩
  rw [e, ← Int.add_assoc] at d
  exact d
theorem bs_no {P : Int → Bool} {les : Int} {j : Nat} (h : bsI P les (j + 1)) (h2 : 999 < les + stp (j + 1) ∨ P (les + stp (j + 1)) = false) : bsI P les j := ⟨h.1, h.2.1, h.2.2.1, h2⟩
theorem bs_start (P : Int → Bool) : bsI P (-1) 10 := ⟨by omega, by omega, Or.inl rfl, Or.inl (by decide)⟩
/-- what holds at a place holds at every lesser one -/
def dnC (P : Int → Bool) : Prop := ∀ x y, 0 ≤ x → x ≤ y → y ≤ 999 → P y = true → P x = true
theorem bs_end {P : Int → Bool} (hd : dnC P) {les : Int} (h : bsI P les 0) : (∀ y, 0 ≤ y → y ≤ les → P y = true) ∧ (les < 999 → P (les + 1) = false) := by
  obtain ⟨a, b, c, d⟩ := h
  refine ⟨fun y y0 y1 => ?_, fun hl => ?_⟩
  · rcases c with c | c
    · omega
    · exact hd y les y0 y1 b c
  · rw [show (2 : Int) ^ 0 = 1 from rfl] at d
    rcases d with d | d
    · omega
    · exact d
theorem gl_up {P : Int → Bool} {g : Int} (h0 : ∀ y, 0 ≤ y → y ≤ g → P y = true) (h1 : ∀ y, g < y → y < 1000 → P y = false) (hg : -1 ≤ g) : ∀ n : Nat, g < n → n ≤ 1000 → glW P n = if g < 0 then -2 else g
  | 0, h, _ => by rw [if_pos (by omega)]; rfl
  | n + 1, h, hn => by
    rw [glW]
    by_cases e : g = n
    · rw [if_pos (h0 n (by omega) (by omega)), if_neg (by omega)]; exact e.symm
    · rw [if_neg (by rw [h1 n (by omega) (by omega)]; decide)]
      exact gl_up h0 h1 hg n (by omega) (by omega)
theorem gl_bs {P : Int → Bool} (hd : dnC P) {les : Int} (h : bsI P les 0) : glW P 1000 = if les < 0 then -2 else les := by
  obtain ⟨a, b⟩ := bs_end hd h
  refine gl_up a (fun y y0 y1 => ?_) h.1 1000 (by have := h.2.1; omega) (by omega)
  by_cases c : P y = true
  · have := hd (les + 1) y (by have := h.1; omega) (by omega) (by omega) c
    rw [b (by omega)] at this
    cases this
  · exact Bool.eq_false_iff.mpr c
theorem fge_bs {f : Int → Int} {v : Int} (hm : ∀ x y, 0 ≤ x → x ≤ y → y ≤ 999 → f x ≤ f y) {les : Int} (h : bsI (fun y => decide (f y < v)) les 0) : fge f v 0 1000 = if les = 999 then -2 else les + 1 := by
  have hd : dnC (fun y => decide (f y < v)) := by
    intro x y x0 xy y1 hy
    have := hm x y x0 xy y1
    have hy := of_decide_eq_true hy
    exact decide_eq_true (by omega)
  obtain ⟨a, b⟩ := bs_end hd h
  have h1 := h.1
  have h2 := h.2.1
  have q := fge_at (f := f) (v := v) (n := 1000) (les + 1).toNat 0 (les + 1) (by omega) (by omega) (fun y y0 y1 => of_decide_eq_true (a y y0 (by omega))) (fun hl => by have := of_decide_eq_false (b (by omega)); omega)
  rw [show (1000 - 0 : Int).toNat = 1000 from rfl] at q
  rw [q]
  by_cases c : les = 999
  · rw [if_pos c, if_neg (by omega)]
  · rw [if_neg c, if_pos (by omega)]
/-! the broken line never falls -/
theorem scS_le {lv ix : Int → Int} {level : Int} : ∀ m : Nat, (∀ i : Int, 0 ≤ i → i < m → lv i < lv (i + 1) ∧ ix i ≤ ix (i + 1)) → scS lv ix level m ≤ ix m
  | 0, _ => Int.le_refl _
  | m + 1, hm => by
    have h1 := scS_le (lv := lv) (ix := ix) (level := level) m (fun i a b => hm i a (by omega))
    have h2 := hm m (by omega) (by omega)
    rw [show ((m + 1 : Nat) : Int) = m + 1 by omega]
    rw [scS]
    split
    · exact Int.le_refl _
    · split
      · next a b =>
        have := lin_bd (p := level - lv m) (d := ix (m + 1) - ix m) (w := lv (m + 1) - lv m) (by omega) (by omega) b.2 (by omega)
        omega
      · omega
theorem scS_mono {lv ix : Int → Int} {x y : Int} (hxy : x ≤ y) : ∀ m : Nat, (∀ i : Int, 0 ≤ i → i < m → lv i < lv (i + 1) ∧ ix i ≤ ix (i + 1)) → scS lv ix x m ≤ scS lv ix y m
  | 0, _ => Int.le_refl _
  | m + 1, hm => by
    have ih := scS_mono (lv := lv) (ix := ix) hxy m (fun i a b => hm i a (by omega))
    have h2 := hm m (by omega) (by omega)
    have hx := scS_le (lv := lv) (ix := ix) (level := x) (m + 1) hm
    rw [show ((m + 1 : Nat) : Int) = m + 1 by omega] at hx
    have hx2 := scS_le (lv := lv) (ix := ix) (level := x) m (fun i a b => hm i a (by omega))
    by_cases c1 : lv (m + 1) - lv m ≤ y - lv m
    · have e : scS lv ix y (m + 1) = ix (m + 1) := by rw [scS, if_pos c1]
      rw [e]; exact hx
    · by_cases c2 : 0 < y - lv m
      · have e : scS lv ix y (m + 1) = ix m + (y - lv m) * (ix (m + 1) - ix m) / (lv (m + 1) - lv m) := by rw [scS, if_neg c1, if_pos ⟨c2, by omega⟩]
        rw [e]
        by_cases c3 : 0 < x - lv m
        · rw [scS, if_neg (by omega), if_pos ⟨c3, by omega⟩]
          have : (x - lv m) * (ix (m + 1) - ix m) / (lv (m + 1) - lv m) ≤ (y - lv m) * (ix (m + 1) - ix m) / (lv (m + 1) - lv m) := Int.ediv_le_ediv (by omega) (Int.mul_le_mul_of_nonneg_right (by omega) (by omega))
          omega
        · rw [scS, if_neg (by omega), if_neg (by omega)]
          have := lin_bd (p := y - lv m) (d := ix (m + 1) - ix m) (w := lv (m + 1) - lv m) (by omega) (by omega) (by omega) (by omega)
          omega
      · rw [scS, if_neg (by omega), if_neg (by omega)]
        have e : scS lv ix y (m + 1) = scS lv ix y m := by rw [scS, if_neg c1, if_neg (by omega)]
        rw [e]; exact ih
theorem sc_mono {w : Int → Int} (hw : WF w) {k x y : Int} (hk : 0 ≤ k) (hk2 : k < w 1) (hxy : x ≤ y) : scW w k x ≤ scW w k y := by
  have hn := hw.2.2.2.2.2.1 k hk hk2
  unfold scW
  exact scS_mono hxy _ (fun i a b => hw.2.2.2.2.2.2.2.1 k i hk hk2 a (by omega))
/-! one read more or less -/
theorem at_inj {s k h s2 k2 h2 : Int} (a : 0 ≤ k) (b : k < 3) (c : 0 ≤ h) (d : h < 60) (a2 : 0 ≤ k2) (b2 : k2 < 3) (c2 : 0 ≤ h2) (d2 : h2 < 60) (e : atW s k h = atW s2 k2 h2) : s = s2 ∧ k = k2 ∧ h = h2 := by
  unfold atW at e
  omega
theorem Pl_up {w : Int → Int} {s k h : Int} (hP : Pl w s k h) (x s2 k2 h2 : Int) : Pl (upI w (atW s k h) x) s2 k2 h2 ↔ Pl w s2 k2 h2 := by
  unfold Pl
  rw [up_lo w hP x (by omega), up_lo w hP x (by omega), up_lo w hP x (by omega)]
theorem rd_up_ne {w : Int → Int} {s k h : Int} (hP : Pl w s k h) (x : Int) {s2 k2 h2 : Int} (hne : ¬ (s2 = s ∧ k2 = k ∧ h2 = h)) : rdA (upI w (atW s k h) x) s2 k2 h2 = rdA w s2 k2 h2 := by
  by_cases hp2 : Pl w s2 k2 h2
  · rw [rd_pos' ((Pl_up hP x s2 k2 h2).mpr hp2), rd_pos' hp2, upI_n]
    intro e
    exact hne (at_inj hp2.2.2.2.1 hp2.2.2.2.2.2.1 hp2.2.2.2.2.2.2.1 hp2.2.2.2.2.2.2.2.2 hP.2.2.2.1 hP.2.2.2.2.2.1 hP.2.2.2.2.2.2.1 hP.2.2.2.2.2.2.2.2 e)
  · rw [rd_neg hp2, rd_neg (fun q => hp2 ((Pl_up hP x s2 k2 h2).mp q))]
theorem rd_up_eq {w : Int → Int} {s k h : Int} (hP : Pl w s k h) (v : Int) : rdA (upI w (atW s k h) (v + 1)) s k h = v := by
  rw [rd_pos' ((Pl_up hP (v + 1) s k h).mpr hP)]
  show upI w (atW s k h) (v + 1) (atW s k h) - 1 = v
  rw [upI_s]
  omega
theorem mn_up_ne {w : Int → Int} {s k h : Int} (hP : Pl w s k h) (x : Int) {s2 k2 h2 : Int} (hne : ¬ (s2 = s ∧ k2 = k)) : mnW (upI w (atW s k h) x) s2 k2 h2 = mnW w s2 k2 h2 := by
  have e : ∀ y, rdA (upI w (atW s k h) x) s2 k2 y = rdA w s2 k2 y := fun y => rd_up_ne hP x (fun q => hne ⟨q.1, q.2.1⟩)
  by_cases hp2 : Pl w s2 k2 h2
  · unfold mnW fsW
    rw [if_pos ((Pl_up hP x s2 k2 h2).mpr hp2), if_pos hp2, up_lo w hP x (show 7 + 13 * k2 < 50 by omega), up_lo w hP x (show 8 + 13 * k2 < 50 by omega)]
    simp only [e]
  · rw [mn_neg hp2, mn_neg (fun q => hp2 ((Pl_up hP x s2 k2 h2).mp q))]
theorem sc_up {w : Int → Int} (hw : WF w) {s k h : Int} (hP : Pl w s k h) (x : Int) {k2 : Int} (h0 : 0 ≤ k2) (h1 : k2 < w 1) (level : Int) : scW (upI w (atW s k h) x) k2 level = scW w k2 level := by
  have n1 := hw.2.1
  have hn := hw.2.2.2.2.2.1 k2 h0 h1
  unfold scW
  rw [up_lo w hP x (show 9 + 13 * k2 < 50 by omega)]
  exact scS_cong _ (fun i a b => ⟨up_lo w hP x (by omega), up_lo w hP x (by omega)⟩)
theorem sb_up_ne {w : Int → Int} (hw : WF w) {s k h : Int} (hP : Pl w s k h) (x : Int) {s2 k2 h2 : Int} (hne : ¬ (s2 = s ∧ k2 = k)) : sbW (upI w (atW s k h) x) s2 k2 h2 = sbW w s2 k2 h2 := by
  by_cases hp2 : Pl w s2 k2 h2
  · unfold sbW
    rw [mn_up_ne hP x hne, sc_up hw hP x hp2.2.2.2.1 hp2.2.2.2.2.1]
  · rw [sb_neg hp2, sb_neg (fun q => hp2 ((Pl_up hP x s2 k2 h2).mp q))]
/-- the mean of the latest hour, by its read -/
theorem mn_last {w : Int → Int} (hw : WF w) {s k h : Int} (hP : Pl w s k h) (v : Int) (hv : 0 ≤ v) : mnW (upI w (atW s k h) (v + 1)) s k h = if sm (fun x => vc (rdA w s k x)) (fsW w k h) (h - fsW w k h).toNat + 1 < w (8 + 13 * k) then -1 else (sm (fun x => vz (rdA w s k x)) (fsW w k h) (h - fsW w k h).toNat + v + ((h - fsW w k h + 1) - (sm (fun x => vc (rdA w s k x)) (fsW w k h) (h - fsW w k h).toNat + 1)) * max (mx (fun x => rdA w s k x) (fsW w k h) (h - fsW w k h).toNat) v) / (h - fsW w k h + 1) := by
  obtain ⟨f1, f2, f3⟩ := fs_bd hw (k := k) (h := h) hP.2.2.2.1 hP.2.2.2.2.1 hP.2.2.2.2.2.2.1
  have e7 : fsW (upI w (atW s k h) (v + 1)) k h = fsW w k h := by unfold fsW; rw [up_lo w hP _ (show 7 + 13 * k < 50 by omega)]
  have ep : ∀ i : Nat, i < (h - fsW w k h).toNat → rdA (upI w (atW s k h) (v + 1)) s k (fsW w k h + i) = rdA w s k (fsW w k h + i) := fun i hi => rd_up_ne hP _ (fun q => by omega)
  unfold mnW
  rw [if_pos ((Pl_up hP (v + 1) s k h).mpr hP), e7, up_lo w hP _ (show 8 + 13 * k < 50 by omega), show h - fsW w k h + 1 = h + 1 - fsW w k h by omega, sm_st _ f2, sm_st _ f2, mx_st _ f2, rd_up_eq hP]
  rw [sm_cong (f := fun x => vc (rdA (upI w (atW s k h) (v + 1)) s k x)) (g := fun x => vc (rdA w s k x)) _ (fun i hi => by simp only [ep i hi]), sm_cong (f := fun x => vz (rdA (upI w (atW s k h) (v + 1)) s k x)) (g := fun x => vz (rdA w s k x)) _ (fun i hi => by simp only [ep i hi]), mx_cong (f := fun x => rdA (upI w (atW s k h) (v + 1)) s k x) (g := fun x => rdA w s k x) _ (fun i hi => by simp only [ep i hi]), vc_pos (by omega), vz_pos (by omega)]
theorem mn_mono {w : Int → Int} (hw : WF w) {s k h : Int} (hP : Pl w s k h) {x y : Int} (hx : 0 ≤ x) (hxy : x ≤ y) : (mnW (upI w (atW s k h) (x + 1)) s k h = -1 ↔ mnW (upI w (atW s k h) (y + 1)) s k h = -1) ∧ mnW (upI w (atW s k h) (x + 1)) s k h ≤ mnW (upI w (atW s k h) (y + 1)) s k h := by
  obtain ⟨f1, f2, f3⟩ := fs_bd hw (k := k) (h := h) hP.2.2.2.1 hP.2.2.2.2.1 hP.2.2.2.2.2.2.1
  rw [mn_last hw hP x hx, mn_last hw hP y (by omega)]
  have c1 := cn_bd w s k (fsW w k h) (h - fsW w k h).toNat
  have c2 := sz_bd hw s k (fsW w k h) (h - fsW w k h).toNat
  have c3 := mr_bd hw s k (fsW w k h) (h - fsW w k h).toNat
  generalize sm (fun x => vc (rdA w s k x)) (fsW w k h) (h - fsW w k h).toNat = c at *
  generalize sm (fun x => vz (rdA w s k x)) (fsW w k h) (h - fsW w k h).toNat = z at *
  generalize mx (fun x => rdA w s k x) (fsW w k h) (h - fsW w k h).toNat = g at *
  split
  · exact ⟨Iff.rfl, Int.le_refl _⟩
  · have hn : 0 ≤ h - fsW w k h + 1 - (c + 1) := by omega
    have p1 : (h - fsW w k h + 1 - (c + 1)) * max g x ≤ (h - fsW w k h + 1 - (c + 1)) * max g y := Int.mul_le_mul_of_nonneg_left (by omega) hn
    have p2 : 0 ≤ (h - fsW w k h + 1 - (c + 1)) * max g x := Int.mul_nonneg hn (by omega)
    have d1 : 0 ≤ (z + x + (h - fsW w k h + 1 - (c + 1)) * max g x) / (h - fsW w k h + 1) := Int.ediv_nonneg (by omega) (by omega)
    have d2 : (z + x + (h - fsW w k h + 1 - (c + 1)) * max g x) / (h - fsW w k h + 1) ≤ (z + y + (h - fsW w k h + 1 - (c + 1)) * max g y) / (h - fsW w k h + 1) := Int.ediv_le_ediv (by omega) (by omega)
    exact ⟨by omega, d2⟩
theorem sb_mono {w : Int → Int} (hw : WF w) {s k h : Int} (hP : Pl w s k h) {x y : Int} (hx : 0 ≤ x) (hxy : x ≤ y) (k2 : Int) : (sbW (upI w (atW s k h) (x + 1)) s k2 h = -1 ↔ sbW (upI w (atW s k h) (y + 1)) s k2 h = -1) ∧ sbW (upI w (atW s k h) (x + 1)) s k2 h ≤ sbW (upI w (atW s k h) (y + 1)) s k2 h := by
  by_cases e : k2 = k
  · subst e
    obtain ⟨m1, m2⟩ := mn_mono hw hP hx hxy
    unfold sbW
    have s1 := sc_bd hw hP.2.2.2.1 hP.2.2.2.2.1 (mnW (upI w (atW s k2 h) (x + 1)) s k2 h)
    have s2 := sc_bd hw hP.2.2.2.1 hP.2.2.2.2.1 (mnW (upI w (atW s k2 h) (y + 1)) s k2 h)
    have s3 := sc_mono hw hP.2.2.2.1 hP.2.2.2.2.1 m2
    rw [sc_up hw hP _ hP.2.2.2.1 hP.2.2.2.2.1, sc_up hw hP _ hP.2.2.2.1 hP.2.2.2.2.1]
    by_cases c : mnW (upI w (atW s k2 h) (x + 1)) s k2 h = -1
    · rw [if_pos c, if_pos (m1.mp c)]
      exact ⟨Iff.rfl, Int.le_refl _⟩
    · rw [if_neg c, if_neg (fun q => c (m1.mpr q))]
      exact ⟨by omega, s3⟩
  · rw [sb_up_ne hw hP _ (fun q => e q.2), sb_up_ne hw hP _ (fun q => e q.2)]
    exact ⟨Iff.rfl, Int.le_refl _⟩
theorem mx1_mono {f g : Int → Int} (h : ∀ x, (f x = -1 ↔ g x = -1) ∧ f x ≤ g x) (hf : ∀ x, -1 ≤ f x) : ∀ n : Nat, (mx1 f n = -1 ↔ mx1 g n = -1) ∧ mx1 f n ≤ mx1 g n ∧ -1 ≤ mx1 f n
  | 0 => ⟨Iff.rfl, Int.le_refl _, Int.le_refl _⟩
  | n + 1 => by
    obtain ⟨a, b, c⟩ := mx1_mono h hf n
    obtain ⟨d, e⟩ := h n
    have := hf n
    rw [mx1, mx1]
    refine ⟨by omega, by omega, by omega⟩
theorem ix_mono {w : Int → Int} (hw : WF w) {s k h : Int} (hP : Pl w s k h) {x y : Int} (hx : 0 ≤ x) (hxy : x ≤ y) (hy : y ≤ 999) : (ixW (upI w (atW s k h) (x + 1)) s h = -1 ↔ ixW (upI w (atW s k h) (y + 1)) s h = -1) ∧ ixW (upI w (atW s k h) (x + 1)) s h ≤ ixW (upI w (atW s k h) (y + 1)) s h := by
  unfold ixW
  rw [up_lo w hP _ (show (1 : Int) < 50 by omega), up_lo w hP _ (show (1 : Int) < 50 by omega)]
  have q := mx1_mono (fun k2 => sb_mono hw hP hx hxy k2) (fun k2 => (sb_bd (hw.up hP (by omega) (by omega)) s k2 h).1) (w 1).toNat
  exact ⟨q.1, q.2.1⟩
theorem kp_dn {w : Int → Int} (hw : WF w) {s k b : Int} (hP : Pl w s k (w 0 - 1)) : dnC (kpB w s k b) := by
  intro x y hx hxy hy h
  unfold kpB at h ⊢
  have h := of_decide_eq_true h
  obtain ⟨m1, m2⟩ := ix_mono hw hP hx hxy hy
  exact decide_eq_true ⟨fun q => h.1 (m1.mp q), by omega⟩
theorem PlO {w : Int → Int} (hw : WF w) {s k h : Int} : Pl w s k h ↔ (Ss w s ∧ Ks w k ∧ Hs w h) := by
  have n0 := hw.1
  have n1 := hw.2.1
  have n2 := hw.2.2.1
  unfold Pl
  constructor
  · intro q; exact ⟨⟨q.1, q.2.1⟩, ⟨q.2.2.2.1, q.2.2.2.2.1⟩, ⟨q.2.2.2.2.2.2.1, q.2.2.2.2.2.2.2.1⟩⟩
  · intro q; omega
