theorem PW.hi {w w2 : Int → Int} (h : PW w) (e : ∀ j, j < 3 ∨ 6 < j → w2 j = w j) : PW w2 := by
  obtain ⟨c1, c2, c3, c4, c5, c6, c7, c8⟩ := h
  refine ⟨?_, ?_, ?_, fun k k0 k1 => ?_, fun s s0 s1 => ?_, fun r h r0 r1 h0 h1 => ?_, fun r h r0 r1 h0 h1 => ?_, fun k k0 k1 => ?_⟩
  · rw [e 0 (by omega)]; exact c1
  · rw [e 1 (by omega)]; exact c2
  · rw [e 2 (by omega)]; exact c3
  · rw [e 1 (by omega)] at k1
    exact (c4 k k0 k1).cong (fun j j0 j1 => e j (by omega))
  · rw [e 2 (by omega)] at s1
    rw [e _ (by omega)]; exact c5 s s0 s1
  · rw [e _ (by omega)]; exact c6 r h r0 r1 h0 h1
  · rw [e 0 (by omega)] at h0
    rw [e _ (by omega)]; exact c7 r h r0 r1 h0 h1
  · rw [e 1 (by omega)] at k0
    rw [e _ (by omega)]; exact c8 k k0 k1
def BH (w : Int → Int) : Prop := (0 ≤ w 3 ∧ w 3 ≤ 100) ∧ (1 ≤ w 4 ∧ w 4 < w 5 ∧ w 5 < w 6 ∧ w 6 ≤ 500)
theorem bands_inv {T : Int → Int} {L p p2 : Int} {w w2 : Int → Int} (h : sBands T L p w = .inr (p2, w2)) : (1 ≤ w2 4 ∧ w2 4 < w2 5 ∧ w2 5 < w2 6 ∧ w2 6 ≤ 500) ∧ ∀ j, j < 4 ∨ 6 < j → w2 j = w j := by
  unfold sBands at h
  obtain ⟨-, h⟩ := wd_inv h
  obtain ⟨-, a1, a2, h⟩ := nm_inv h
  obtain ⟨-, b1, b2, h⟩ := nm_inv h
  obtain ⟨-, c1, c2, h⟩ := nm_inv h
  obtain ⟨-, h⟩ := sm_inv h
  cases h
  refine ⟨?_, fun j hj => by rw [upI_n _ _ (by omega), upI_n _ _ (by omega), upI_n _ _ (by omega)]⟩
  rw [upI_s, upI_n _ _ (show (4 : Int) ≠ 6 by omega), upI_n _ _ (show (4 : Int) ≠ 5 by omega), upI_s, upI_n _ _ (show (5 : Int) ≠ 6 by omega), upI_s]
  omega
theorem share_inv {T : Int → Int} {L p p2 : Int} {w w2 : Int → Int} (h : sShare T L p w = .inr (p2, w2)) : (0 ≤ w2 3 ∧ w2 3 ≤ 100) ∧ ∀ j, j ≠ 3 → w2 j = w j := by
  unfold sShare at h
  obtain ⟨-, h⟩ := wd_inv h
  obtain ⟨-, a1, a2, h⟩ := nm_inv h
  obtain ⟨-, h⟩ := sm_inv h
  cases h
  exact ⟨by rw [upI_s]; omega, fun j hj => upI_n _ _ hj⟩
theorem head_inv {T : Int → Int} {L p p2 : Int} {w w2 : Int → Int} (hw : PW w) (h : bnS (sBands T L p w) (fun r => sShare T L r.1 r.2) = .inr (p2, w2)) : PW w2 ∧ BH w2 ∧ w2 1 = w 1 ∧ w2 2 = w 2 := by
  obtain ⟨⟨p1, w1⟩, h1, h2⟩ := bn_inv h
  obtain ⟨a1, a2⟩ := bands_inv h1
  obtain ⟨b1, b2⟩ := share_inv h2
  have b2 : ∀ j, j ≠ 3 → w2 j = w1 j := b2
  refine ⟨hw.hi (fun j hj => by rw [b2 j (by omega), a2 j (by omega)]), ⟨b1, ?_⟩, by rw [b2 1 (by omega), a2 1 (by omega)], by rw [b2 2 (by omega), a2 2 (by omega)]⟩
  rw [b2 4 (by omega), b2 5 (by omega), b2 6 (by omega)]
  exact a1
theorem BH.keep {w w2 : Int → Int} (h : BH w) (e : ∀ j, 3 ≤ j → j ≤ 6 → w2 j = w j) : BH w2 := by
  unfold BH
  rw [e 3 (by omega) (by omega), e 4 (by omega) (by omega), e 5 (by omega) (by omega), e 6 (by omega) (by omega)]
  exact h
theorem subs_st {T : Int → Int} {L p : Int} {w : Int → Int} {n : Int} {f : Nat} (hf : w 1 + f = 3) (h0 : f = 0 → isW T L wSubst p) : sSubs T L f p w n = bnS (if w 1 = 3 then .inl (3, tkS T L p) else sSub T L p w) (fun r => if isW T L wSubst r.1 then sSubs T L (f - 1) r.1 r.2 (n + 1) else .inr (r, n + 1)) := by
  cases f with
  | zero => rw [sSubs, if_pos (h0 rfl), if_pos (by omega)]; rfl
  | succ f => rw [sSubs, if_neg (by omega), Nat.add_sub_cancel]
theorem stas_st {T : Int → Int} {L p : Int} {w : Int → Int} {n : Int} {f : Nat} (hf : w 2 + f = 4) (h0 : f = 0 → isW T L wStat p) : sStas T L f p w n = bnS (if w 2 = 4 then .inl (3, tkS T L p) else sSta T L p w) (fun r => if isW T L wStat r.1 then sStas T L (f - 1) r.1 r.2 (n + 1) else .inr (r, n + 1)) := by
  cases f with
  | zero => rw [sStas, if_pos (h0 rfl), if_pos (by omega)]; rfl
  | succ f => rw [sStas, if_neg (by omega), Nat.add_sub_cancel]
theorem all_st {T : Int → Int} {L p : Int} {w : Int → Int} {td : Int → Bool} {n : Int} {f : Nat} : sAll T L f p w td n = if tkK T L p = 4 then .inr (w, n) else bnS (sSer T L p w td) (fun r => if f = 0 then .inl (0, 0) else sAll T L (f - 1) r.1.1 r.1.2 r.2 (n + 1)) := by
  cases f with
  | zero => rw [sAll]; rfl
  | succ f =>
    rw [sAll, Nat.add_sub_cancel]
    rfl
theorem pc_up (td : Int → Bool) {i : Int} (h0 : 0 ≤ i) (hn : ¬ td i = true) : ∀ n : Nat, pcN (upB td i) n = pcN td n + (if i < n then 1 else 0)
  | 0 => by rw [if_neg (by omega)]; rfl
  | n + 1 => by
    have h := pc_up td h0 hn n
    unfold pcN at h ⊢
    rw [sm, sm, h]
    have a1 : (if upB td i (0 + (n : Int)) = true then (1 : Int) else 0) = (if td (0 + (n : Int)) = true then 1 else 0) + (if i = (n : Int) then 1 else 0) := by
      rw [show upB td i (0 + (n : Int)) = (if 0 + (n : Int) = i then true else td (0 + (n : Int))) from rfl]
      by_cases e : 0 + (n : Int) = i
      · rw [if_pos e, if_pos rfl, e, if_neg hn, if_pos (show i = (n : Int) by omega)]; rfl
      · rw [if_neg e, if_neg (show ¬ i = (n : Int) by omega), Int.add_zero]
    have a2 : (if i < (n : Int) then (1 : Int) else 0) + (if i = (n : Int) then 1 else 0) = if i < ((n + 1 : Nat) : Int) then 1 else 0 := by
      by_cases c : i < (n : Int)
      · rw [if_pos c, if_neg (show ¬ i = (n : Int) by omega), if_pos (show i < ((n + 1 : Nat) : Int) by omega)]; rfl
      · by_cases c2 : i = (n : Int)
        · rw [if_neg c, if_pos c2, if_pos (show i < ((n + 1 : Nat) : Int) by omega)]; rfl
        · rw [if_neg c, if_neg c2, if_neg (show ¬ i < ((n + 1 : Nat) : Int) by omega)]; rfl
    rw [a1, ← a2]
    omega
theorem pc_le (td : Int → Bool) (n : Nat) : 0 ≤ pcN td n ∧ pcN td n ≤ n := by
  have := sm_bd (f := fun i => if td i = true then 1 else 0) (a := 0) (lo := 0) (hi := 1) n (fun i _ => by split <;> omega)
  unfold pcN
  omega
theorem pc_full (td : Int → Bool) : ∀ n : Nat, pcN td n = n → ∀ i : Int, 0 ≤ i → i < n → td i = true
  | 0, _, i, a, b => by omega
  | n + 1, h, i, a, b => by
    have hb := pc_le td n
    have h1 : pcN td (n + 1) = pcN td n + (if td (0 + (n : Int)) = true then 1 else 0) := by unfold pcN; rw [sm]
    by_cases c : td (0 + (n : Int)) = true
    · rw [if_pos c] at h1
      by_cases e : i = n
      · rw [e, ← Int.zero_add (n : Int)]; exact c
      · exact pc_full td n (by omega) i a (by omega)
    · rw [if_neg c] at h1; omega
theorem ser_none {T : Int → Int} {L p : Int} {w : Int → Int} {td : Int → Bool} {x : RW × (Int → Bool)} (hw : PW w) (hf : pcN td 12 = 12) (h : sSer T L p w td = .inr x) : False := by
  obtain ⟨⟨p2, w2⟩, td2⟩ := x
  obtain ⟨-, -, i, i0, i1, i2, -⟩ := ser_inv hw h
  exact i2 (pc_full td 12 hf i i0 (by omega))
theorem ser_cnt {T : Int → Int} {L p : Int} {w : Int → Int} {td : Int → Bool} {x : RW × (Int → Bool)} (hw : PW w) (h : sSer T L p w td = .inr x) : pcN x.2 12 = pcN td 12 + 1 := by
  obtain ⟨⟨p2, w2⟩, td2⟩ := x
  obtain ⟨-, -, i, i0, i1, i2, e⟩ := ser_inv hw h
  subst e
  have := pc_up td i0 i2 12
  rwa [if_pos (show i < ((12 : Nat) : Int) by omega)] at this
theorem subs_inv {T : Int → Int} {L : Int} : ∀ (f : Nat) (p : Int) (w : Int → Int) (n : Int) (x : RW × Int), w 1 + f = 3 → (f = 0 → isW T L wSubst p) → PW w → BH w → sSubs T L f p w n = .inr x → PW x.1.2 ∧ BH x.1.2 ∧ 1 ≤ x.1.2 1 ∧ x.1.2 2 = w 2
  | 0, p, w, n, x, hf, h0, hw, hb, e => by
    rw [sSubs, if_pos (h0 rfl)] at e
    cases e
  | f + 1, p, w, n, x, hf, h0, hw, hb, e => by
    rw [sSubs] at e
    obtain ⟨⟨p1, w1⟩, h1, h2⟩ := bn_inv e
    obtain ⟨a1, a2, a3⟩ := sub_inv hw (by omega) h1
    have b1 := hb.keep (fun j j0 j1 => a3 j (by omega))
    have e2 := a3 2 (by omega)
    split at h2
    · next c =>
      obtain ⟨r1, r2, r3, r4⟩ := subs_inv f p1 w1 (n + 1) x (by omega) (fun _ => c) a1 b1 h2
      exact ⟨r1, r2, r3, r4.trans e2⟩
    · cases h2
      exact ⟨a1, b1, by show 1 ≤ w1 1; have := hw.2.1; omega, e2⟩
theorem stas_inv {T : Int → Int} {L : Int} : ∀ (f : Nat) (p : Int) (w : Int → Int) (n : Int) (x : RW × Int), w 2 + f = 4 → (f = 0 → isW T L wStat p) → PW w → BH w → sStas T L f p w n = .inr x → PW x.1.2 ∧ BH x.1.2 ∧ 1 ≤ x.1.2 2 ∧ x.1.2 1 = w 1
  | 0, p, w, n, x, hf, h0, hw, hb, e => by
    rw [sStas, if_pos (h0 rfl)] at e
    cases e
  | f + 1, p, w, n, x, hf, h0, hw, hb, e => by
    rw [sStas] at e
    obtain ⟨⟨p1, w1⟩, h1, h2⟩ := bn_inv e
    obtain ⟨a1, a2, a3⟩ := sta_inv hw (by omega) h1
    have b1 := hb.keep (fun j j0 j1 => a3 j (by omega))
    have e2 := a3 1 (by omega)
    split at h2
    · next c =>
      obtain ⟨r1, r2, r3, r4⟩ := stas_inv f p1 w1 (n + 1) x (by omega) (fun _ => c) a1 b1 h2
      exact ⟨r1, r2, r3, r4.trans e2⟩
    · cases h2
      exact ⟨a1, b1, by show 1 ≤ w1 2; have := hw.2.2.1; omega, e2⟩
theorem all_inv {T : Int → Int} {L : Int} : ∀ (f : Nat) (p : Int) (w : Int → Int) (td : Int → Bool) (n : Int) (x : (Int → Int) × Int), PW w → BH w → sAll T L f p w td n = .inr x → PW x.1 ∧ BH x.1 ∧ x.1 1 = w 1 ∧ x.1 2 = w 2
  | f, p, w, td, n, x, hw, hb, e => by
    rw [all_st] at e
    split at e
    · cases e; exact ⟨hw, hb, rfl, rfl⟩
    · obtain ⟨⟨⟨p1, w1⟩, td1⟩, h1, h2⟩ := bn_inv e
      obtain ⟨a1, a2, -⟩ := ser_inv hw h1
      cases f with
      | zero => rw [if_pos rfl] at h2; cases h2
      | succ f =>
        rw [if_neg (by omega), Nat.add_sub_cancel] at h2
        obtain ⟨r1, r2, r3, r4⟩ := all_inv f p1 w1 td1 (n + 1) x a1 (hb.keep (fun j j0 j1 => a2 j (by omega) (by omega))) h2
        exact ⟨r1, r2, r3.trans (a2 1 (by omega) (by omega)), r4.trans (a2 2 (by omega) (by omega))⟩
theorem PW_0 : PW (fun _ => 0) := by
  refine ⟨⟨Int.le_refl _, by decide⟩, ⟨Int.le_refl _, by decide⟩, ⟨Int.le_refl _, by decide⟩, fun k k0 k1 => ?_, fun s s0 s1 => ?_, fun r h _ _ _ _ => ⟨Int.le_refl _, show (0 : Int) ≤ 1000 by decide⟩, fun r h _ _ _ _ => rfl, fun k _ _ => rfl⟩
  · have k1 : k < 0 := k1
    omega
  · have s1 : s < 0 := s1
    omega
theorem text_wf {T : Int → Int} {L : Int} {x : (Int → Int) × Int} (h : sText T L = .inr x) : WF x.1 := by
  unfold sText at h
  obtain ⟨⟨p1, w1⟩, h1, h⟩ := bn_inv h
  obtain ⟨⟨p2, w2⟩, h2, h⟩ := bn_inv h
  obtain ⟨⟨⟨p3, w3⟩, n3⟩, h3, h⟩ := bn_inv h
  obtain ⟨⟨⟨p4, w4⟩, n4⟩, h4, h⟩ := bn_inv h
  obtain ⟨a1, a2, a3, a4⟩ := head_inv PW_0 (show bnS (sBands T L 0 (fun _ => 0)) (fun r => sShare T L r.1 r.2) = .inr (p2, w2) by rw [h1]; exact h2)
  obtain ⟨b1, b2, b3, b4⟩ := subs_inv 3 p2 w2 2 _ (by omega) (fun q => by omega) a1 a2 h3
  obtain ⟨c1, c2, c3, c4⟩ := stas_inv 4 p3 w3 n3 _ (by show w3 2 + _ = _; have b4 : w3 2 = w2 2 := b4; omega) (fun q => by omega) b1 b2 h4
  obtain ⟨d1, d2, d3, d4⟩ := all_inv 12 p4 w4 _ n4 x c1 c2 h
  have b3 : 1 ≤ w3 1 := b3
  have c3 : 1 ≤ w4 2 := c3
  have c4 : w4 1 = w3 1 := c4
  exact d1.wf (by omega) (by omega) d2.1 d2.2
