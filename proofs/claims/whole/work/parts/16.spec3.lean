abbrev Ks (w : Int → Int) (k : Int) : Prop := 0 ≤ k ∧ k < w 1
abbrev Ss (w : Int → Int) (s : Int) : Prop := 0 ≤ s ∧ s < w 2
abbrev Hs (w : Int → Int) (h : Int) : Prop := 0 ≤ h ∧ h < w 0
def qSc (w : Int → Int) (k level : Int) : Int := if Ks w k ∧ 0 ≤ level ∧ level ≤ 999 then scW w k level else -1
def qBk (w : Int → Int) (k index : Int) : Int := if Ks w k ∧ 0 ≤ index ∧ index ≤ 500 then bkW w k index else -1
def qIx (w : Int → Int) (s h t : Int) : Int := if Ss w s ∧ Hs w h then (if t = 0 then ixW w s h else if t = 1 then rlW w s h else if t = 2 then bdW w (ixW w s h) else -1) else -1
def qDs (w : Int → Int) (d h t : Int) : Int := if (0 ≤ d ∧ d ≤ 2) ∧ Hs w h then (if t = 3 then cnW w d h else if wsW w d h = -1 then -1 else if t = 0 then ixW w (wsW w d h) h else if t = 1 then wsW w d h else if t = 2 then bdW w (ixW w (wsW w d h) h) else -1) else -1
/-- for how many places down from n - 1 g is b or more -/
def lsN (g : Int → Int) (b : Int) : Nat → Int
  | 0 => 0
  | n + 1 => if b ≤ g n then 1 + lsN g b n else 0
def qLs (w : Int → Int) (s h b : Int) : Int := if (Ss w s ∧ Hs w h) ∧ 1 ≤ b ∧ b ≤ 3 then lsN (fun x => bdW w (ixW w s x)) b (h + 1).toNat else -1
def qWo (w : Int → Int) (s a b : Int) : Int := if Ss w s ∧ Hs w a ∧ Hs w b then (bst (fun x => ixW w s x) a (b + 1 - a).toNat).2 else -1
theorem ix_none {w : Int → Int} (s h : Int) (hn : ¬ (Ss w s ∧ Hs w h)) : ixW w s h = -1 := by
  unfold ixW
  have : ∀ n : Nat, mx1 (fun k => sbW w s k h) n = -1 := by
    intro n
    induction n with
    | zero => rfl
    | succ n ih => rw [mx1, ih, sb_neg (fun q => hn ⟨⟨q.1, q.2.1⟩, ⟨q.2.2.2.2.2.2.1, q.2.2.2.2.2.2.2.1⟩⟩)]; rfl
  exact this _
theorem rl_none {w : Int → Int} (s h : Int) (hn : ¬ (Ss w s ∧ Hs w h)) : rlW w s h = -1 := if_pos (ix_none s h hn)
theorem bd_bd {w : Int → Int} (i : Int) : -1 ≤ bdW w i ∧ bdW w i ≤ 3 := by
  unfold bdW
  split
  · omega
  · have := sm_bd (f := fun k => if w (4 + k) ≤ i then 1 else 0) (a := 0) (lo := 0) (hi := 1) 3 (fun i _ => by split <;> omega)
    omega
theorem ls_st (g : Int → Int) (b : Int) {h : Int} (h0 : 0 ≤ h) : lsN g b (h + 1).toNat = if b ≤ g h then 1 + lsN g b h.toNat else 0 := by
  have e : (h + 1).toNat = h.toNat + 1 := by omega
  have e2 : ((h.toNat : Nat) : Int) = h := by omega
  rw [e, lsN, e2]
theorem ws_val {w : Int → Int} (hw : WF w) (d h : Int) : ((bst (dsI w d h) 0 (w 2).toNat).1 = -1 ∧ wsW w d h = -1) ∨ (0 ≤ wsW w d h ∧ wsW w d h < w 2 ∧ w (46 + wsW w d h) = d ∧ ixW w (wsW w d h) h = (bst (dsI w d h) 0 (w 2).toNat).1) := by
  have hn := hw.2.2.1
  have b := bst_val (f := dsI w d h) (fun x => (ds_bd hw d h x).1) 0 (w 2).toNat
  have e : wsW w d h = (bst (dsI w d h) 0 (w 2).toNat).2 := rfl
  rw [e]
  rcases b with b | b
  · exact Or.inl b
  · refine Or.inr ⟨by omega, by omega, ?_⟩
    have hv := b.2.2.2
    by_cases c : w (46 + (bst (dsI w d h) 0 (w 2).toNat).2) = d
    · have e2 : dsI w d h (bst (dsI w d h) 0 (w 2).toNat).2 = ixW w (bst (dsI w d h) 0 (w 2).toNat).2 h := if_pos c
      exact ⟨c, by rw [← e2]; exact hv⟩
    · have e2 : dsI w d h (bst (dsI w d h) 0 (w 2).toNat).2 = -1 := if_neg c
      omega
