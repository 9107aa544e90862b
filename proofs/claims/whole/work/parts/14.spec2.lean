theorem pI_01 (P : Prop) [Decidable P] : pI P = 0 ∨ pI P = 1 := by
  by_cases h : P
  · exact Or.inr (pI_t h)
  · exact Or.inl (pI_f h)
theorem rd_pos' {w : Int → Int} {s k h : Int} (c : Pl w s k h) : rdA w s k h = w (50 + 60 * (3 * s + k) + h) - 1 := if_pos c
theorem sm_dn (f : Int → Int) {x h : Int} (hx : x ≤ h) : sm f (x + -1 + 1) (h - (x + -1)).toNat = f x + sm f (x + 1) (h - x).toNat := by
  have e : (h - (x + -1)).toNat = (h - x).toNat + 1 := by omega
  have e2 : x + -1 + 1 = x + 1 - 1 := by omega
  rw [e, e2, sm_pre, show x + 1 - 1 = x by omega]
theorem mx_dn (f : Int → Int) {x h : Int} (hx : x ≤ h) : mx f (x + -1 + 1) (h - (x + -1)).toNat = max (f x) (mx f (x + 1) (h - x).toNat) := by
  have e : (h - (x + -1)).toNat = (h - x).toNat + 1 := by omega
  have e2 : x + -1 + 1 = x + 1 - 1 := by omega
  rw [e, e2, mx_pre, show x + 1 - 1 = x by omega]
theorem sm_z' (f : Int → Int) (h : Int) : sm f (h + 1) (h - h).toNat = 0 := by
  have e : (h - h).toNat = 0 := by omega
  rw [e, sm]
theorem mx_z' (f : Int → Int) (h : Int) : mx f (h + 1) (h - h).toNat = 0 := by
  have e : (h - h).toNat = 0 := by omega
  rw [e, mx]
/-! the broken line, from below and from above -/
theorem lv_le {lv : Int → Int} {m : Nat} (hm : ∀ i : Int, 0 ≤ i → i < m → lv i < lv (i + 1)) : ∀ (d : Nat) (i : Int), 0 ≤ i → i + d ≤ m → lv i ≤ lv (i + d)
  | 0, i, _, _ => by simp
  | d + 1, i, h0, h1 => by
    have h2 := lv_le hm d i h0 (by omega)
    have h3 := hm (i + d) (by omega) (by omega)
    have e : i + ((d + 1 : Nat) : Int) = i + d + 1 := by omega
    rw [e]
    omega
theorem scS_lo {lv ix : Int → Int} {level : Int} (h : level ≤ lv 0) : ∀ m : Nat, (∀ i : Int, 0 ≤ i → i < m → lv i < lv (i + 1)) → scS lv ix level m = ix 0
  | 0, _ => rfl
  | m + 1, hm => by
    have h1 := lv_le (m := m + 1) (lv := lv) hm m 0 (by omega) (by omega)
    rw [Int.zero_add] at h1
    have h2 := hm m (by omega) (by omega)
    rw [scS, if_neg (by omega), if_neg (by omega)]
    exact scS_lo h m (fun i a b => hm i a (by omega))
theorem scS_hi {lv ix : Int → Int} {level : Int} : ∀ m : Nat, lv m < level → scS lv ix level m = ix m
  | 0, _ => rfl
  | m + 1, h => by
    have e : (((m + 1 : Nat) : Int)) = m + 1 := by omega
    rw [e] at h ⊢
    rw [scS, if_pos (by omega)]
theorem scS_mid {lv ix : Int → Int} {level : Int} (p : Nat) (h1 : lv p < level) (h2 : level ≤ lv (p + 1)) : ∀ m : Nat, p + 1 ≤ m → (∀ i : Int, 0 ≤ i → i < m → lv i < lv (i + 1)) → scS lv ix level m = ix p + (level - lv p) * (ix (p + 1) - ix p) / (lv (p + 1) - lv p)
  | 0, h, _ => absurd h (by omega)
  | m + 1, h, hm => by
    have h3 := hm p (by omega) (by omega)
    by_cases e : m = p
    · subst e
      rw [scS]
      by_cases c : lv (m + 1) - lv m ≤ level - lv m
      · rw [if_pos c, show level - lv m = lv (m + 1) - lv m by omega, Int.mul_ediv_cancel_left _ (by omega)]
        omega
      · rw [if_neg c, if_pos ⟨by omega, by omega⟩]
    · have h4 := lv_le (m := m + 1) (lv := lv) hm (m - (p + 1)) (p + 1) (by omega) (by omega)
      rw [show ((p : Int) + 1 + ((m - (p + 1) : Nat) : Int)) = m by omega] at h4
      have h5 := hm m (by omega) (by omega)
      rw [scS, if_neg (by omega), if_neg (by omega)]
      exact scS_mid p h1 h2 m (by omega) (fun i a b => hm i a (by omega))
theorem sc_inc {w : Int → Int} (hw : WF w) {k : Int} (hk : 0 ≤ k) (hk2 : k < w 1) : ∀ i : Int, 0 ≤ i → i < ((w (9 + 13 * k) - 1).toNat : Int) → (fun i => w (10 + 13 * k + 2 * i)) i < (fun i => w (10 + 13 * k + 2 * i)) (i + 1) := by
  intro i h0 h1
  have hn := hw.2.2.2.2.2.1 k hk hk2
  exact (hw.2.2.2.2.2.2.2.1 k i hk hk2 h0 (by omega)).1
theorem sc_lo {w : Int → Int} (hw : WF w) {k level : Int} (hk : 0 ≤ k) (hk2 : k < w 1) (h : level ≤ w (10 + 13 * k)) : scW w k level = w (11 + 13 * k) := by
  unfold scW
  rw [scS_lo (by simpa using h) _ (sc_inc hw hk hk2)]
  simp
theorem sc_hi {w : Int → Int} (hw : WF w) {k level : Int} (hk : 0 ≤ k) (hk2 : k < w 1) (h : w (10 + 13 * k + 2 * (w (9 + 13 * k) - 1)) < level) : scW w k level = w (11 + 13 * k + 2 * (w (9 + 13 * k) - 1)) := by
  have hn := hw.2.2.2.2.2.1 k hk hk2
  unfold scW
  have e : (((w (9 + 13 * k) - 1).toNat : Nat) : Int) = w (9 + 13 * k) - 1 := by omega
  rw [scS_hi _ (by rw [e]; exact h), e]
theorem sc_mid {w : Int → Int} (hw : WF w) {k level p : Int} (hk : 0 ≤ k) (hk2 : k < w 1) (h0 : 0 ≤ p) (hp : p + 1 < w (9 + 13 * k)) (h1 : w (10 + 13 * k + 2 * p) < level) (h2 : level ≤ w (10 + 13 * k + 2 * (p + 1))) : scW w k level = w (11 + 13 * k + 2 * p) + (level - w (10 + 13 * k + 2 * p)) * (w (11 + 13 * k + 2 * (p + 1)) - w (11 + 13 * k + 2 * p)) / (w (10 + 13 * k + 2 * (p + 1)) - w (10 + 13 * k + 2 * p)) := by
  have hn := hw.2.2.2.2.2.1 k hk hk2
  unfold scW
  have e : ((p.toNat : Nat) : Int) = p := by omega
  rw [scS_mid p.toNat (by rw [e]; exact h1) (by rw [e]; exact h2) _ (by omega) (sc_inc hw hk hk2), e]
/-! the first greatest -/
theorem bst_mx1 (f : Int → Int) : ∀ n : Nat, (bst f 0 n).1 = mx1 f n
  | 0 => rfl
  | n + 1 => by
    have h := bst_mx1 f n
    rw [bst, mx1, Int.zero_add, h]
    split
    · simp only; omega
    · rw [h]; omega
theorem bst_val {f : Int → Int} (hf : ∀ x, -1 ≤ f x) (a : Int) : ∀ n : Nat, ((bst f a n).1 = -1 ∧ (bst f a n).2 = -1) ∨ (-1 < (bst f a n).1 ∧ a ≤ (bst f a n).2 ∧ (bst f a n).2 < a + n ∧ f (bst f a n).2 = (bst f a n).1)
  | 0 => Or.inl ⟨rfl, rfl⟩
  | n + 1 => by
    have h := bst_val hf a n
    rw [bst]
    split
    · next c =>
      right
      have := hf (a + n)
      show -1 < f (a + n) ∧ a ≤ a + n ∧ a + n < a + ((n + 1 : Nat) : Int) ∧ f (a + n) = f (a + n)
      refine ⟨by rcases h with h | h <;> omega, by omega, by omega, rfl⟩
    · rcases h with h | h
      · exact Or.inl h
      · exact Or.inr ⟨h.1, h.2.1, by omega, h.2.2.2⟩
theorem bst_ge (f : Int → Int) (a : Int) : ∀ (n i : Nat), i < n → f (a + i) ≤ (bst f a n).1
  | 0, i, h => absurd h (by omega)
  | n + 1, i, h => by
    rw [bst]
    by_cases e : i = n
    · subst e
      split <;> first | omega | (simp only; omega)
    · have := bst_ge f a n i (by omega)
      split <;> first | omega | (simp only; omega)
theorem fnd_no {f : Int → Int} {v : Int} : ∀ (n : Nat) (a : Int), (∀ i : Nat, i < n → f (a + i) ≠ v) → fnd f v a n = -1
  | 0, a, _ => rfl
  | n + 1, a, h => by
    have h0 := h 0 (by omega)
    rw [show a + ((0 : Nat) : Int) = a by omega] at h0
    rw [fnd, if_neg h0]
    refine fnd_no n (a + 1) (fun i hi => ?_)
    have := h (i + 1) (by omega)
    rwa [show a + ((i + 1 : Nat) : Int) = a + 1 + i by omega] at this
theorem fnd_snoc {f : Int → Int} {v : Int} : ∀ (n : Nat) (a : Int), 0 ≤ a → fnd f v a (n + 1) = if fnd f v a n = -1 then (if f (a + n) = v then a + n else -1) else fnd f v a n
  | 0, a, h => by
    show (if f a = v then a else -1) = if (-1 : Int) = -1 then (if f (a + ((0 : Nat) : Int)) = v then a + ((0 : Nat) : Int) else -1) else -1
    rw [if_pos rfl, show a + ((0 : Nat) : Int) = a by omega]
  | n + 1, a, h => by
    rw [fnd, fnd_snoc n (a + 1) (by omega), fnd, show a + 1 + (n : Int) = a + ((n + 1 : Nat) : Int) by omega]
    by_cases c : f a = v
    · rw [if_pos c, if_pos c, if_neg (by omega)]
    · rw [if_neg c, if_neg c]
theorem bst_fnd {f : Int → Int} (hf : ∀ x, -1 ≤ f x) : ∀ n : Nat, (bst f 0 n).2 = if mx1 f n = -1 then -1 else fnd f (mx1 f n) 0 n
  | 0 => rfl
  | n + 1 => by
    have ih := bst_fnd hf n
    have hm := bst_mx1 f n
    have hv := bst_val hf 0 n
    have hfn := hf n
    rw [bst, Int.zero_add]
    by_cases c : (bst f 0 n).1 < f n
    · rw [if_pos c]
      have e : mx1 f (n + 1) = f n := by rw [mx1]; omega
      rw [e, if_neg (by rcases hv with h | h <;> omega), fnd_snoc n 0 (by omega), fnd_no n 0 (fun i hi => by have := bst_ge f 0 n i hi; omega), if_pos rfl, Int.zero_add, if_pos rfl]
    · rw [if_neg c]
      have e : mx1 f (n + 1) = mx1 f n := by rw [mx1]; omega
      rw [e, ih]
      by_cases c2 : mx1 f n = -1
      · rw [if_pos c2, if_pos c2]
      · rw [if_neg c2, if_neg c2, fnd_snoc n 0 (by omega)]
        rw [if_neg c2] at ih
        rw [if_neg (by rw [← ih]; rcases hv with h | h <;> omega)]
theorem rl_bst {w : Int → Int} (hw : WF w) (s h : Int) : rlW w s h = (bst (fun k => sbW w s k h) 0 (w 1).toNat).2 := by
  rw [bst_fnd (fun x => (sb_bd hw s x h).1)]
  rfl
theorem ix_bst (w : Int → Int) (s h : Int) : ixW w s h = (bst (fun k => sbW w s k h) 0 (w 1).toNat).1 := (bst_mx1 _ _).symm
/-- the first place from a on, of n, at which f is v or more; -2 without one -/
def fge (f : Int → Int) (v : Int) (a : Int) : Nat → Int
  | 0 => -2
  | n + 1 => if v ≤ f a then a else fge f v (a + 1) n
theorem fge_st (f : Int → Int) (v : Int) {k n : Int} (h : k < n) : fge f v k (n - k).toNat = if v ≤ f k then k else fge f v (k + 1) (n - (k + 1)).toNat := by
  have e : (n - k).toNat = (n - (k + 1)).toNat + 1 := by omega
  rw [e, fge]
theorem fge_z (f : Int → Int) (v : Int) {k n : Int} (h : n ≤ k) : fge f v k (n - k).toNat = -2 := by
  have e : (n - k).toNat = 0 := by omega
  rw [e, fge]
def bkW (w : Int → Int) (k index : Int) : Int := fge (scW w k) index 0 1000
/-- where all below are less and it is v or more, or the end -/
theorem fge_at {f : Int → Int} {v n : Int} : ∀ (d : Nat) (k x : Int), x = k + d → x ≤ n → (∀ y, k ≤ y → y < x → f y < v) → (x < n → v ≤ f x) → fge f v k (n - k).toNat = if x < n then x else -2
  | 0, k, x, hx, hn, _, h2 => by
    have e : x = k := by omega
    subst e
    by_cases c : x < n
    · rw [fge_st f v c, if_pos (h2 c), if_pos c]
    · rw [fge_z f v (by omega), if_neg c]
  | d + 1, k, x, hx, hn, h1, h2 => by
    rw [fge_st f v (by omega), if_neg (by have := h1 k (by omega) (by omega); omega)]
    exact fge_at d (k + 1) x (by omega) hn (fun y a b => h1 y (by omega) b) h2
