/-! ===== what an office is: one flat row of numbers, as the reference keeps it ===== -/
abbrev Pl (w : Int → Int) (s k h : Int) : Prop := 0 ≤ s ∧ s < w 2 ∧ s < 4 ∧ 0 ≤ k ∧ k < w 1 ∧ k < 3 ∧ 0 ≤ h ∧ h < w 0 ∧ h < 60
def rdA (w : Int → Int) (s k h : Int) : Int := if Pl w s k h then w (50 + 60 * (3 * s + k) + h) - 1 else -1
def vz (r : Int) : Int := if r = -1 then 0 else r
def vc (r : Int) : Int := if r = -1 then 0 else 1
/-- the first hour of a window -/
def fsW (w : Int → Int) (k h : Int) : Int := max 0 (h - w (7 + 13 * k) + 1)
def mnW (w : Int → Int) (s k h : Int) : Int :=
  if Pl w s k h then
    if sm (fun x => vc (rdA w s k x)) (fsW w k h) (h - fsW w k h + 1).toNat < w (8 + 13 * k) then -1
    else (sm (fun x => vz (rdA w s k x)) (fsW w k h) (h - fsW w k h + 1).toNat + ((h - fsW w k h + 1) - sm (fun x => vc (rdA w s k x)) (fsW w k h) (h - fsW w k h + 1).toNat) * mx (fun x => rdA w s k x) (fsW w k h) (h - fsW w k h + 1).toNat) / (h - fsW w k h + 1)
  else -1
def scS (lv ix : Int → Int) (level : Int) : Nat → Int
  | 0 => ix 0
  | m + 1 => if lv (m + 1) - lv m ≤ level - lv m then ix (m + 1) else if 0 < level - lv m ∧ 0 < lv (m + 1) - lv m then ix m + (level - lv m) * (ix (m + 1) - ix m) / (lv (m + 1) - lv m) else scS lv ix level m
def scW (w : Int → Int) (k level : Int) : Int := scS (fun i => w (10 + 13 * k + 2 * i)) (fun i => w (11 + 13 * k + 2 * i)) level (w (9 + 13 * k) - 1).toNat
def sbW (w : Int → Int) (s k h : Int) : Int := if mnW w s k h = -1 then -1 else scW w k (mnW w s k h)
def mx1 (f : Int → Int) : Nat → Int
  | 0 => -1
  | n + 1 => max (mx1 f n) (f n)
def ixW (w : Int → Int) (s h : Int) : Int := mx1 (fun k => sbW w s k h) (w 1).toNat
/-- the first place from a on, of n, at which f is v -/
def fnd (f : Int → Int) (v : Int) (a : Int) : Nat → Int
  | 0 => -1
  | n + 1 => if f a = v then a else fnd f v (a + 1) n
def rlW (w : Int → Int) (s h : Int) : Int := if ixW w s h = -1 then -1 else fnd (fun k => sbW w s k h) (ixW w s h) 0 (w 1).toNat
/-- the greatest above -1 from a on, and the first place where it is -/
def bst (f : Int → Int) (a : Int) : Nat → Int × Int
  | 0 => (-1, -1)
  | n + 1 => if (bst f a n).1 < f (a + n) then (f (a + n), a + n) else bst f a n
def dsI (w : Int → Int) (d h s : Int) : Int := if w (46 + s) = d then ixW w s h else -1
def wsW (w : Int → Int) (d h : Int) : Int := (bst (dsI w d h) 0 (w 2).toNat).2
def cnW (w : Int → Int) (d h : Int) : Int := sm (fun s => if dsI w d h s = -1 then 0 else 1) 0 (w 2).toNat
def bdW (w : Int → Int) (index : Int) : Int := if index = -1 then -1 else sm (fun k => if w (4 + k) ≤ index then 1 else 0) 0 3
def crW (w : Int → Int) : Int := sm (fun r => sm (fun h => if w (50 + 60 * r + h) = 0 then 0 else 1) 0 (w 0).toNat) 0 12
/-- an office as a text can tell it, and as acts leave it -/
def WF (w : Int → Int) : Prop :=
  (0 ≤ w 0 ∧ w 0 ≤ 60) ∧ (1 ≤ w 1 ∧ w 1 ≤ 3) ∧ (1 ≤ w 2 ∧ w 2 ≤ 4) ∧ (0 ≤ w 3 ∧ w 3 ≤ 100) ∧ (1 ≤ w 4 ∧ w 4 < w 5 ∧ w 5 < w 6 ∧ w 6 ≤ 500) ∧
  (∀ k, 0 ≤ k → k < w 1 → 1 ≤ w (7 + 13 * k) ∧ w (7 + 13 * k) ≤ 12 ∧ 1 ≤ w (8 + 13 * k) ∧ w (8 + 13 * k) ≤ w (7 + 13 * k) ∧ 2 ≤ w (9 + 13 * k) ∧ w (9 + 13 * k) ≤ 5) ∧
  (∀ k i, 0 ≤ k → k < w 1 → 0 ≤ i → i < w (9 + 13 * k) → 0 ≤ w (10 + 13 * k + 2 * i) ∧ w (10 + 13 * k + 2 * i) ≤ 999 ∧ 0 ≤ w (11 + 13 * k + 2 * i) ∧ w (11 + 13 * k + 2 * i) ≤ 500) ∧
  (∀ k i, 0 ≤ k → k < w 1 → 0 ≤ i → i + 1 < w (9 + 13 * k) → w (10 + 13 * k + 2 * i) < w (10 + 13 * k + 2 * (i + 1)) ∧ w (11 + 13 * k + 2 * i) ≤ w (11 + 13 * k + 2 * (i + 1))) ∧
  (∀ s, 0 ≤ s → s < w 2 → 0 ≤ w (46 + s) ∧ w (46 + s) ≤ 2) ∧
  (∀ r h, 0 ≤ r → r < 12 → 0 ≤ h → h < 60 → 0 ≤ w (50 + 60 * r + h) ∧ w (50 + 60 * r + h) ≤ 1000) ∧
  (∀ r h, 0 ≤ r → r < 12 → w 0 ≤ h → h < 60 → w (50 + 60 * r + h) = 0)
/-- the class's cells of one substance -/
def SubAt (E : Ev) (M : Mem) (a : Nat) (w : Int → Int) (k : Int) : Prop :=
  ∃ (p q n : Int) (lv ix : Int → Int), M[a]? = some (ob 3 [rr E (a + 1), rr E (a + 2), iv p, iv q, iv n]) ∧ M[a + 1]? = some (ia E 0 5 lv) ∧ M[a + 2]? = some (ia E 0 5 ix) ∧
    (k < w 1 → p = w (9 + 13 * k) ∧ q = w (7 + 13 * k) ∧ n = w (8 + 13 * k) ∧ ∀ i, 0 ≤ i → i < p → lv i = w (10 + 13 * k + 2 * i) ∧ ix i = w (11 + 13 * k + 2 * i))
/-- the class's cells of an office hold the row w -/
def OffAt (E : Ev) (M : Mem) (o : Nat) (w : Int → Int) : Prop :=
  M[o]? = some (ob 2 [rr E (o + 1), rr E (o + 2), rr E (o + 3), rr E (o + 4), iv (w 3), iv (w 1), iv (w 2), iv (w 0)]) ∧
  (∃ f, M[o + 1]? = some (ia E 0 3 f) ∧ ∀ j, 0 ≤ j → j < 3 → f j = w (4 + j)) ∧
  (∃ g, M[o + 2]? = some (ra E 3 3 g) ∧ ∀ j, 0 ≤ j → j < 3 → g j = some (o + 17 + 3 * j.toNat)) ∧
  (∃ f, M[o + 3]? = some (ia E 0 4 f) ∧ ∀ j, 0 ≤ j → j < 4 → j < w 2 → f j = w (46 + j)) ∧
  (∃ g, M[o + 4]? = some (ra E 4 12 g) ∧ ∀ j, 0 ≤ j → j < 12 → g j = some (o + 5 + j.toNat)) ∧
  (∀ r : Nat, r < 12 → ∃ f, M[o + 5 + r]? = some (ia E 0 60 f) ∧ ∀ h, 0 ≤ h → h < 60 → f h = w (50 + 60 * r + h) - 1) ∧
  (∀ k : Nat, k < 3 → SubAt E M (o + 17 + 3 * k) w k)
theorem rd_bd {w : Int → Int} (hw : WF w) (s k h : Int) : -1 ≤ rdA w s k h ∧ rdA w s k h ≤ 999 := by
  unfold rdA
  split
  · next hp =>
    have := hw.2.2.2.2.2.2.2.2.2.1 (3 * s + k) h (by omega) (by omega) (by omega) (by omega)
    omega
  · omega
theorem vz_bd {r : Int} (h : -1 ≤ r) (h2 : r ≤ 999) : 0 ≤ vz r ∧ vz r ≤ 999 := by unfold vz; split <;> omega
theorem vc_bd (r : Int) : 0 ≤ vc r ∧ vc r ≤ 1 := by unfold vc; split <;> omega
theorem fs_bd {w : Int → Int} (hw : WF w) {k h : Int} (hk : 0 ≤ k) (hk2 : k < w 1) (hh : 0 ≤ h) : 0 ≤ fsW w k h ∧ fsW w k h ≤ h ∧ h - fsW w k h + 1 ≤ 12 := by
  have := hw.2.2.2.2.2.1 k hk hk2
  unfold fsW
  omega
theorem cn_bd (w : Int → Int) (s k a : Int) (n : Nat) : 0 ≤ sm (fun x => vc (rdA w s k x)) a n ∧ sm (fun x => vc (rdA w s k x)) a n ≤ n := by
  have := sm_bd (f := fun x => vc (rdA w s k x)) (a := a) (lo := 0) (hi := 1) n (fun i _ => vc_bd _)
  omega
theorem sz_bd {w : Int → Int} (hw : WF w) (s k a : Int) (n : Nat) : 0 ≤ sm (fun x => vz (rdA w s k x)) a n ∧ sm (fun x => vz (rdA w s k x)) a n ≤ n * 999 := by
  have := sm_bd (f := fun x => vz (rdA w s k x)) (a := a) (lo := 0) (hi := 999) n (fun i _ => vz_bd (rd_bd hw _ _ _).1 (rd_bd hw _ _ _).2)
  omega
theorem mr_bd {w : Int → Int} (hw : WF w) (s k a : Int) (n : Nat) : 0 ≤ mx (fun x => rdA w s k x) a n ∧ mx (fun x => rdA w s k x) a n ≤ 999 := mx_bd (by omega) n (fun i _ => (rd_bd hw _ _ _).2)
/-- no sum goes above what its greatest, taken for all, gives -/
theorem sum_le (f : Int → Int) (a : Int) (hf : ∀ x, -1 ≤ f x) : ∀ n : Nat, sm (fun x => vz (f x)) a n ≤ sm (fun x => vc (f x)) a n * mx f a n ∧ 0 ≤ sm (fun x => vc (f x)) a n ∧ 0 ≤ mx f a n
  | 0 => by simp [sm, mx]
  | n + 1 => by
    obtain ⟨h1, h2, h3⟩ := sum_le f a hf n
    have hm : 0 ≤ mx f a (n + 1) := by rw [mx]; omega
    have hc := vc_bd (f (a + n))
    refine ⟨?_, by rw [sm]; omega, hm⟩
    rw [sm, sm]
    have e1 : sm (fun x => vc (f x)) a n * mx f a n ≤ sm (fun x => vc (f x)) a n * mx f a (n + 1) := Int.mul_le_mul_of_nonneg_left (by rw [mx]; omega) h2
    have e2 : vz (f (a + n)) ≤ vc (f (a + n)) * mx f a (n + 1) := by
      unfold vz vc
      split
      · simp
      · rw [mx]; omega
    rw [Int.add_mul]
    omega
theorem mn_bd {w : Int → Int} (hw : WF w) (s k h : Int) : -1 ≤ mnW w s k h ∧ mnW w s k h ≤ 999 := by
  unfold mnW
  split
  · next hp =>
    obtain ⟨h1, h2, h3⟩ := fs_bd hw (k := k) (h := h) hp.2.2.2.1 hp.2.2.2.2.1 hp.2.2.2.2.2.2.1
    split
    · omega
    · generalize hn : (h - fsW w k h + 1).toNat = n
      have hn2 : h - fsW w k h + 1 = n := by omega
      obtain ⟨a1, a2, a3⟩ := sum_le (fun x => rdA w s k x) (fsW w k h) (fun x => (rd_bd hw s k x).1) n
      have a4 := (mr_bd hw s k (fsW w k h) n).2
      have a5 := (cn_bd w s k (fsW w k h) n).2
      have a6 := (sz_bd hw s k (fsW w k h) n).1
      rw [hn2]
      generalize sm (fun x => vc (rdA w s k x)) (fsW w k h) n = c at *
      generalize sm (fun x => vz (rdA w s k x)) (fsW w k h) n = z at *
      generalize mx (fun x => rdA w s k x) (fsW w k h) n = g at *
      have b1 : 0 ≤ (n - c) * g := Int.mul_nonneg (by omega) a3
      have b2 : (n - c) * g + c * g = n * g := by rw [← Int.add_mul]; congr 1; omega
      have b3 : (n : Int) * g ≤ n * 999 := Int.mul_le_mul_of_nonneg_left a4 (by omega)
      have hpos : (0 : Int) < n := by omega
      constructor
      · have := Int.ediv_nonneg (show 0 ≤ z + (n - c) * g by omega) (Int.le_of_lt hpos)
        omega
      · have : (z + (n - c) * g) / n ≤ 999 := Int.ediv_le_of_le_mul hpos (by have : (999 : Int) * n = n * 999 := Int.mul_comm _ _; omega)
        exact this
  · omega
theorem sm_st (f : Int → Int) {a x : Int} (h : a ≤ x) : sm f a (x + 1 - a).toNat = sm f a (x - a).toNat + f x := by
  have e : (x + 1 - a).toNat = (x - a).toNat + 1 := by omega
  have e2 : a + ((x - a).toNat : Int) = x := by omega
  rw [e, sm, e2]
theorem mx_st (f : Int → Int) {a x : Int} (h : a ≤ x) : mx f a (x + 1 - a).toNat = max (mx f a (x - a).toNat) (f x) := by
  have e : (x + 1 - a).toNat = (x - a).toNat + 1 := by omega
  have e2 : a + ((x - a).toNat : Int) = x := by omega
  rw [e, mx, e2]
theorem sm_z (f : Int → Int) (a : Int) : sm f a (a - a).toNat = 0 := by
  have e : (a - a).toNat = 0 := by omega
  rw [e, sm]
theorem mx_z (f : Int → Int) (a : Int) : mx f a (a - a).toNat = 0 := by
  have e : (a - a).toNat = 0 := by omega
  rw [e, mx]
theorem mx1_st (f : Int → Int) {x : Int} (h : 0 ≤ x) : mx1 f (x + 1).toNat = max (mx1 f x.toNat) (f x) := by
  have e : (x + 1).toNat = x.toNat + 1 := by omega
  have e2 : ((x.toNat : Nat) : Int) = x := by omega
  rw [e, mx1, e2]
theorem bst_st (f : Int → Int) {a x : Int} (h : a ≤ x) : bst f a (x + 1 - a).toNat = if (bst f a (x - a).toNat).1 < f x then (f x, x) else bst f a (x - a).toNat := by
  have e : (x + 1 - a).toNat = (x - a).toNat + 1 := by omega
  have e2 : a + ((x - a).toNat : Int) = x := by omega
  rw [e, bst, e2]
theorem mx1_bd {f : Int → Int} {lo hi : Int} (h0 : -1 ≤ hi) : ∀ n : Nat, (∀ i : Nat, i < n → f i ≤ hi) → -1 ≤ mx1 f n ∧ mx1 f n ≤ hi
  | 0, _ => by simp [mx1]; exact h0
  | n + 1, h => by
    have h1 := mx1_bd (lo := lo) h0 n (fun i hi => h i (by omega))
    have h2 := h n (by omega)
    rw [mx1]
    omega
theorem bst_bd {f : Int → Int} {a hi : Int} (h0 : -1 ≤ hi) : ∀ n : Nat, (∀ i : Nat, i < n → f (a + i) ≤ hi) → -1 ≤ (bst f a n).1 ∧ (bst f a n).1 ≤ hi ∧ ((bst f a n).2 = -1 ∨ (a ≤ (bst f a n).2 ∧ (bst f a n).2 < a + n))
  | 0, _ => by simp [bst]; exact h0
  | n + 1, h => by
    have h1 := bst_bd h0 n (fun i hi => h i (by omega))
    have h2 := h n (by omega)
    rw [bst]
    split
    · simp only
      omega
    · omega
/-- a point's share of the way to the next is no more than all of it -/
theorem lin_bd {p d w : Int} (hp : 0 ≤ p) (hpw : p ≤ w) (hw : 0 < w) (hd : 0 ≤ d) : 0 ≤ p * d / w ∧ p * d / w ≤ d := by
  have h1 : 0 ≤ p * d := Int.mul_nonneg hp hd
  have h2 : p * d ≤ w * d := Int.mul_le_mul_of_nonneg_right hpw hd
  exact ⟨Int.ediv_nonneg h1 (Int.le_of_lt hw), Int.ediv_le_of_le_mul hw (by rw [Int.mul_comm d w]; exact h2)⟩
theorem scS_bd {lv ix : Int → Int} {level hi : Int} : ∀ m : Nat, (∀ i : Int, 0 ≤ i → i ≤ m → 0 ≤ ix i ∧ ix i ≤ hi) → (∀ i : Int, 0 ≤ i → i < m → ix i ≤ ix (i + 1)) → 0 ≤ scS lv ix level m ∧ scS lv ix level m ≤ hi
  | 0, h, _ => h 0 (by omega) (by omega)
  | m + 1, h, hm => by
    have h1 := scS_bd (level := level) (lv := lv) m (fun i a b => h i a (by omega)) (fun i a b => hm i a (by omega))
    have h2 := h (m + 1) (by omega) (by omega)
    have h3 := h m (by omega) (by omega)
    have h4 := hm m (by omega) (by omega)
    rw [scS]
    split
    · exact h2
    · split
      · next a b =>
        have := lin_bd (p := level - lv m) (d := ix (m + 1) - ix m) (w := lv (m + 1) - lv m) (by omega) (by omega) b.2 (by omega)
        omega
      · exact h1
theorem sc_bd {w : Int → Int} (hw : WF w) {k : Int} (hk : 0 ≤ k) (hk2 : k < w 1) (level : Int) : 0 ≤ scW w k level ∧ scW w k level ≤ 500 := by
  have hn := hw.2.2.2.2.2.1 k hk hk2
  unfold scW
  refine scS_bd _ (fun i a b => ?_) (fun i a b => ?_)
  · have := hw.2.2.2.2.2.2.1 k i hk hk2 a (by omega)
    omega
  · exact (hw.2.2.2.2.2.2.2.1 k i hk hk2 a (by omega)).2
theorem sb_bd {w : Int → Int} (hw : WF w) (s k h : Int) : -1 ≤ sbW w s k h ∧ sbW w s k h ≤ 500 := by
  unfold sbW
  split
  · omega
  · next hm =>
    by_cases hp : Pl w s k h
    · have := sc_bd hw hp.2.2.2.1 hp.2.2.2.2.1 (mnW w s k h)
      omega
    · exact absurd (if_neg hp) hm
theorem ix_bd {w : Int → Int} (hw : WF w) (s h : Int) : -1 ≤ ixW w s h ∧ ixW w s h ≤ 500 := mx1_bd (lo := 0) (by omega) _ (fun i _ => (sb_bd hw s i h).2)
/-- the header's numbers are ints -/
def HR (w : Int → Int) : Prop := I32 (w 0) ∧ I32 (w 1) ∧ I32 (w 2) ∧ I32 (w 3)
theorem WF.hr {w : Int → Int} (hw : WF w) : HR w := ⟨⟨by have := hw.1; omega, by have := hw.1; omega⟩, ⟨by have := hw.2.1; omega, by have := hw.2.1; omega⟩, ⟨by have := hw.2.2.1; omega, by have := hw.2.2.1; omega⟩, ⟨by have := hw.2.2.2.1; omega, by have := hw.2.2.2.1; omega⟩⟩
theorem OffAt.sub {E : Ev} {M : Mem} {o : Nat} {w : Int → Int} (h : OffAt E M o w) {k : Int} (h0 : 0 ≤ k) (h3 : k < 3) : SubAt E M (o + 17 + 3 * k.toNat) w k := by
  have := h.2.2.2.2.2.2 k.toNat (by omega)
  rwa [toNat_cast h0] at this
theorem OffAt.row {E : Ev} {M : Mem} {o : Nat} {w : Int → Int} (h : OffAt E M o w) {r : Int} (h0 : 0 ≤ r) (h3 : r < 12) : ∃ f, M[o + 5 + r.toNat]? = some (ia E 0 60 f) ∧ ∀ x, 0 ≤ x → x < 60 → f x = w (50 + 60 * r + x) - 1 := by
  obtain ⟨f, h1, h2⟩ := h.2.2.2.2.2.1 r.toNat (by omega)
  refine ⟨f, h1, fun x a b => ?_⟩
  have := h2 x a b
  rwa [toNat_cast h0] at this
theorem rd_pos {w : Int → Int} {s k h : Int} (c : Pl w s k h) : rdA w s k h = w (50 + 60 * (s * 3 + k) + h) - 1 := by
  unfold rdA
  rw [if_pos c, Int.mul_comm s 3]
theorem rd_neg {w : Int → Int} {s k h : Int} (c : ¬ Pl w s k h) : rdA w s k h = -1 := if_neg c
theorem mn_neg {w : Int → Int} {s k h : Int} (c : ¬ Pl w s k h) : mnW w s k h = -1 := if_neg c
theorem sb_neg {w : Int → Int} {s k h : Int} (c : ¬ Pl w s k h) : sbW w s k h = -1 := if_pos (mn_neg c)
theorem vc_neg {r : Int} (h : r = -1) : vc r = 0 := if_pos h
theorem vz_neg {r : Int} (h : r = -1) : vz r = 0 := if_pos h
theorem vc_pos {r : Int} (h : ¬ r = -1) : vc r = 1 := if_neg h
theorem vz_pos {r : Int} (h : ¬ r = -1) : vz r = r := if_neg h
theorem scS_st (lv ix : Int → Int) (level : Int) {i : Int} (h : 1 ≤ i) : scS lv ix level (i + 1 - 1).toNat = if lv i - lv (i - 1) ≤ level - lv (i - 1) then ix i else if 0 < level - lv (i - 1) ∧ 0 < lv i - lv (i - 1) then ix (i - 1) + (level - lv (i - 1)) * (ix i - ix (i - 1)) / (lv i - lv (i - 1)) else scS lv ix level (i - 1).toNat := by
  have e : (i + 1 - 1).toNat = (i - 1).toNat + 1 := by omega
  have e2 : (((i - 1).toNat : Nat) : Int) = i - 1 := by omega
  have e3 : i - 1 + 1 = i := by omega
  rw [e, scS, e2, e3]
theorem scS_cong {lv ix lv2 ix2 : Int → Int} {level : Int} : ∀ m : Nat, (∀ i : Int, 0 ≤ i → i ≤ m → lv i = lv2 i ∧ ix i = ix2 i) → scS lv ix level m = scS lv2 ix2 level m
  | 0, h => (h 0 (by omega) (by omega)).2
  | m + 1, h => by
    have h1 := h (m + 1) (by omega) (by omega)
    have h2 := h m (by omega) (by omega)
    rw [scS, scS, h1.1, h1.2, h2.1, h2.2, scS_cong m (fun i a b => h i a (by omega))]
theorem fnd_st (f : Int → Int) (v : Int) {k n : Int} (h : k < n) : fnd f v k (n - k).toNat = if f k = v then k else fnd f v (k + 1) (n - (k + 1)).toNat := by
  have e : (n - k).toNat = (n - (k + 1)).toNat + 1 := by omega
  rw [e, fnd]
theorem fnd_z (f : Int → Int) (v : Int) {k n : Int} (h : n ≤ k) : fnd f v k (n - k).toNat = -1 := by
  have e : (n - k).toNat = 0 := by omega
  rw [e, fnd]
theorem bst_z (f : Int → Int) (a : Int) : bst f a (a - a).toNat = (-1, -1) := by
  have e : (a - a).toNat = 0 := by omega
  rw [e, bst]
theorem ds_bd {w : Int → Int} (hw : WF w) (d h s : Int) : -1 ≤ dsI w d h s ∧ dsI w d h s ≤ 500 := by
  unfold dsI
  split
  · exact ix_bd hw s h
  · omega
/-! floats: an operation looks at what its operands stand for alone -/
def dc (u : UInt32) : FP.Core.Datum := FP.Core.decode FP.Core.b32 u.toNat
theorem nan_dc {u : UInt32} (h : isNaN32 u = true) : dc u = .nan := by
  have h1 : (u &&& 0x7fffffff).toNat = u.toNat % 2147483648 := by
    rw [UInt32.toNat_and]
    exact Nat.and_two_pow_sub_one_eq_mod u.toNat 31
  have h2 : (0x7f800000 : UInt32) < u &&& 0x7fffffff := by simpa [isNaN32] using h
  rw [UInt32.lt_iff_toNat_lt, h1] at h2
  have h3 : 2139095040 < u.toNat % 2147483648 := h2
  have e1 : FP.Core.fieldE FP.Core.b32 u.toNat = 255 := by
    show u.toNat / 8388608 % 256 = 255
    omega
  have e2 : ¬ FP.Core.fieldT FP.Core.b32 u.toNat = 0 := by
    show ¬ u.toNat % 8388608 = 0
    omega
  show FP.Core.decode FP.Core.b32 u.toNat = .nan
  unfold FP.Core.decode
  rw [if_pos (show FP.Core.fieldE FP.Core.b32 u.toNat = FP.Core.b32.exps - 1 from e1), if_neg e2]
theorem al_dc {x y : UInt32} (h : alike32 x y = true) : dc x = dc y := by
  unfold alike32 at h
  rw [Bool.or_eq_true] at h
  rcases h with h | h
  · rw [of_decide_eq_true h]
  · rw [Bool.and_eq_true] at h
    rw [nan_dc h.1, nan_dc h.2]
theorem fadd_dc {x y x2 y2 : UInt32} (h : dc x = dc x2) (h2 : dc y = dc y2) : FP.fadd x y = FP.fadd x2 y2 := by
  unfold dc at h h2
  unfold FP.fadd FP.Core.fadd FP.Core.add
  rw [h, h2]
theorem fsub_dc {x y x2 y2 : UInt32} (h : dc x = dc x2) (h2 : dc y = dc y2) : FP.fsub x y = FP.fsub x2 y2 := by
  unfold dc at h h2
  unfold FP.fsub FP.Core.fsub FP.Core.sub
  rw [h, h2]
theorem fmul_dc {x y x2 y2 : UInt32} (h : dc x = dc x2) (h2 : dc y = dc y2) : FP.fmul x y = FP.fmul x2 y2 := by
  unfold dc at h h2
  unfold FP.fmul FP.Core.fmul FP.Core.mul
  rw [h, h2]
theorem f2i_dc {x x2 : UInt32} (h : dc x = dc x2) : FP.f2i x = FP.f2i x2 := by
  unfold dc at h
  unfold FP.f2i FP.Core.f2i
  rw [h]
/-- the share as a float -/
def shF (w : Int → Int) : UInt32 := FP.fdiv (FP.i2f (Int32.ofInt (w 3))) 1120403456
/-- smoothed behind n hours -/
def fcF (w : Int → Int) (s k : Int) : Nat → Option UInt32
  | 0 => none
  | n + 1 => if rdA w s k n = -1 then fcF w s k n else match fcF w s k n with
    | none => some (FP.i2f (Int32.ofInt (rdA w s k n)))
    | some F => some (FP.fadd F (FP.fmul (shF w) (FP.fsub (FP.i2f (Int32.ofInt (rdA w s k n))) F)))
def fcO : Option UInt32 → Int
  | none => -1
  | some F => (FP.f2i F).toInt
def fcW (w : Int → Int) (s k h : Int) : Int := if Pl w s k h then fcO (fcF w s k (h + 1).toNat) else -1
/-- what the float local and its flag say of what is smoothed -/
def fcI (q : Option UInt32) (F : UInt32) (b : Int) : Prop := (b = 0 ∧ q = none) ∨ (b = 1 ∧ ∃ F0, q = some F0 ∧ dc F = dc F0)
theorem fcF_st (w : Int → Int) (s k : Int) {x : Int} (h : 0 ≤ x) : fcF w s k (x + 1).toNat = if rdA w s k x = -1 then fcF w s k x.toNat else match fcF w s k x.toNat with
    | none => some (FP.i2f (Int32.ofInt (rdA w s k x)))
    | some F => some (FP.fadd F (FP.fmul (shF w) (FP.fsub (FP.i2f (Int32.ofInt (rdA w s k x))) F))) := by
  have e : (x + 1).toNat = x.toNat + 1 := by omega
  have e2 : ((x.toNat : Nat) : Int) = x := by omega
  rw [e, fcF, e2]
theorem fcI_b {q : Option UInt32} {F : UInt32} {b : Int} (h : fcI q F b) : 0 ≤ b ∧ b ≤ 1 := by rcases h with h | h <;> omega
theorem fcI_skip {w : Int → Int} {s k x b : Int} {F : UInt32} (h0 : 0 ≤ x) (hr : rdA w s k x = -1) (h : fcI (fcF w s k x.toNat) F b) : fcI (fcF w s k (x + 1).toNat) F b := by rw [fcF_st w s k h0, if_pos hr]; exact h
theorem fcI_first {w : Int → Int} {s k x b : Int} {F : UInt32} (h0 : 0 ≤ x) (hr : ¬ rdA w s k x = -1) (hb : b = 0) (h : fcI (fcF w s k x.toNat) F b) : fcI (fcF w s k (x + 1).toNat) (FP.i2f (Int32.ofInt (rdA w s k x))) 1 := by
  rw [fcF_st w s k h0, if_neg hr]
  rcases h with h | h
  · rw [h.2]; exact Or.inr ⟨rfl, _, rfl, rfl⟩
  · omega
theorem fcI_next {w : Int → Int} {s k x b : Int} {F p r1 r2 r3 : UInt32} (h0 : 0 ≤ x) (hr : ¬ rdA w s k x = -1) (hb : ¬ b = 0) (hp : dc p = dc (shF w)) (h : fcI (fcF w s k x.toNat) F b) (a1 : alike32 r1 (FP.fsub (FP.i2f (Int32.ofInt (rdA w s k x))) F) = true) (a2 : alike32 r2 (FP.fmul p r1) = true) (a3 : alike32 r3 (FP.fadd F r2) = true) : fcI (fcF w s k (x + 1).toNat) r3 b := by
  rw [fcF_st w s k h0, if_neg hr]
  rcases h with h | ⟨h1, F0, h2, h3⟩
  · omega
  · rw [h2]
    refine Or.inr ⟨h1, _, rfl, ?_⟩
    rw [al_dc a3]
    have e1 : dc r1 = dc (FP.fsub (FP.i2f (Int32.ofInt (rdA w s k x))) F0) := by rw [al_dc a1, fsub_dc rfl h3]
    have e2 : dc r2 = dc (FP.fmul (shF w) (FP.fsub (FP.i2f (Int32.ofInt (rdA w s k x))) F0)) := by rw [al_dc a2, fmul_dc hp e1]
    rw [fadd_dc h3 e2]
theorem fcI_end {q : Option UInt32} {F : UInt32} {b : Int} (h : fcI q F b) (hb : ¬ b = 0) : (FP.f2i F).toInt = fcO q := by
  rcases h with h | ⟨-, F0, h2, h3⟩
  · exact absurd h.1 hb
  · rw [h2, f2i_dc h3]; rfl
theorem fcI_none {q : Option UInt32} {F : UInt32} {b : Int} (h : fcI q F b) (hb : b = 0) : (-1 : Int) = fcO q := by
  rcases h with h | ⟨h1, -⟩
  · rw [h.2]; rfl
  · omega
theorem f2i_bd (x : UInt32) : I32 (FP.f2i x).toInt := ⟨by have := Int32.le_toInt (FP.f2i x); omega, by have := Int32.toInt_lt (FP.f2i x); omega⟩
