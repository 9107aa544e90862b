theorem sm_split (f : Int → Int) (a : Int) (n : Nat) : ∀ m : Nat, sm f a (n + m) = sm f a n + sm f (a + n) m
  | 0 => by simp [sm]
  | m + 1 => by
    rw [← Nat.add_assoc, sm, sm_split f a n m, sm, show a + ((n + m : Nat) : Int) = a + n + m by omega]
    omega
theorem sm_shift (f : Int → Int) (a : Int) : ∀ n : Nat, sm f a n = sm (fun h => f (a + h)) 0 n
  | 0 => rfl
  | n + 1 => by rw [sm, sm, sm_shift f a n, Int.zero_add]
theorem sm_flat (g : Int → Int) : ∀ r : Nat, sm g 50 (60 * r) = sm (fun r => sm (fun h => g (50 + 60 * r + h)) 0 60) 0 r
  | 0 => rfl
  | r + 1 => by
    have e2 : sm (fun r => sm (fun h => g (50 + 60 * r + h)) 0 60) 0 (r + 1) = sm (fun r => sm (fun h => g (50 + 60 * r + h)) 0 60) 0 r + sm (fun h => g (50 + 60 * (0 + (r : Int)) + h)) 0 60 := rfl
    rw [show 60 * (r + 1) = 60 * r + 60 by omega, sm_split, sm_flat g r, e2, sm_shift g (50 + ((60 * r : Nat) : Int)) 60, show (50 : Int) + ((60 * r : Nat) : Int) = 50 + 60 * r by omega, Int.zero_add]
theorem sm_zero {f : Int → Int} {a : Int} (n : Nat) (h : ∀ i : Nat, i < n → f (a + i) = 0) : sm f a n = 0 := by
  have := sm_bd (f := f) (a := a) (lo := 0) (hi := 0) n (fun i hi => by rw [h i hi]; omega)
  omega
theorem cr_flat {w : Int → Int} (hw : WF w) : crW w = sm (fun i => if 0 < w i then 1 else 0) 50 720 := by
  rw [show 720 = 60 * 12 from rfl, sm_flat]
  unfold crW
  refine sm_cong 12 (fun r hr => ?_)
  rw [Int.zero_add]
  have hn := hw.1
  have e : 60 = (w 0).toNat + (60 - (w 0).toNat) := by omega
  rw [e, sm_split, sm_zero (60 - (w 0).toNat) (fun i hi => ?_), Int.add_zero]
  · refine sm_cong _ (fun i hi => ?_)
    have h1 := hw.2.2.2.2.2.2.2.2.2.1 r (0 + i) (by omega) (by omega) (by omega) (by omega)
    by_cases c : w (50 + 60 * r + (0 + i)) = 0
    · rw [if_pos c, if_neg (by omega)]
    · rw [if_neg c, if_pos (by omega)]
  · have h1 := hw.2.2.2.2.2.2.2.2.2.2 r (0 + ((w 0).toNat : Int) + i) (by omega) (by omega) (by omega) (by omega)
    rw [h1, if_neg (by omega)]
theorem upI_id (f : Int → Int) (z : Int) : upI f z (f z) = f := by
  funext j
  unfold upI
  split
  · next h => rw [h]
  · rfl
theorem upI_up (f : Int → Int) (z x y : Int) : upI (upI f z x) z y = upI f z y := by
  funext j
  unfold upI
  split <;> rfl
theorem upI_lt {f : Int → Int} {z x j : Int} (h : j < z) : upI f z x j = f j := upI_n f x (by omega)
/-- another read in its place is an office still -/
theorem WF.up {w : Int → Int} (hw : WF w) {s k h v : Int} (hP : Pl w s k h) (v0 : -1 ≤ v) (v1 : v ≤ 999) : WF (upI w (atW s k h) (v + 1)) := by
  have n0 := hw.1
  have n1 := hw.2.1
  have n2 := hw.2.2.1
  have lo : ∀ j, j < 50 → upI w (atW s k h) (v + 1) j = w j := fun j hj => upI_lt (by unfold atW; omega)
  obtain ⟨a0, a1, a2, a3, a4, a5, a6, a7, a8, a9, a10⟩ := hw
  unfold WF
  rw [lo 0 (by omega), lo 1 (by omega), lo 2 (by omega), lo 3 (by omega), lo 4 (by omega), lo 5 (by omega), lo 6 (by omega)]
  refine ⟨a0, a1, a2, a3, a4, fun q b c => ?_, fun q i b c d e => ?_, fun q i b c d e => ?_, fun q b c => ?_, fun r x b c d e => ?_, fun r x b c d e => ?_⟩
  · rw [lo _ (by omega), lo _ (by omega), lo _ (by omega)]; exact a5 q b c
  · rw [lo (9 + 13 * q) (by omega)] at e
    have := a5 q b c
    rw [lo _ (by omega), lo _ (by omega)]; exact a6 q i b c d e
  · rw [lo (9 + 13 * q) (by omega)] at e
    have := a5 q b c
    rw [lo _ (by omega), lo _ (by omega), lo _ (by omega), lo _ (by omega)]; exact a7 q i b c d e
  · rw [lo _ (by omega)]; exact a8 q b c
  · by_cases q : 50 + 60 * r + x = atW s k h
    · rw [q, upI_s]; omega
    · rw [upI_n _ _ q]; exact a9 r x b c d e
  · rw [upI_n _ _ (by unfold atW; omega)]; exact a10 r x b c d e
/-- the header of the row does not change with a read -/
theorem up_lo (w : Int → Int) {s k h : Int} (hP : Pl w s k h) (x : Int) {j : Int} (hj : j < 50) : upI w (atW s k h) x j = w j := upI_lt (by unfold atW; omega)
/-- the greatest below n at which P holds; -2 without one -/
def glW (P : Int → Bool) : Nat → Int
  | 0 => -2
  | n + 1 => if P n = true then n else glW P n
def kpB (w : Int → Int) (s k b v : Int) : Bool := decide (ixW (upI w (atW s k (w 0 - 1)) (v + 1)) s (w 0 - 1) ≠ -1 ∧ ixW (upI w (atW s k (w 0 - 1)) (v + 1)) s (w 0 - 1) < w (4 + b))
def qKp (w : Int → Int) (s k b : Int) : Int := if Pl w s k (w 0 - 1) ∧ 0 ≤ b ∧ b ≤ 2 then glW (kpB w s k b) 1000 else -1
theorem gl_st (P : Int → Bool) {x : Int} (h : 0 ≤ x) : glW P (x + 1).toNat = if P x = true then x else glW P x.toNat := by
  have e : (x + 1).toNat = x.toNat + 1 := by omega
  have e2 : ((x.toNat : Nat) : Int) = x := by omega
  rw [e, glW, e2]
/-- bits -/
def tsN (P : Int → Bool) : Nat → Int
  | 0 => 0
  | n + 1 => tsN P n + (if P n = true then 2 ^ n else 0)
theorem ts_bd (P : Int → Bool) : ∀ n : Nat, 0 ≤ tsN P n ∧ tsN P n < 2 ^ n
  | 0 => by simp [tsN]
  | n + 1 => by
    have h := ts_bd P n
    have e : (2 : Int) ^ (n + 1) = 2 ^ n + 2 ^ n := by rw [Int.pow_succ]; omega
    rw [tsN, e]
    split <;> omega
def tcB (w : Int → Int) (s k h v x : Int) : Bool := decide (ixW (upI w (atW s k h) (v + 1)) s (h + x) ≠ ixW w s (h + x))
def tcW (w : Int → Int) (s k h v : Int) : Int := tsN (tcB w s k h v) 12
abbrev Cc (w : Int → Int) (s k h v : Int) : Prop := Pl w s k h ∧ -1 ≤ v ∧ v ≤ 999
def qTc (w : Int → Int) (s k h v : Int) : Int := if Cc w s k h v then tcW w s k h v else -1
theorem shl_one : ∀ i : Nat, i < 12 → Int32.ofInt 1 <<< (Int32.ofInt (i : Int) &&& 31) = Int32.ofInt (2 ^ i) := by decide
theorem pow_le : ∀ i : Nat, i ≤ 12 → (2 : Int) ^ i ≤ 4096 := by decide
theorem i_toNat {z : Int} (h0 : 0 ≤ z) (h : z < 4294967296) : (Int32.ofInt z).toBitVec.toNat = z.toNat := by
  have e : Int32.ofInt z = Int32.ofNat z.toNat := by rw [← Int32.ofInt_eq_ofNat, toNat_cast h0]
  rw [e]
  exact pk_tn (by omega)
theorem or_add {x : Int} (i : Nat) (hi : i < 12) (h0 : 0 ≤ x) (h : x < 2 ^ i) : Int32.ofInt x ||| Int32.ofInt (2 ^ i) = Int32.ofInt (x + 2 ^ i) := by
  have hp := pow_le i (by omega)
  apply Int32.toBitVec_inj.mp
  apply BitVec.eq_of_toNat_eq
  have e1 : ((2 : Int) ^ i).toNat = 2 ^ i := by
    have : (2 : Int) ^ i = ((2 ^ i : Nat) : Int) := by simp
    rw [this, Int.toNat_natCast]
  have hlt : x.toNat < 2 ^ i := by rw [← e1]; omega
  have ep : (0 : Int) < 2 ^ i := by omega
  rw [Int32.toBitVec_or, BitVec.toNat_or, i_toNat h0 (by omega), i_toNat (by omega) (by omega), i_toNat (by omega) (by omega), e1, Nat.or_comm]
  have q := Nat.two_pow_add_eq_or_of_lt hlt 1
  rw [Nat.mul_one] at q
  rw [← q]
  omega
/-- different kinds of cells lie at different places -/
theorem ob_ia {E : Ev} {M : Mem} {m a k t n : Nat} {fs : List Value} {f : Int → Int} (hm : M[m]? = some (ob k fs)) (ha : M[a]? = some (ia E t n f)) : a ≠ m := by
  intro e
  subst e
  rw [hm] at ha
  have := Option.some.inj ha
  cases this
