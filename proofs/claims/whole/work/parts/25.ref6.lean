/-! bytes of a number, the highest first -/
def byB (x i : Int) : Int := if i = 0 then x / 16777216 % 256 else if i = 1 then x / 65536 % 256 else if i = 2 then x / 256 % 256 else x % 256
def sg (b : Int) : Int := if b < 128 then b else b - 256
theorem byB_bd (x i : Int) : 0 ≤ byB x i ∧ byB x i < 256 := by
  unfold byB
  split
  · omega
  · split
    · omega
    · split <;> omega
theorem and255 (x : Int) : Int32.ofInt x &&& Int32.ofInt 255 = Int32.ofInt (x % 256) := by
  have h := pk_and (Int32.ofInt x) (m := Int32.ofInt 255) 8 (by decide)
  rw [h]
  have e1 : (Int32.ofInt x).toBitVec.toNat = (x % 4294967296).toNat := by
    rw [Int32.toBitVec_ofInt, BitVec.toNat_ofInt]
    rfl
  rw [e1]
  show Int32.ofNat ((x % 4294967296).toNat % 2 ^ 8) = Int32.ofInt (x % 256)
  rw [← Int32.ofInt_eq_ofNat]
  congr 1
  have : (2 : Nat) ^ 8 = 256 := rfl
  rw [this]
  omega
theorem ushr_k (x : Int) (k : Int) (K : Nat) (hK : (((Int32.ofInt k).toUInt32 &&& Int32.toUInt32 31).toBitVec % 32).toNat = K) : ((Int32.ofInt x).toUInt32 >>> ((Int32.ofInt k).toUInt32 &&& Int32.toUInt32 31)).toInt32 = Int32.ofInt (x % 4294967296 / 2 ^ K) := by
  have h := pk_ushr (Int32.ofInt x) (Int32.ofInt k) K hK
  apply Int32.toBitVec_inj.mp
  apply BitVec.eq_of_toNat_eq
  rw [h]
  have e1 : (Int32.ofInt x).toBitVec.toNat = (x % 4294967296).toNat := by
    rw [Int32.toBitVec_ofInt, BitVec.toNat_ofInt]
    rfl
  rw [e1]
  have h0 : 0 ≤ x % 4294967296 := by omega
  have h1 : x % 4294967296 < 4294967296 := by omega
  have e2 : x % 4294967296 / 2 ^ K = (((x % 4294967296).toNat / 2 ^ K : Nat) : Int) := by
    rw [Int.natCast_ediv, Int.toNat_of_nonneg h0]
    simp
  have hle : (x % 4294967296).toNat / 2 ^ K ≤ (x % 4294967296).toNat := Nat.div_le_self _ _
  rw [e2, Int32.ofInt_eq_ofNat]
  exact (pk_tn (by omega)).symm
theorem shr_k {x : Int} (hx : I32 x) (k : Int) (K : Nat) (hK : ((Int32.ofInt k &&& 31).toBitVec.smod 32).toNat = K) : Int32.ofInt x >>> (Int32.ofInt k &&& 31) = Int32.ofInt (x / 2 ^ K) := by
  have h := pk_shr (Int32.ofInt x) (Int32.ofInt k &&& 31) K hK
  rw [i_toInt hx, Int.shiftRight_eq_div_pow] at h
  have e : ((2 ^ K : Nat) : Int) = 2 ^ K := by simp
  rw [e] at h
  rw [← Int32.ofInt_toInt (Int32.ofInt x >>> (Int32.ofInt k &&& 31)), h]
theorem i2b_k (x : Int) : (Int32.ofInt x).toInt8.toInt32 = Int32.ofInt (sg (x % 256)) := by
  have hb : -128 ≤ sg (x % 256) ∧ sg (x % 256) < 128 := by unfold sg; split <;> omega
  rw [← Int32.toInt_inj, Int8.toInt_toInt32, Int32.toInt_toInt8, i_toInt (show I32 (sg (x % 256)) from ⟨by omega, by omega⟩), Int32.toInt_ofInt]
  unfold sg
  have e : ((x.bmod Int32.size).bmod (2 ^ 8) : Int) = x.bmod 256 := by
    rw [show Int32.size = 4294967296 from rfl, show (2 ^ 8 : Nat) = 256 from rfl]
    rw [Int.bmod_def, Int.bmod_def, Int.bmod_def]
    split <;> split <;> split <;> omega
  rw [e, Int.bmod_def]
  split <;> split <;> omega
/-! how many bits -/
theorem ts_bit (P : Int → Bool) : ∀ (n i : Nat), i < n → tsN P n / 2 ^ i % 2 = if P i = true then 1 else 0
  | 0, i, h => absurd h (by omega)
  | n + 1, i, h => by
    have hb := ts_bd P n
    rw [tsN]
    by_cases e : i = n
    · subst e
      have hp : (0 : Int) < 2 ^ i := by omega
      by_cases c : P i = true
      · rw [if_pos c, if_pos c]
        have : (tsN P i + 2 ^ i) / 2 ^ i = 1 := by
          rw [Int.add_ediv_of_dvd_right (Int.dvd_refl _), Int.ediv_self (by omega), Int.ediv_eq_zero_of_lt hb.1 hb.2]
          rfl
        rw [this]; rfl
      · rw [if_neg c, if_neg c, Int.add_zero, Int.ediv_eq_zero_of_lt hb.1 hb.2]; rfl
    · have ih := ts_bit P n i (by omega)
      by_cases c : P n = true
      · rw [if_pos c]
        have hp : (0 : Int) < 2 ^ i := Int.pow_pos (by omega)
        have e2 : (2 : Int) ^ n = 2 ^ (n - i - 1) * 2 * 2 ^ i := by
          rw [← Int.pow_succ, ← Int.pow_add]
          congr 1
          omega
        rw [e2, Int.add_mul_ediv_right _ _ (by omega), Int.add_mul_emod_self_right]
        exact ih
      · rw [if_neg c, Int.add_zero]
        exact ih
def pcN (P : Int → Bool) (n : Nat) : Int := sm (fun i => if P i = true then 1 else 0) 0 n
def qCo (w : Int → Int) (s k h v : Int) : Int := if Cc w s k h v then pcN (tcB w s k h v) 12 else -2
/-- what a number becomes by the acts -/
def coW (w : Int → Int) (s k h v : Int) : Int → Int := upI w (atW s k h) (v + 1)
def paW (w : Int → Int) (n : Int) : Int → Int := upI w 0 (w 0 + n)
def smW (w : Int → Int) (a : Int) : Int → Int := upI w 3 a
def wiW (w : Int → Int) (k x y : Int) : Int → Int := upI (upI w (7 + 13 * k) x) (8 + 13 * k) y
abbrev Cp (w : Int → Int) (n : Int) : Prop := 1 ≤ n ∧ n ≤ 12 ∧ w 0 + n ≤ 60
abbrev Cs (a : Int) : Prop := 0 ≤ a ∧ a ≤ 100
abbrev Cw (w : Int → Int) (k x y : Int) : Prop := Ks w k ∧ 1 ≤ x ∧ x ≤ 12 ∧ 1 ≤ y ∧ y ≤ x

theorem ly_old {n k x : Int} {g tp : Int → Int} (h : ∀ j, j < n → g j = tp j) (hk : 0 ≤ (24 - k) / 8) : ∀ j, j < n → upI g (n + (24 - k) / 8) x j = tp j := by
  intro j hj
  rw [upI_n _ _ (by omega)]
  exact h j hj
theorem ly_new {n k x : Int} {g : Int → Int} (hk : k = 24 ∨ k = 16 ∨ k = 8 ∨ k = 0) (h : ∀ i, 0 ≤ i → i < (24 - k) / 8 → g (n + i) = byB x i) : ∀ i, 0 ≤ i → i < (24 - (k + -8)) / 8 → upI g (n + (24 - k) / 8) (x % 4294967296 / 2 ^ k.toNat % 256) (n + i) = byB x i := by
  intro i i0 i1
  by_cases e : i = (24 - k) / 8
  · subst e
    rw [upI_s]
    unfold byB
    rcases hk with rfl | rfl | rfl | rfl
    · show x % 4294967296 / 16777216 % 256 = _
      rw [if_pos (by decide)]; omega
    · show x % 4294967296 / 65536 % 256 = _
      rw [if_neg (by decide), if_pos (by decide)]; omega
    · show x % 4294967296 / 256 % 256 = _
      rw [if_neg (by decide), if_neg (by decide), if_pos (by decide)]; omega
    · show x % 4294967296 / 1 % 256 = _
      rw [if_neg (by decide), if_neg (by decide), if_neg (by decide)]; omega
  · rw [upI_n _ _ (by omega)]
    exact h i i0 (by omega)
theorem ly_end {n k x : Int} {g tp : Int → Int} {Q : (Int → Int) → Int → Prop} (hk : k = -8) (hp : ∀ g, (∀ j, j < n → g j = tp j) → (∀ i, 0 ≤ i → i < 4 → g (n + i) = byB x i) → Q g (n + 4)) (h1 : ∀ j, j < n → g j = tp j) (h2 : ∀ i, 0 ≤ i → i < (24 - k) / 8 → g (n + i) = byB x i) : Q g (n + (24 - k) / 8) := by
  subst hk
  exact hp g h1 (fun i a b => h2 i a (by omega))

set_option maxRecDepth 100000 in
theorem c_X8_lays {E : Ev} {M : Mem} {Post : Option Value → Mem → Prop} {m t : Nat} {f0 f3 f4 f5 f6 f7 f8 f9 f10 f11 f12 f13 f14 f15 f16 f17 : Value} {n : Int} {tp : Int → Int} (hm : M[m]? = some (ob 8 [f0, rr E t, iv n, f3, f4, f5, f6, f7, f8, f9, f10, f11, f12, f13, f14, f15, f16, f17])) (ht : M[t]? = some (ia E 0 640 tp)) {x : Int} (n0 : 0 ≤ n) (n1 : n ≤ 636) (hp : ∀ g, (∀ j, j < n → g j = tp j) → (∀ i, 0 ≤ i → i < 4 → g (n + i) = byB x i) → Post none ((M.set t (ia E 0 640 g)).set m (ob 8 [f0, rr E t, iv (n + 4), f3, f4, f5, f6, f7, f8, f9, f10, f11, f12, f13, f14, f15, f16, f17]))) : Cn E rX8_lays mX8_lays [rr E m, iv x] M Post := by
  have hq : ∀ g, (∀ j, j < n → g j = tp j) → (∀ i, 0 ≤ i → i < 4 → g (n + i) = byB x i) → (fun g n2 => Post none ((M.set t (ia E 0 640 g)).set m (ob 8 [f0, rr E t, iv n2, f3, f4, f5, f6, f7, f8, f9, f10, f11, f12, f13, f14, f15, f16, f17]))) g (n + 4) := hp
  have lp : ∀ (r : Nat) (k : Int) (g : Int → Int), (k = 24 ∨ k = 16 ∨ k = 8 ∨ k = 0 ∨ k = -8) → (∀ j, j < n → g j = tp j) → (∀ i, 0 ≤ i → i < ((24 - k) / 8) → g (n + i) = byB x i) → k + 9 < (r : Int) → V E rX8_lays mX8_lays (finM E rX8_lays Post) 0 0 ((M.set t (ia E 0 640 g)).set m (ob 8 [f0, rr E t, iv (n + ((24 - k) / 8)), f3, f4, f5, f6, f7, f8, f9, f10, f11, f12, f13, f14, f15, f16, f17])) 3 [some (rr E m), some (iv x), some (iv k)] [] := by
    intro r
    induction r with
    | zero => intro k g h_0 h_1 h_2 hz; exact absurd hz (by omega)
    | succ r ih =>
      intro k g h_0 h_1 h_2 hz
      refine v_iload_2 dX8_lays_3 ?_
      refine v_if_lt (tgt := 39) dX8_lays_4 rfl ⟨by omega, by omega⟩ (fun c4 => ?_) (fun c4 => ?_)
      · exact v_vret dX8_lays_39 rfl (Nat.le_refl _) (Nat.le_refl _) (ly_end (Q := fun g n2 => Post none ((M.set t (ia E 0 640 g)).set m (ob 8 [f0, rr E t, iv n2, f3, f4, f5, f6, f7, f8, f9, f10, f11, f12, f13, f14, f15, f16, f17]))) (show k = -8 by omega) hq h_1 h_2)
      · refine v_aload_0 dX8_lays_7 ?_
        refine g_X8_7 rfl dX8_lays_8 (gs_eq (gs_ne (ob_ia hm ht) hm)) ?_
        refine v_aload_0 dX8_lays_11 ?_
        refine g_X8_11 rfl dX8_lays_12 (gs_eq (gs_ne (ob_ia hm ht) hm)) ?_
        refine v_iload_1 dX8_lays_15 ?_
        refine v_iload_2 dX8_lays_16 ?_
        have hk : k = 24 ∨ k = 16 ∨ k = 8 ∨ k = 0 := by omega
        refine v_iushr dX8_lays_17 (show _ = Int32.ofInt (x % 4294967296 / 2 ^ k.toNat) from by rcases hk with rfl | rfl | rfl | rfl <;> exact ushr_k x _ _ (by decide)) ?_
        refine v_sipush dX8_lays_18 (by decide) ?_
        refine v_iand dX8_lays_21 (and255 _) ?_
        refine v_iastore dX8_lays_22 (gs_ne (ob_ia hm ht).symm (gs_eq ht)) (by omega) (by omega) (by decide) ?_
        rw [List.set_comm _ _ (ob_ia hm ht).symm, gs_gs]
        refine v_aload_0 dX8_lays_23 ?_
        refine v_dupr dX8_lays_24 ?_
        refine g_X8_11 rfl dX8_lays_25 (gs_eq (gs_ne (ob_ia hm ht) hm)) ?_
        refine v_iconst dX8_lays_28 ?_
        refine v_iadd dX8_lays_29 ?_
        refine p_X8_11 rfl dX8_lays_30 (gs_eq (gs_ne (ob_ia hm ht) hm)) ?_
        rw [gs_gs]
        refine v_iinc_2 dX8_lays_33 (Nat.le_of_ble_eq_true rfl) rfl ?_
        refine v_goto (tgt := 3) dX8_lays_36 rfl ?_
        rw [show n + ((24 - k) / 8) + 1 = n + (24 - (k + -8)) / 8 by omega]
        exact ih (k + -8) _ (by omega) (ly_old h_1 (by omega)) (ly_new hk h_2) (by omega)
  refine Cn.of (L := [some (rr E m), some (iv x), none]) (by decide) (Nat.le_of_ble_eq_true rfl) rfl ?_
  refine v_bipush dX8_lays_0 (by decide) ?_
  refine v_istore_2 dX8_lays_2 (Nat.le_of_ble_eq_true rfl) rfl ?_
  have t := lp 34 24 tp (by omega) (fun j _ => rfl) (fun i i0 i1 => by omega) (by omega)
  rw [show n + (24 - 24) / 8 = n by omega, gs_id ht, gs_id hm] at t
  exact t
