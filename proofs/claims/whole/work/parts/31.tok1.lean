/-! ===== the tokens of a tape: T its bytes, L how many ===== -/
abbrev Bl (c : Int) : Prop := c = 32 ∨ c = 10
abbrev Dg (c : Int) : Prop := 48 ≤ c ∧ c ≤ 57
abbrev Lt (c : Int) : Prop := 97 ≤ c ∧ c ≤ 122
def skF (T : Int → Int) (L : Int) : Nat → Int → Int
  | 0, p => p
  | n + 1, p => if p < L ∧ Bl (T p) then skF T L n (p + 1) else p
def skB (T : Int → Int) (L p : Int) : Int := skF T L (L - p).toNat p
def rnF (T : Int → Int) (L : Int) : Nat → Int → Int
  | 0, p => p
  | n + 1, p => if p < L ∧ (Dg (T p) ∨ Lt (T p)) then rnF T L n (p + 1) else p
def rnB (T : Int → Int) (L p : Int) : Int := rnF T L (L - p).toNat p
theorem sk_st {T : Int → Int} {L p : Int} (h : p < L) (hb : Bl (T p)) : skB T L p = skB T L (p + 1) := by
  unfold skB
  rw [show (L - p).toNat = (L - (p + 1)).toNat + 1 by omega, skF, if_pos ⟨h, hb⟩]
theorem sk_no {T : Int → Int} {L p : Int} (h : ¬ (p < L ∧ Bl (T p))) : skB T L p = p := by
  unfold skB
  cases (L - p).toNat with
  | zero => rfl
  | succ n => rw [skF, if_neg h]
theorem rn_st {T : Int → Int} {L p : Int} (h : p < L) (hb : Dg (T p) ∨ Lt (T p)) : rnB T L p = rnB T L (p + 1) := by
  unfold rnB
  rw [show (L - p).toNat = (L - (p + 1)).toNat + 1 by omega, rnF, if_pos ⟨h, hb⟩]
theorem rn_no {T : Int → Int} {L p : Int} (h : ¬ (p < L ∧ (Dg (T p) ∨ Lt (T p)))) : rnB T L p = p := by
  unfold rnB
  cases (L - p).toNat with
  | zero => rfl
  | succ n => rw [rnF, if_neg h]
theorem skF_bd {T : Int → Int} {L : Int} : ∀ (n : Nat) (p : Int), p ≤ skF T L n p ∧ (p ≤ L → skF T L n p ≤ L)
  | 0, p => by rw [skF]; omega
  | n + 1, p => by
    have := skF_bd (T := T) (L := L) n (p + 1)
    rw [skF]
    split <;> omega
theorem sk_bd (T : Int → Int) (L p : Int) : p ≤ skB T L p ∧ (p ≤ L → skB T L p ≤ L) := skF_bd _ _
theorem rnF_bd {T : Int → Int} {L : Int} : ∀ (n : Nat) (p : Int), p ≤ rnF T L n p ∧ (p ≤ L → rnF T L n p ≤ L)
  | 0, p => by rw [rnF]; omega
  | n + 1, p => by
    have := rnF_bd (T := T) (L := L) n (p + 1)
    rw [rnF]
    split <;> omega
theorem rn_bd (T : Int → Int) (L p : Int) : p ≤ rnB T L p ∧ (p ≤ L → rnB T L p ≤ L) := rnF_bd _ _
theorem rnF_all {T : Int → Int} {L : Int} : ∀ (n : Nat) (p j : Int), p ≤ j → j < rnF T L n p → Dg (T j) ∨ Lt (T j)
  | 0, p, j, h1, h2 => by rw [rnF] at h2; omega
  | n + 1, p, j, h1, h2 => by
    rw [rnF] at h2
    split at h2
    · next c =>
      by_cases e : j = p
      · rw [e]; exact c.2
      · exact rnF_all n (p + 1) j (by omega) h2
    · omega
theorem rn_all {T : Int → Int} {L p j : Int} (h1 : p ≤ j) (h2 : j < rnB T L p) : Dg (T j) ∨ Lt (T j) := rnF_all _ _ _ h1 h2
/-- letters, digits, the number of a run of n from q on -/
def lC (T : Int → Int) (q : Int) (n : Nat) : Int := sm (fun j => if Lt (T j) then 1 else 0) q n
def dC (T : Int → Int) (q : Int) (n : Nat) : Int := sm (fun j => if Dg (T j) then 1 else 0) q n
def nmF (T : Int → Int) (q : Int) : Nat → Int
  | 0 => 0
  | n + 1 => if Dg (T (q + n)) then nmF T q n * 10 + (T (q + n) - 48) else nmF T q n
def rnK (T : Int → Int) (q : Int) (n : Nat) : Int := if 0 < lC T q n ∧ dC T q n = 0 then 1 else if lC T q n = 0 ∧ 1 ≤ dC T q n ∧ dC T q n ≤ 3 then 2 else 0
/-- the token that is looked at behind the place p: its kind, its place, the place behind it, its number -/
def tkK (T : Int → Int) (L p : Int) : Int := if min L 600 ≤ skB T L p then (if 600 < L then 0 else 4) else if T (skB T L p) = 59 then 3 else rnK T (skB T L p) (rnB T L (skB T L p) - skB T L p).toNat
def tkS (T : Int → Int) (L p : Int) : Int := if min L 600 ≤ skB T L p then min L 600 else skB T L p
def tkB (T : Int → Int) (L p : Int) : Int := if min L 600 ≤ skB T L p then min L 600 else if T (skB T L p) = 59 then skB T L p + 1 else rnB T L (skB T L p)
def tkN (T : Int → Int) (L p : Int) : Int := nmF T (skB T L p) (rnB T L (skB T L p) - skB T L p).toNat
theorem lC_bd (T : Int → Int) (q : Int) (n : Nat) : 0 ≤ lC T q n ∧ lC T q n ≤ n := by
  have := sm_bd (f := fun j => if Lt (T j) then 1 else 0) (a := q) (lo := 0) (hi := 1) n (fun i _ => by split <;> omega)
  unfold lC
  omega
theorem dC_bd (T : Int → Int) (q : Int) (n : Nat) : 0 ≤ dC T q n ∧ dC T q n ≤ n := by
  have := sm_bd (f := fun j => if Dg (T j) then 1 else 0) (a := q) (lo := 0) (hi := 1) n (fun i _ => by split <;> omega)
  unfold dC
  omega
theorem lC_st (T : Int → Int) {q x : Int} (h : q ≤ x) : lC T q (x + 1 - q).toNat = lC T q (x - q).toNat + (if Lt (T x) then 1 else 0) := sm_st _ h
theorem dC_st (T : Int → Int) {q x : Int} (h : q ≤ x) : dC T q (x + 1 - q).toNat = dC T q (x - q).toNat + (if Dg (T x) then 1 else 0) := sm_st _ h
theorem nm_st (T : Int → Int) {q x : Int} (h : q ≤ x) : nmF T q (x + 1 - q).toNat = if Dg (T x) then nmF T q (x - q).toNat * 10 + (T x - 48) else nmF T q (x - q).toNat := by
  rw [show (x + 1 - q).toNat = (x - q).toNat + 1 by omega, nmF, show q + ((x - q).toNat : Int) = x by omega]
theorem rnK_bd (T : Int → Int) (q : Int) (n : Nat) : 0 ≤ rnK T q n ∧ rnK T q n ≤ 2 := by unfold rnK; split <;> (try split) <;> omega
theorem tkK_bd (T : Int → Int) (L p : Int) : 0 ≤ tkK T L p ∧ tkK T L p ≤ 4 := by
  have := rnK_bd T (skB T L p) (rnB T L (skB T L p) - skB T L p).toNat
  unfold tkK
  split <;> split <;> omega
theorem tkS_bd {T : Int → Int} {L p : Int} (h0 : 0 ≤ p) (hp : p ≤ L) (hL : L ≤ 640) : 0 ≤ tkS T L p ∧ tkS T L p ≤ 640 := by
  have := sk_bd T L p
  unfold tkS
  split <;> omega
theorem tkB_bd {T : Int → Int} {L p : Int} (h0 : 0 ≤ p) (hp : p ≤ L) : 0 ≤ tkB T L p ∧ tkB T L p ≤ L := by
  have h1 := sk_bd T L p
  have h2 := rn_bd T L (skB T L p)
  unfold tkB
  split
  · omega
  · split <;> omega
theorem ld_n (T : Int → Int) (q : Int) : ∀ n : Nat, (∀ j, q ≤ j → j < q + n → Dg (T j) ∨ Lt (T j)) → lC T q n + dC T q n = n
  | 0, _ => by simp [lC, dC, sm]
  | n + 1, h => by
    have h1 := ld_n T q n (fun j a b => h j a (by omega))
    have h2 := h (q + n) (by omega) (by omega)
    unfold lC dC at *
    rw [sm, sm]
    try dsimp only
    rcases h2 with h2 | h2
    · rw [if_neg (by omega), if_pos h2]; omega
    · rw [if_pos h2, if_neg (by omega)]; omega
theorem l0_all {T : Int → Int} {q : Int} : ∀ n : Nat, (∀ j, q ≤ j → j < q + n → Dg (T j) ∨ Lt (T j)) → lC T q n = 0 → ∀ j, q ≤ j → j < q + n → Dg (T j)
  | 0, _, _, j, a, b => by omega
  | n + 1, h, h0, j, a, b => by
    have hb := lC_bd T q n
    unfold lC at h0 hb
    rw [sm] at h0
    try dsimp only at h0
    by_cases c : Lt (T (q + n))
    · rw [if_pos c] at h0; omega
    · rw [if_neg c] at h0
      by_cases e : j = q + n
      · rw [e]; exact (h (q + n) (by omega) (by omega)).resolve_right c
      · exact l0_all n (fun j a b => h j a (by omega)) (by unfold lC; omega) j a (by omega)
theorem d0_all {T : Int → Int} {q : Int} : ∀ n : Nat, (∀ j, q ≤ j → j < q + n → Dg (T j) ∨ Lt (T j)) → dC T q n = 0 → ∀ j, q ≤ j → j < q + n → Lt (T j)
  | 0, _, _, j, a, b => by omega
  | n + 1, h, h0, j, a, b => by
    have hb := dC_bd T q n
    unfold dC at h0 hb
    rw [sm] at h0
    try dsimp only at h0
    by_cases c : Dg (T (q + n))
    · rw [if_pos c] at h0; omega
    · rw [if_neg c] at h0
      by_cases e : j = q + n
      · rw [e]; exact (h (q + n) (by omega) (by omega)).resolve_left c
      · exact d0_all n (fun j a b => h j a (by omega)) (by unfold dC; omega) j a (by omega)
/-- what a token of kind 2 is -/
theorem tk_num {T : Int → Int} {L p : Int} (h : tkK T L p = 2) : skB T L p < min L 600 ∧ (∀ j, skB T L p ≤ j → j < rnB T L (skB T L p) → Dg (T j)) ∧ 1 ≤ rnB T L (skB T L p) - skB T L p ∧ rnB T L (skB T L p) - skB T L p ≤ 3 ∧ tkS T L p = skB T L p ∧ tkB T L p = rnB T L (skB T L p) := by
  unfold tkK at h
  split at h
  · split at h <;> omega
  · next c =>
    split at h
    · omega
    · next c2 =>
      have hb := rn_bd T L (skB T L p)
      have hal : ∀ j, skB T L p ≤ j → j < skB T L p + (rnB T L (skB T L p) - skB T L p).toNat → Dg (T j) ∨ Lt (T j) := fun j a b => rn_all (L := L) a (by omega)
      have hld := ld_n T (skB T L p) _ hal
      unfold rnK at h
      split at h
      · omega
      · split at h
        · next c3 =>
          have := l0_all _ hal c3.1
          exact ⟨by omega, fun j a b => this j a (by omega), by omega, by omega, by unfold tkS; rw [if_neg c], by unfold tkB; rw [if_neg c, if_neg c2]⟩
        · omega
theorem tk_word {T : Int → Int} {L p : Int} (h : tkK T L p = 1) : skB T L p < min L 600 ∧ (∀ j, skB T L p ≤ j → j < rnB T L (skB T L p) → Lt (T j)) ∧ 1 ≤ rnB T L (skB T L p) - skB T L p ∧ tkS T L p = skB T L p ∧ tkB T L p = rnB T L (skB T L p) := by
  unfold tkK at h
  split at h
  · split at h <;> omega
  · next c =>
    split at h
    · omega
    · next c2 =>
      have hb := rn_bd T L (skB T L p)
      have hal : ∀ j, skB T L p ≤ j → j < skB T L p + (rnB T L (skB T L p) - skB T L p).toNat → Dg (T j) ∨ Lt (T j) := fun j a b => rn_all (L := L) a (by omega)
      have hld := ld_n T (skB T L p) _ hal
      unfold rnK at h
      split at h
      · next c3 =>
        have := d0_all _ hal c3.2
        exact ⟨by omega, fun j a b => this j a (by omega), by omega, by unfold tkS; rw [if_neg c], by unfold tkB; rw [if_neg c, if_neg c2]⟩
      · split at h <;> omega
theorem nm_bd {T : Int → Int} {q : Int} : ∀ n : Nat, (∀ j, q ≤ j → j < q + n → Dg (T j)) → 0 ≤ nmF T q n ∧ nmF T q n < 10 ^ n
  | 0, _ => by simp [nmF]
  | n + 1, h => by
    have h1 := nm_bd n (fun j a b => h j a (by omega))
    have h2 := h (q + n) (by omega) (by omega)
    rw [nmF, if_pos h2, Int.pow_succ]
    omega
theorem tkN_bd {T : Int → Int} {L p : Int} (h : tkK T L p = 2) : 0 ≤ tkN T L p ∧ tkN T L p ≤ 999 := by
  obtain ⟨h1, h2, h3, h4, -, -⟩ := tk_num h
  have := nm_bd (rnB T L (skB T L p) - skB T L p).toNat (fun j a b => h2 j a (by omega))
  unfold tkN
  have e : (rnB T L (skB T L p) - skB T L p).toNat = 1 ∨ (rnB T L (skB T L p) - skB T L p).toNat = 2 ∨ (rnB T L (skB T L p) - skB T L p).toNat = 3 := by omega
  rcases e with e | e | e <;> rw [e] at this ⊢ <;> simp at this <;> omega
theorem sg_ok {c : Int} (h0 : 0 ≤ c) (h1 : c < 256) : (sg c = c ∧ c < 128) ∨ (sg c = c - 256 ∧ 128 ≤ c) := by unfold sg; split <;> omega
/-- the class's tape -/
def TA (E : Ev) (M : Mem) (a b : Nat) (T : Int → Int) (L : Int) : Prop := M[a]? = some (ob 4 [rr E b, iv L]) ∧ (∃ cb, M[b]? = some (ia E 1 640 cb) ∧ ∀ j, 0 ≤ j → j < L → cb j = sg (T j)) ∧ (∀ j, 0 ≤ j → j < L → 0 ≤ T j ∧ T j < 256) ∧ 0 ≤ L ∧ L ≤ 640

set_option maxRecDepth 100000 in
theorem c_X6_skipBlanks {E : Ev} {M : Mem} {Post : Option Value → Mem → Prop} {t a b : Nat} {T : Int → Int} {L : Int} (hA : TA E M a b T L) (hta : t ≠ a) {f1 f2 f4 : Value} {p : Int} (hK : M[t]? = some (ob 6 [rr E a, f1, f2, iv p, f4])) (p0 : 0 ≤ p) (p1 : p ≤ L) (hp : Post none (M.set t (ob 6 [rr E a, f1, iv (skB T L p), iv p, f4]))) : Cn E rX6_skipBlanks mX6_skipBlanks [rr E t] M Post := by
  obtain ⟨hT, ⟨cb, hB, hcb⟩, hT8, L0, L1⟩ := hA
  have htb : t ≠ b := (ob_ia hK hB).symm
  have lp : ∀ (r : Nat) (s : Int), (p ≤ s) → (s ≤ L) → (skB T L p = skB T L s) → L - s < (r : Int) → V E rX6_skipBlanks mX6_skipBlanks (finM E rX6_skipBlanks Post) 0 0 (M.set t (ob 6 [rr E a, f1, iv s, iv p, f4])) 8 [some (rr E t), none] [] := by
    intro r
    induction r with
    | zero => intro s h_0 h_1 h_2 hz; exact absurd hz (by omega)
    | succ r ih =>
      intro s h_0 h_1 h_2 hz
      refine v_aload_0 dX6_skipBlanks_8 ?_
      refine g_X6_36 rfl dX6_skipBlanks_9 (gs_eq hK) ?_
      refine v_if_lt (tgt := 78) dX6_skipBlanks_12 rfl ⟨by omega, by omega⟩ (fun c12 => absurd c12 (by omega)) (fun c12 => ?_)
      refine v_aload_0 dX6_skipBlanks_15 ?_
      refine g_X6_36 rfl dX6_skipBlanks_16 (gs_eq hK) ?_
      refine v_aload_0 dX6_skipBlanks_19 ?_
      refine g_X6_9 rfl dX6_skipBlanks_20 (gs_eq hK) ?_
      refine g_X6_25 rfl dX6_skipBlanks_23 (gs_ne hta hT) ?_
      refine v_icmp_ge (tgt := 78) dX6_skipBlanks_26 rfl ⟨by omega, by omega⟩ ⟨by omega, by omega⟩ (fun c26 => ?_) (fun c26 => ?_)
      · exact v_vret dX6_skipBlanks_78 rfl (Nat.le_refl _) (Nat.le_refl _) (by rw [sk_no (p := s) (by omega)] at h_2; rw [h_2] at hp; exact hp)
      · refine v_aload_0 dX6_skipBlanks_29 ?_
        refine g_X6_36 rfl dX6_skipBlanks_30 (gs_eq hK) ?_
        refine v_sipush dX6_skipBlanks_33 (by decide) ?_
        refine v_icmp_ge (tgt := 78) dX6_skipBlanks_36 rfl ⟨by omega, by omega⟩ ⟨by omega, by omega⟩ (fun c36 => absurd c36 (by omega)) (fun c36 => ?_)
        refine v_aload_0 dX6_skipBlanks_39 ?_
        refine g_X6_9 rfl dX6_skipBlanks_40 (gs_eq hK) ?_
        refine g_X6_58 rfl dX6_skipBlanks_43 (gs_ne hta hT) ?_
        refine v_aload_0 dX6_skipBlanks_46 ?_
        refine g_X6_36 rfl dX6_skipBlanks_47 (gs_eq hK) ?_
        refine v_baload dX6_skipBlanks_50 (gs_ne htb hB) (by omega) (by omega) (by decide) ?_
        have hc := hcb s (by omega) (by omega)
        have h8 := hT8 s (by omega) (by omega)
        have hs := sg_ok h8.1 h8.2
        rw [← hc] at hs
        refine v_istore_1 dX6_skipBlanks_51 (Nat.le_of_ble_eq_true rfl) rfl ?_
        refine v_iload_1 dX6_skipBlanks_52 ?_
        refine v_bipush dX6_skipBlanks_53 (by decide) ?_
        refine v_icmp_eq (tgt := 65) dX6_skipBlanks_55 rfl ⟨by omega, by omega⟩ ⟨by omega, by omega⟩ (fun c55 => ?_) (fun c55 => ?_)
        · refine v_aload_0 dX6_skipBlanks_65 ?_
          refine v_dupr dX6_skipBlanks_66 ?_
          refine g_X6_36 rfl dX6_skipBlanks_67 (gs_eq hK) ?_
          refine v_iconst dX6_skipBlanks_70 ?_
          refine v_iadd dX6_skipBlanks_71 ?_
          refine p_X6_36 rfl dX6_skipBlanks_72 (gs_eq hK) ?_
          rw [gs_gs]
          refine v_goto (tgt := 8) dX6_skipBlanks_75 rfl ?_
          exact v_weak [some (rr E t), none] ⟨rfl, trivial⟩ (ih (s + 1) (by omega) (by omega) (by rw [h_2]; exact sk_st (by omega) (by omega)) (by omega))
        · refine v_iload_1 dX6_skipBlanks_58 ?_
          refine v_bipush dX6_skipBlanks_59 (by decide) ?_
          refine v_icmp_eq (tgt := 65) dX6_skipBlanks_61 rfl ⟨by omega, by omega⟩ ⟨by omega, by omega⟩ (fun c61 => ?_) (fun c61 => ?_)
          · refine v_aload_0 dX6_skipBlanks_65 ?_
            refine v_dupr dX6_skipBlanks_66 ?_
            refine g_X6_36 rfl dX6_skipBlanks_67 (gs_eq hK) ?_
            refine v_iconst dX6_skipBlanks_70 ?_
            refine v_iadd dX6_skipBlanks_71 ?_
            refine p_X6_36 rfl dX6_skipBlanks_72 (gs_eq hK) ?_
            rw [gs_gs]
            refine v_goto (tgt := 8) dX6_skipBlanks_75 rfl ?_
            exact v_weak [some (rr E t), none] ⟨rfl, trivial⟩ (ih (s + 1) (by omega) (by omega) (by rw [h_2]; exact sk_st (by omega) (by omega)) (by omega))
          · exact v_vret dX6_skipBlanks_64 rfl (Nat.le_refl _) (Nat.le_refl _) (by rw [sk_no (p := s) (by omega)] at h_2; rw [h_2] at hp; exact hp)
  refine Cn.of (L := [some (rr E t), none]) (by decide) (Nat.le_of_ble_eq_true rfl) rfl ?_
  refine v_aload_0 dX6_skipBlanks_0 ?_
  refine v_aload_0 dX6_skipBlanks_1 ?_
  refine g_X6_15 rfl dX6_skipBlanks_2 hK ?_
  refine p_X6_36 rfl dX6_skipBlanks_5 hK ?_
  exact lp 641 p (by omega) (by omega) rfl (by omega)

set_option maxRecDepth 100000 in
theorem tl_X6_scanRun {E : Ev} {M : Mem} {Post : Option Value → Mem → Prop} {t a : Nat} {T : Int → Int} {f1 f2 f3 f4 : Value} {q s : Int} (hK : M[t]? = some (ob 6 [rr E a, f1, f2, f3, f4])) (hs : s - q ≤ 700) (hp : Post none (M.set t (ob 6 [rr E a, iv (rnK T q (s - q).toNat), iv q, iv s, iv (nmF T q (s - q).toNat)]))) : V E rX6_scanRun mX6_scanRun (finM E rX6_scanRun Post) 0 0 (M.set t (ob 6 [rr E a, f1, iv q, iv s, iv (nmF T q (s - q).toNat)])) 123 [some (rr E t), some (iv (lC T q (s - q).toNat)), some (iv (dC T q (s - q).toNat)), none] [] := by
  refine v_iload_1 dX6_scanRun_123 ?_
  have hl := lC_bd T q (s - q).toNat
  have hd := dC_bd T q (s - q).toNat
  refine v_if_le (tgt := 139) dX6_scanRun_124 rfl ⟨by omega, by omega⟩ (fun c124 => ?_) (fun c124 => ?_)
  · refine v_iload_1 dX6_scanRun_139 ?_
    refine v_if_ne (tgt := 161) dX6_scanRun_140 rfl ⟨by omega, by omega⟩ (fun c140 => ?_) (fun c140 => ?_)
    · refine v_aload_0 dX6_scanRun_161 ?_
      refine v_iconst dX6_scanRun_162 ?_
      refine p_X6_39 rfl dX6_scanRun_163 (gs_eq hK) ?_
      rw [gs_gs]
      exact v_vret dX6_scanRun_166 rfl (Nat.le_refl _) (Nat.le_refl _) (by rw [show rnK T q (s - q).toNat = 0 from (if_neg (by omega)).trans (if_neg (by omega))] at hp; exact hp)
    · refine v_iload_2 dX6_scanRun_143 ?_
      refine v_iconst dX6_scanRun_144 ?_
      refine v_icmp_lt (tgt := 161) dX6_scanRun_145 rfl ⟨by omega, by omega⟩ ⟨by omega, by omega⟩ (fun c145 => ?_) (fun c145 => ?_)
      · refine v_aload_0 dX6_scanRun_161 ?_
        refine v_iconst dX6_scanRun_162 ?_
        refine p_X6_39 rfl dX6_scanRun_163 (gs_eq hK) ?_
        rw [gs_gs]
        exact v_vret dX6_scanRun_166 rfl (Nat.le_refl _) (Nat.le_refl _) (by rw [show rnK T q (s - q).toNat = 0 from (if_neg (by omega)).trans (if_neg (by omega))] at hp; exact hp)
      · refine v_iload_2 dX6_scanRun_148 ?_
        refine v_iconst dX6_scanRun_149 ?_
        refine v_icmp_gt (tgt := 161) dX6_scanRun_150 rfl ⟨by omega, by omega⟩ ⟨by omega, by omega⟩ (fun c150 => ?_) (fun c150 => ?_)
        · refine v_aload_0 dX6_scanRun_161 ?_
          refine v_iconst dX6_scanRun_162 ?_
          refine p_X6_39 rfl dX6_scanRun_163 (gs_eq hK) ?_
          rw [gs_gs]
          exact v_vret dX6_scanRun_166 rfl (Nat.le_refl _) (Nat.le_refl _) (by rw [show rnK T q (s - q).toNat = 0 from (if_neg (by omega)).trans (if_neg (by omega))] at hp; exact hp)
        · refine v_aload_0 dX6_scanRun_153 ?_
          refine v_iconst dX6_scanRun_154 ?_
          refine p_X6_39 rfl dX6_scanRun_155 (gs_eq hK) ?_
          rw [gs_gs]
          refine v_goto (tgt := 166) dX6_scanRun_158 rfl ?_
          exact v_vret dX6_scanRun_166 rfl (Nat.le_refl _) (Nat.le_refl _) (by rw [show rnK T q (s - q).toNat = 2 from (if_neg (by omega)).trans (if_pos (by omega))] at hp; exact hp)
  · refine v_iload_2 dX6_scanRun_127 ?_
    refine v_if_ne (tgt := 139) dX6_scanRun_128 rfl ⟨by omega, by omega⟩ (fun c128 => ?_) (fun c128 => ?_)
    · refine v_iload_1 dX6_scanRun_139 ?_
      refine v_if_ne (tgt := 161) dX6_scanRun_140 rfl ⟨by omega, by omega⟩ (fun c140 => ?_) (fun c140 => ?_)
      · refine v_aload_0 dX6_scanRun_161 ?_
        refine v_iconst dX6_scanRun_162 ?_
        refine p_X6_39 rfl dX6_scanRun_163 (gs_eq hK) ?_
        rw [gs_gs]
        exact v_vret dX6_scanRun_166 rfl (Nat.le_refl _) (Nat.le_refl _) (by rw [show rnK T q (s - q).toNat = 0 from (if_neg (by omega)).trans (if_neg (by omega))] at hp; exact hp)
      · refine v_iload_2 dX6_scanRun_143 ?_
        refine v_iconst dX6_scanRun_144 ?_
        refine v_icmp_lt (tgt := 161) dX6_scanRun_145 rfl ⟨by omega, by omega⟩ ⟨by omega, by omega⟩ (fun c145 => ?_) (fun c145 => ?_)
        · refine v_aload_0 dX6_scanRun_161 ?_
          refine v_iconst dX6_scanRun_162 ?_
          refine p_X6_39 rfl dX6_scanRun_163 (gs_eq hK) ?_
          rw [gs_gs]
          exact v_vret dX6_scanRun_166 rfl (Nat.le_refl _) (Nat.le_refl _) (by rw [show rnK T q (s - q).toNat = 0 from (if_neg (by omega)).trans (if_neg (by omega))] at hp; exact hp)
        · refine v_iload_2 dX6_scanRun_148 ?_
          refine v_iconst dX6_scanRun_149 ?_
          refine v_icmp_gt (tgt := 161) dX6_scanRun_150 rfl ⟨by omega, by omega⟩ ⟨by omega, by omega⟩ (fun c150 => ?_) (fun c150 => ?_)
          · refine v_aload_0 dX6_scanRun_161 ?_
            refine v_iconst dX6_scanRun_162 ?_
            refine p_X6_39 rfl dX6_scanRun_163 (gs_eq hK) ?_
            rw [gs_gs]
            exact v_vret dX6_scanRun_166 rfl (Nat.le_refl _) (Nat.le_refl _) (by rw [show rnK T q (s - q).toNat = 0 from (if_neg (by omega)).trans (if_neg (by omega))] at hp; exact hp)
          · refine v_aload_0 dX6_scanRun_153 ?_
            refine v_iconst dX6_scanRun_154 ?_
            refine p_X6_39 rfl dX6_scanRun_155 (gs_eq hK) ?_
            rw [gs_gs]
            refine v_goto (tgt := 166) dX6_scanRun_158 rfl ?_
            exact v_vret dX6_scanRun_166 rfl (Nat.le_refl _) (Nat.le_refl _) (by rw [show rnK T q (s - q).toNat = 2 from (if_neg (by omega)).trans (if_pos (by omega))] at hp; exact hp)
    · refine v_aload_0 dX6_scanRun_131 ?_
      refine v_iconst dX6_scanRun_132 ?_
      refine p_X6_39 rfl dX6_scanRun_133 (gs_eq hK) ?_
      rw [gs_gs]
      refine v_goto (tgt := 166) dX6_scanRun_136 rfl ?_
      exact v_vret dX6_scanRun_166 rfl (Nat.le_refl _) (Nat.le_refl _) (by rw [show rnK T q (s - q).toNat = 1 from if_pos (by omega)] at hp; exact hp)

set_option maxRecDepth 100000 in
theorem c_X6_scanRun {E : Ev} {M : Mem} {Post : Option Value → Mem → Prop} {t a b : Nat} {T : Int → Int} {L : Int} (hA : TA E M a b T L) (hta : t ≠ a) {f1 f3 f4 : Value} {q : Int} (hK : M[t]? = some (ob 6 [rr E a, f1, iv q, f3, f4])) (q0 : 0 ≤ q) (q1 : q ≤ L) (hp : Post none (M.set t (ob 6 [rr E a, iv (rnK T q (rnB T L q - q).toNat), iv q, iv (rnB T L q), iv (nmF T q (rnB T L q - q).toNat)]))) : Cn E rX6_scanRun mX6_scanRun [rr E t] M Post := by
  obtain ⟨hT, ⟨cb, hB, hcb⟩, hT8, L0, L1⟩ := hA
  have htb : t ≠ b := (ob_ia hK hB).symm
  have lp : ∀ (r : Nat) (s : Int), (q ≤ s) → (s ≤ L) → (rnB T L q = rnB T L s) → L - s < (r : Int) → V E rX6_scanRun mX6_scanRun (finM E rX6_scanRun Post) 0 0 (M.set t (ob 6 [rr E a, f1, iv q, iv s, iv (nmF T q (s - q).toNat)])) 17 [some (rr E t), some (iv (lC T q (s - q).toNat)), some (iv (dC T q (s - q).toNat)), none] [] := by
    intro r
    induction r with
    | zero => intro s h_0 h_1 h_2 hz; exact absurd hz (by omega)
    | succ r ih =>
      intro s h_0 h_1 h_2 hz
      refine v_aload_0 dX6_scanRun_17 ?_
      refine g_X6_15 rfl dX6_scanRun_18 (gs_eq hK) ?_
      refine v_if_lt (tgt := 123) dX6_scanRun_21 rfl ⟨by omega, by omega⟩ (fun c21 => absurd c21 (by omega)) (fun c21 => ?_)
      refine v_aload_0 dX6_scanRun_24 ?_
      refine g_X6_15 rfl dX6_scanRun_25 (gs_eq hK) ?_
      refine v_aload_0 dX6_scanRun_28 ?_
      refine g_X6_9 rfl dX6_scanRun_29 (gs_eq hK) ?_
      refine g_X6_25 rfl dX6_scanRun_32 (gs_ne hta hT) ?_
      refine v_icmp_ge (tgt := 123) dX6_scanRun_35 rfl ⟨by omega, by omega⟩ ⟨by omega, by omega⟩ (fun c35 => ?_) (fun c35 => ?_)
      · exact v_weak [some (rr E t), some (iv (lC T q (s - q).toNat)), some (iv (dC T q (s - q).toNat)), none] ⟨rfl, rfl, rfl, trivial⟩ (tl_X6_scanRun hK (by omega) (by rw [rn_no (p := s) (by omega)] at h_2; rw [h_2] at hp; exact hp))
      · refine v_aload_0 dX6_scanRun_38 ?_
        refine g_X6_15 rfl dX6_scanRun_39 (gs_eq hK) ?_
        refine v_sipush dX6_scanRun_42 (by decide) ?_
        refine v_icmp_ge (tgt := 123) dX6_scanRun_45 rfl ⟨by omega, by omega⟩ ⟨by omega, by omega⟩ (fun c45 => absurd c45 (by omega)) (fun c45 => ?_)
        refine v_aload_0 dX6_scanRun_48 ?_
        refine g_X6_9 rfl dX6_scanRun_49 (gs_eq hK) ?_
        refine g_X6_58 rfl dX6_scanRun_52 (gs_ne hta hT) ?_
        refine v_aload_0 dX6_scanRun_55 ?_
        refine g_X6_15 rfl dX6_scanRun_56 (gs_eq hK) ?_
        refine v_baload dX6_scanRun_59 (gs_ne htb hB) (by omega) (by omega) (by decide) ?_
        have hc := hcb s (by omega) (by omega)
        have h8 := hT8 s (by omega) (by omega)
        have hs := sg_ok h8.1 h8.2
        rw [← hc] at hs
        refine v_istore_3 dX6_scanRun_60 (Nat.le_of_ble_eq_true rfl) rfl ?_
        refine v_iload_3 dX6_scanRun_61 ?_
        refine v_bipush dX6_scanRun_62 (by decide) ?_
        refine v_icmp_lt (tgt := 95) dX6_scanRun_64 rfl ⟨by omega, by omega⟩ ⟨by omega, by omega⟩ (fun c64 => ?_) (fun c64 => ?_)
        · refine v_iload_3 dX6_scanRun_95 ?_
          refine v_bipush dX6_scanRun_96 (by decide) ?_
          refine v_icmp_lt (tgt := 123) dX6_scanRun_98 rfl ⟨by omega, by omega⟩ ⟨by omega, by omega⟩ (fun c98 => ?_) (fun c98 => ?_)
          · exact v_weak [some (rr E t), some (iv (lC T q (s - q).toNat)), some (iv (dC T q (s - q).toNat)), none] ⟨rfl, rfl, rfl, trivial⟩ (tl_X6_scanRun hK (by omega) (by rw [rn_no (p := s) (by omega)] at h_2; rw [h_2] at hp; exact hp))
          · refine v_iload_3 dX6_scanRun_101 ?_
            refine v_bipush dX6_scanRun_102 (by decide) ?_
            refine v_icmp_gt (tgt := 123) dX6_scanRun_104 rfl ⟨by omega, by omega⟩ ⟨by omega, by omega⟩ (fun c104 => ?_) (fun c104 => ?_)
            · exact v_weak [some (rr E t), some (iv (lC T q (s - q).toNat)), some (iv (dC T q (s - q).toNat)), none] ⟨rfl, rfl, rfl, trivial⟩ (tl_X6_scanRun hK (by omega) (by rw [rn_no (p := s) (by omega)] at h_2; rw [h_2] at hp; exact hp))
            · refine v_iinc_1 dX6_scanRun_107 (Nat.le_of_ble_eq_true rfl) rfl ?_
              refine v_aload_0 dX6_scanRun_110 ?_
              refine v_dupr dX6_scanRun_111 ?_
              refine g_X6_15 rfl dX6_scanRun_112 (gs_eq hK) ?_
              refine v_iconst dX6_scanRun_115 ?_
              refine v_iadd dX6_scanRun_116 ?_
              refine p_X6_15 rfl dX6_scanRun_117 (gs_eq hK) ?_
              rw [gs_gs]
              refine v_goto (tgt := 17) dX6_scanRun_120 rfl ?_
              have tt := ih (s + 1) (by omega) (by omega) (by rw [h_2]; exact rn_st (by omega) (by omega)) (by omega)
              rw [lC_st T h_0, if_pos (by omega), dC_st T h_0, if_neg (by omega), Int.add_zero, nm_st T h_0, if_neg (by omega)] at tt
              exact v_weak [some (rr E t), some (iv (lC T q (s - q).toNat + 1)), some (iv (dC T q (s - q).toNat)), none] ⟨rfl, rfl, rfl, trivial⟩ tt
        · refine v_iload_3 dX6_scanRun_67 ?_
          refine v_bipush dX6_scanRun_68 (by decide) ?_
          refine v_icmp_gt (tgt := 95) dX6_scanRun_70 rfl ⟨by omega, by omega⟩ ⟨by omega, by omega⟩ (fun c70 => ?_) (fun c70 => ?_)
          · refine v_iload_3 dX6_scanRun_95 ?_
            refine v_bipush dX6_scanRun_96 (by decide) ?_
            refine v_icmp_lt (tgt := 123) dX6_scanRun_98 rfl ⟨by omega, by omega⟩ ⟨by omega, by omega⟩ (fun c98 => ?_) (fun c98 => ?_)
            · exact v_weak [some (rr E t), some (iv (lC T q (s - q).toNat)), some (iv (dC T q (s - q).toNat)), none] ⟨rfl, rfl, rfl, trivial⟩ (tl_X6_scanRun hK (by omega) (by rw [rn_no (p := s) (by omega)] at h_2; rw [h_2] at hp; exact hp))
            · refine v_iload_3 dX6_scanRun_101 ?_
              refine v_bipush dX6_scanRun_102 (by decide) ?_
              refine v_icmp_gt (tgt := 123) dX6_scanRun_104 rfl ⟨by omega, by omega⟩ ⟨by omega, by omega⟩ (fun c104 => ?_) (fun c104 => ?_)
              · exact v_weak [some (rr E t), some (iv (lC T q (s - q).toNat)), some (iv (dC T q (s - q).toNat)), none] ⟨rfl, rfl, rfl, trivial⟩ (tl_X6_scanRun hK (by omega) (by rw [rn_no (p := s) (by omega)] at h_2; rw [h_2] at hp; exact hp))
              · refine v_iinc_1 dX6_scanRun_107 (Nat.le_of_ble_eq_true rfl) rfl ?_
                refine v_aload_0 dX6_scanRun_110 ?_
                refine v_dupr dX6_scanRun_111 ?_
                refine g_X6_15 rfl dX6_scanRun_112 (gs_eq hK) ?_
                refine v_iconst dX6_scanRun_115 ?_
                refine v_iadd dX6_scanRun_116 ?_
                refine p_X6_15 rfl dX6_scanRun_117 (gs_eq hK) ?_
                rw [gs_gs]
                refine v_goto (tgt := 17) dX6_scanRun_120 rfl ?_
                have tt := ih (s + 1) (by omega) (by omega) (by rw [h_2]; exact rn_st (by omega) (by omega)) (by omega)
                rw [lC_st T h_0, if_pos (by omega), dC_st T h_0, if_neg (by omega), Int.add_zero, nm_st T h_0, if_neg (by omega)] at tt
                exact v_weak [some (rr E t), some (iv (lC T q (s - q).toNat + 1)), some (iv (dC T q (s - q).toNat)), none] ⟨rfl, rfl, rfl, trivial⟩ tt
          · refine v_iinc_2 dX6_scanRun_73 (Nat.le_of_ble_eq_true rfl) rfl ?_
            refine v_aload_0 dX6_scanRun_76 ?_
            refine v_aload_0 dX6_scanRun_77 ?_
            refine g_X6_62 rfl dX6_scanRun_78 (gs_eq hK) ?_
            refine v_bipush dX6_scanRun_81 (by decide) ?_
            refine v_imul dX6_scanRun_83 ?_
            refine v_iload_3 dX6_scanRun_84 ?_
            refine v_bipush dX6_scanRun_85 (by decide) ?_
            refine v_isub dX6_scanRun_87 ?_
            refine v_iadd dX6_scanRun_88 ?_
            refine p_X6_62 rfl dX6_scanRun_89 (gs_eq hK) ?_
            rw [gs_gs]
            refine v_goto (tgt := 110) dX6_scanRun_92 rfl ?_
            refine v_aload_0 dX6_scanRun_110 ?_
            refine v_dupr dX6_scanRun_111 ?_
            refine g_X6_15 rfl dX6_scanRun_112 (gs_eq hK) ?_
            refine v_iconst dX6_scanRun_115 ?_
            refine v_iadd dX6_scanRun_116 ?_
            refine p_X6_15 rfl dX6_scanRun_117 (gs_eq hK) ?_
            rw [gs_gs]
            refine v_goto (tgt := 17) dX6_scanRun_120 rfl ?_
            have e : cb s = T s := by omega
            rw [e]
            have tt := ih (s + 1) (by omega) (by omega) (by rw [h_2]; exact rn_st (by omega) (by omega)) (by omega)
            rw [lC_st T h_0, if_neg (by omega), Int.add_zero, dC_st T h_0, if_pos (by omega), nm_st T h_0, if_pos (by omega)] at tt
            exact v_weak [some (rr E t), some (iv (lC T q (s - q).toNat)), some (iv (dC T q (s - q).toNat + 1)), none] ⟨rfl, rfl, rfl, trivial⟩ tt
  refine Cn.of (L := [some (rr E t), none, none, none]) (by decide) (Nat.le_of_ble_eq_true rfl) rfl ?_
  refine v_iconst dX6_scanRun_0 ?_
  refine v_istore_1 dX6_scanRun_1 (Nat.le_of_ble_eq_true rfl) rfl ?_
  refine v_iconst dX6_scanRun_2 ?_
  refine v_istore_2 dX6_scanRun_3 (Nat.le_of_ble_eq_true rfl) rfl ?_
  refine v_aload_0 dX6_scanRun_4 ?_
  refine v_iconst dX6_scanRun_5 ?_
  refine p_X6_62 rfl dX6_scanRun_6 hK ?_
  refine v_aload_0 dX6_scanRun_9 ?_
  refine v_aload_0 dX6_scanRun_10 ?_
  refine g_X6_36 rfl dX6_scanRun_11 (gs_eq hK) ?_
  refine p_X6_15 rfl dX6_scanRun_14 (gs_eq hK) ?_
  rw [gs_gs]
  have t := lp 641 q (by omega) (by omega) rfl (by omega)
  rw [Int.sub_self] at t
  exact t

/-- the token that is looked at -/
def TkAt (E : Ev) (M : Mem) (t a : Nat) (T : Int → Int) (L p : Int) : Prop := ∃ z, M[t]? = some (ob 6 [rr E a, iv (tkK T L p), iv (tkS T L p), iv (tkB T L p), iv z]) ∧ (tkK T L p = 2 → z = tkN T L p)
theorem TkAt.mk {E : Ev} {M : Mem} {t a : Nat} {T : Int → Int} {L p k s b z : Int} (hM : M[t]? = some (ob 6 [rr E a, iv k, iv s, iv b, iv z])) (e1 : k = tkK T L p) (e2 : s = tkS T L p) (e3 : b = tkB T L p) (e4 : tkK T L p = 2 → z = tkN T L p) : TkAt E M t a T L p := by
  subst e1 e2 e3
  exact ⟨z, hM, e4⟩

theorem TA.keep {E : Ev} {M : Mem} {t a b : Nat} {T : Int → Int} {L : Int} {e : va_E} (hA : TA E M a b T L) (hta : t ≠ a) (htb : t ≠ b) : TA E (M.set t e) a b T L := by
  obtain ⟨hT, ⟨cb, hB, hcb⟩, hT8, L0, L1⟩ := hA
  exact ⟨gs_ne hta hT, ⟨cb, gs_ne htb hB, hcb⟩, hT8, L0, L1⟩

set_option maxRecDepth 100000 in
theorem c_X6_moveToNext {E : Ev} {M : Mem} {Post : Option Value → Mem → Prop} {t a b : Nat} {T : Int → Int} {L : Int} (hA : TA E M a b T L) (hta : t ≠ a) {f1 f2 : Value} {p f4 : Int} (hK : M[t]? = some (ob 6 [rr E a, f1, f2, iv p, iv f4])) (p0 : 0 ≤ p) (p1 : p ≤ L) (hp : ∀ M2, TkAt E M2 t a T L p → Fr t (t + 1) M M2 → Post none M2) : Cn E rX6_moveToNext mX6_moveToNext [rr E t] M Post := by
  obtain ⟨hT, ⟨cb, hB, hcb⟩, hT8, L0, L1⟩ := id hA
  have htb : t ≠ b := (ob_ia hK hB).symm
  refine Cn.of (L := [some (rr E t), none]) (by decide) (Nat.le_of_ble_eq_true rfl) rfl ?_
  refine v_aload_0 dX6_moveToNext_0 ?_
  refine l_X6_22 rfl dX6_moveToNext_1 hK ⟨Nat.le_of_ble_eq_true rfl, Nat.le_of_ble_eq_true rfl⟩ (Nat.le_of_ble_eq_true rfl) ⟨Nat.le_refl _, Nat.le_refl _⟩ (c_X6_skipBlanks hA hta hK p0 p1 ?_)
  have hq := sk_bd T L p
  refine v_aload_0 dX6_moveToNext_4 ?_
  refine g_X6_9 rfl dX6_moveToNext_5 (gs_eq hK) ?_
  refine g_X6_25 rfl dX6_moveToNext_8 (gs_ne hta hA.1) ?_
  refine v_sipush dX6_moveToNext_11 (by decide) ?_
  refine l_X6_30 rfl dX6_moveToNext_14 ⟨by omega, by omega⟩ ⟨by omega, by omega⟩ (Nat.le_of_ble_eq_true rfl) (Nat.le_of_ble_eq_true rfl) ⟨Nat.le_refl _, Nat.le_refl _⟩ ?_
  refine v_istore_1 dX6_moveToNext_17 (Nat.le_of_ble_eq_true rfl) rfl ?_
  refine v_aload_0 dX6_moveToNext_18 ?_
  refine g_X6_36 rfl dX6_moveToNext_19 (gs_eq hK) ?_
  refine v_iload_1 dX6_moveToNext_22 ?_
  refine v_icmp_lt (tgt := 61) dX6_moveToNext_23 rfl ⟨by omega, by omega⟩ ⟨by omega, by omega⟩ (fun c23 => ?_) (fun c23 => ?_)
  · refine v_aload_0 dX6_moveToNext_61 ?_
    refine g_X6_9 rfl dX6_moveToNext_62 (gs_eq hK) ?_
    refine v_aload_0 dX6_moveToNext_65 ?_
    refine g_X6_36 rfl dX6_moveToNext_66 (gs_eq hK) ?_
    refine l_X6_42 rfl dX6_moveToNext_69 (gs_ne hta hA.1) ⟨Nat.le_of_ble_eq_true rfl, Nat.le_of_ble_eq_true rfl⟩ (Nat.le_of_ble_eq_true rfl) ⟨Nat.le_refl _, Nat.le_refl _⟩ (c_X4_byteAt (gs_ne hta hT) (gs_ne htb hB) ⟨by omega, by omega⟩ L0 L1 (fun y0 y1 => ?_) (fun y => absurd ⟨by omega, by omega⟩ y))
    rw [hcb _ (by omega) (by omega)]
    have h8 := hT8 (skB T L p) (by omega) (by omega)
    have hs := sg_ok h8.1 h8.2
    rw [show sg (T (skB T L p)) % 256 = T (skB T L p) by omega]
    refine v_bipush dX6_moveToNext_72 (by decide) ?_
    refine v_icmp_ne (tgt := 95) dX6_moveToNext_74 rfl ⟨by omega, by omega⟩ ⟨by omega, by omega⟩ (fun c74 => ?_) (fun c74 => ?_)
    · refine v_aload_0 dX6_moveToNext_95 ?_
      refine l_X6_46 rfl dX6_moveToNext_96 (gs_eq hK) ⟨Nat.le_of_ble_eq_true rfl, Nat.le_of_ble_eq_true rfl⟩ (Nat.le_of_ble_eq_true rfl) ⟨Nat.le_refl _, Nat.le_refl _⟩ (c_X6_scanRun (hA.keep hta htb) hta (gs_eq hK) (by omega) (by omega) ?_)
      rw [gs_gs]
      exact v_vret dX6_moveToNext_99 rfl (Nat.le_refl _) (Nat.le_refl _) (hp _ (TkAt.mk (k := (rnK T (skB T L p) (rnB T L (skB T L p) - (skB T L p)).toNat)) (s := (skB T L p)) (b := (rnB T L (skB T L p))) (z := (nmF T (skB T L p) (rnB T L (skB T L p) - (skB T L p)).toNat)) (gs_eq hK) (by unfold tkK; rw [if_neg (by omega), if_neg (by omega)]) (by unfold tkS; rw [if_neg (by omega)]) (by unfold tkB; rw [if_neg (by omega), if_neg (by omega)]) (fun _ => rfl)) (Fr.set (Nat.le_refl t) (Nat.lt_succ_self t)))
    · refine v_aload_0 dX6_moveToNext_77 ?_
      refine v_aload_0 dX6_moveToNext_78 ?_
      refine g_X6_36 rfl dX6_moveToNext_79 (gs_eq hK) ?_
      refine v_iconst dX6_moveToNext_82 ?_
      refine v_iadd dX6_moveToNext_83 ?_
      refine p_X6_15 rfl dX6_moveToNext_84 (gs_eq hK) ?_
      rw [gs_gs]
      refine v_aload_0 dX6_moveToNext_87 ?_
      refine v_iconst dX6_moveToNext_88 ?_
      refine p_X6_39 rfl dX6_moveToNext_89 (gs_eq hK) ?_
      rw [gs_gs]
      refine v_goto (tgt := 99) dX6_moveToNext_92 rfl ?_
      exact v_vret dX6_moveToNext_99 rfl (Nat.le_refl _) (Nat.le_refl _) (hp _ (TkAt.mk (k := 3) (s := (skB T L p)) (b := ((skB T L p) + 1)) (z := f4) (gs_eq hK) (by unfold tkK; rw [if_neg (by omega), if_pos (by omega)]) (by unfold tkS; rw [if_neg (by omega)]) (by unfold tkB; rw [if_neg (by omega), if_pos (by omega)]) ((fun q => absurd q (by unfold tkK; rw [if_neg (by omega), if_pos (by omega)]; decide)))) (Fr.set (Nat.le_refl t) (Nat.lt_succ_self t)))
  · refine v_aload_0 dX6_moveToNext_26 ?_
    refine v_iload_1 dX6_moveToNext_27 ?_
    refine p_X6_36 rfl dX6_moveToNext_28 (gs_eq hK) ?_
    rw [gs_gs]
    refine v_aload_0 dX6_moveToNext_31 ?_
    refine v_iload_1 dX6_moveToNext_32 ?_
    refine p_X6_15 rfl dX6_moveToNext_33 (gs_eq hK) ?_
    rw [gs_gs]
    refine v_aload_0 dX6_moveToNext_36 ?_
    refine v_aload_0 dX6_moveToNext_37 ?_
    refine g_X6_9 rfl dX6_moveToNext_38 (gs_eq hK) ?_
    refine g_X6_25 rfl dX6_moveToNext_41 (gs_ne hta hA.1) ?_
    refine v_sipush dX6_moveToNext_44 (by decide) ?_
    refine v_icmp_le (tgt := 54) dX6_moveToNext_47 rfl ⟨by omega, by omega⟩ ⟨by omega, by omega⟩ (fun c47 => ?_) (fun c47 => ?_)
    · refine v_iconst dX6_moveToNext_54 ?_
      refine p_X6_39 rfl dX6_moveToNext_55 (gs_eq hK) ?_
      rw [gs_gs]
      refine v_goto (tgt := 99) dX6_moveToNext_58 rfl ?_
      exact v_vret dX6_moveToNext_99 rfl (Nat.le_refl _) (Nat.le_refl _) (hp _ (TkAt.mk (k := 4) (s := (min L 600)) (b := (min L 600)) (z := f4) (gs_eq hK) (by unfold tkK; rw [if_pos (by omega), if_neg (by omega)]) (by unfold tkS; rw [if_pos (by omega)]) (by unfold tkB; rw [if_pos (by omega)]) ((fun q => absurd q (by unfold tkK; rw [if_pos (by omega), if_neg (by omega)]; decide)))) (Fr.set (Nat.le_refl t) (Nat.lt_succ_self t)))
    · refine v_iconst dX6_moveToNext_50 ?_
      refine v_goto (tgt := 55) dX6_moveToNext_51 rfl ?_
      refine p_X6_39 rfl dX6_moveToNext_55 (gs_eq hK) ?_
      rw [gs_gs]
      refine v_goto (tgt := 99) dX6_moveToNext_58 rfl ?_
      exact v_vret dX6_moveToNext_99 rfl (Nat.le_refl _) (Nat.le_refl _) (hp _ (TkAt.mk (k := 0) (s := (min L 600)) (b := (min L 600)) (z := f4) (gs_eq hK) (by unfold tkK; rw [if_pos (by omega), if_pos (by omega)]) (by unfold tkS; rw [if_pos (by omega)]) (by unfold tkB; rw [if_pos (by omega)]) ((fun q => absurd q (by unfold tkK; rw [if_pos (by omega), if_pos (by omega)]; decide)))) (Fr.set (Nat.le_refl t) (Nat.lt_succ_self t)))

set_option maxRecDepth 100000 in
theorem c_X6_moveToFirst {E : Ev} {M : Mem} {Post : Option Value → Mem → Prop} {t a b : Nat} {T : Int → Int} {L : Int} (hA : TA E M a b T L) (hta : t ≠ a) {f1 f2 f3 : Value} {f4 : Int} (hK : M[t]? = some (ob 6 [rr E a, f1, f2, f3, iv f4])) (hp : ∀ M2, TkAt E M2 t a T L 0 → Fr t (t + 1) M M2 → Post none M2) : Cn E rX6_moveToFirst mX6_moveToFirst [rr E t] M Post := by
  obtain ⟨hT, ⟨cb, hB, hcb⟩, hT8, L0, L1⟩ := id hA
  have htb : t ≠ b := (ob_ia hK hB).symm
  refine Cn.of (L := [some (rr E t)]) (by decide) (Nat.le_of_ble_eq_true rfl) rfl ?_
  refine v_aload_0 dX6_moveToFirst_0 ?_
  refine v_iconst dX6_moveToFirst_1 ?_
  refine p_X6_15 rfl dX6_moveToFirst_2 hK ?_
  refine v_aload_0 dX6_moveToFirst_5 ?_
  refine l_X6_19 rfl dX6_moveToFirst_6 (gs_eq hK) ⟨Nat.le_of_ble_eq_true rfl, Nat.le_of_ble_eq_true rfl⟩ (Nat.le_of_ble_eq_true rfl) ⟨Nat.le_refl _, Nat.le_refl _⟩ (c_X6_moveToNext (hA.keep hta htb) hta (gs_eq hK) (by omega) hA.2.2.2.1 (fun M2 k2 f2 => ?_))
  exact v_vret dX6_moveToFirst_9 rfl (Nat.le_refl _) (Nat.le_refl _) (hp M2 k2 ((Fr.set (Nat.le_refl t) (Nat.lt_succ_self t)).tr f2))
