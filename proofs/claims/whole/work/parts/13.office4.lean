set_option maxRecDepth 100000 in
theorem lp_X2_countReads {E : Ev} {M : Mem} {Post : Option Value → Mem → Prop} {o : Nat} {w : Int → Int} (hO : OffAt E M o w) (hw : WF w) {q : Int} (q0 : 0 ≤ q) (q1 : q < 12) (kx : ∀ h, h = w 0 → V E rX2_countReads mX2_countReads (finM E rX2_countReads Post) 0 0 M 47 [some (rr E o), some (iv (sm (fun r => sm (fun h => if w (50 + 60 * r + h) = 0 then 0 else 1) 0 (w 0).toNat) 0 (q - 0).toNat + sm (fun h => if w (50 + 60 * q + h) = 0 then 0 else 1) 0 (h - 0).toNat)), some (iv q), some (iv h)] []) : V E rX2_countReads mX2_countReads (finM E rX2_countReads Post) 0 0 M 12 [some (rr E o), some (iv (sm (fun r => sm (fun h => if w (50 + 60 * r + h) = 0 then 0 else 1) 0 (w 0).toNat) 0 (q - 0).toNat + sm (fun h => if w (50 + 60 * q + h) = 0 then 0 else 1) 0 ((0 : Int) - 0).toNat)), some (iv q), some (iv (0 : Int))] [] := by
  obtain ⟨g, hg, hg2⟩ := hO.2.2.2.2.1
  have hn := hw.1
  have li : ∀ (r : Nat) (h : Int), (0 ≤ h) → (h ≤ w 0) → w 0 - h < (r : Int) → V E rX2_countReads mX2_countReads (finM E rX2_countReads Post) 0 0 M 12 [some (rr E o), some (iv (sm (fun r => sm (fun h => if w (50 + 60 * r + h) = 0 then 0 else 1) 0 (w 0).toNat) 0 (q - 0).toNat + sm (fun h => if w (50 + 60 * q + h) = 0 then 0 else 1) 0 (h - 0).toNat)), some (iv q), some (iv h)] [] := by
    intro r
    induction r with
    | zero => intro h h_0 h_1 hz; exact absurd hz (by omega)
    | succ r ih =>
      intro h h_0 h_1 hz
      refine v_iload_3 dX2_countReads_12 ?_
      refine v_aload_0 dX2_countReads_13 ?_
      refine g_X2_40 rfl dX2_countReads_14 hO.1 ?_
      refine v_icmp_ge (tgt := 47) dX2_countReads_17 rfl ⟨by omega, by omega⟩ ⟨by omega, by omega⟩ (fun c17 => ?_) (fun c17 => ?_)
      · exact kx h (by omega)
      · refine v_iload_3 dX2_countReads_20 ?_
        refine v_bipush dX2_countReads_21 (by decide) ?_
        refine v_icmp_ge (tgt := 47) dX2_countReads_23 rfl ⟨by omega, by omega⟩ ⟨by omega, by omega⟩ (fun c23 => absurd c23 (by omega)) (fun c23 => ?_)
        refine v_aload_0 dX2_countReads_26 ?_
        refine g_X2_26 rfl dX2_countReads_27 hO.1 ?_
        refine v_iload_2 dX2_countReads_30 ?_
        refine v_aaload (ty := .array .int) dX2_countReads_31 hg rfl rfl (by omega) (by omega) (by decide) ?_
        rw [hg2 _ (by omega) (by omega)]
        obtain ⟨f, hf, hf2⟩ := hO.row (r := q) (by omega) (by omega)
        refine v_iload_3 dX2_countReads_32 ?_
        refine v_iaload dX2_countReads_33 hf (by omega) (by omega) (by decide) ?_
        rw [hf2 _ (by omega) (by omega)]
        have b3 := hw.2.2.2.2.2.2.2.2.2.1 q h (by omega) (by omega) (by omega) (by omega)
        refine v_iconst dX2_countReads_34 ?_
        refine v_icmp_eq (tgt := 41) dX2_countReads_35 rfl ⟨by omega, by omega⟩ ⟨by omega, by omega⟩ (fun c35 => ?_) (fun c35 => ?_)
        · refine v_iinc_3 dX2_countReads_41 (Nat.le_of_ble_eq_true rfl) rfl ?_
          refine v_goto (tgt := 12) dX2_countReads_44 rfl ?_
          exact v_weak [some (rr E o), some (iv (sm (fun r => sm (fun h => if w (50 + 60 * r + h) = 0 then 0 else 1) 0 (w 0).toNat) 0 (q - 0).toNat + sm (fun h => if w (50 + 60 * q + h) = 0 then 0 else 1) 0 ((h + 1) - 0).toNat)), some (iv q), some (iv (h + 1))] ⟨rfl, by rw [sm_st _ h_0]; rw [if_pos (by omega), Int.add_zero], rfl, rfl, trivial⟩ (ih (h + 1) (by omega) (by omega) (by omega))
        · refine v_iinc_1 dX2_countReads_38 (Nat.le_of_ble_eq_true rfl) rfl ?_
          refine v_iinc_3 dX2_countReads_41 (Nat.le_of_ble_eq_true rfl) rfl ?_
          refine v_goto (tgt := 12) dX2_countReads_44 rfl ?_
          exact v_weak [some (rr E o), some (iv (sm (fun r => sm (fun h => if w (50 + 60 * r + h) = 0 then 0 else 1) 0 (w 0).toNat) 0 (q - 0).toNat + sm (fun h => if w (50 + 60 * q + h) = 0 then 0 else 1) 0 ((h + 1) - 0).toNat)), some (iv q), some (iv (h + 1))] ⟨rfl, by rw [sm_st _ h_0]; rw [if_neg (by omega), Int.add_assoc], rfl, rfl, trivial⟩ (ih (h + 1) (by omega) (by omega) (by omega))
  exact li (w 0 + 1).toNat 0 (by omega) (by omega) (by omega)

set_option maxRecDepth 100000 in
theorem c_X2_countReads {E : Ev} {M : Mem} {Post : Option Value → Mem → Prop} {o : Nat} {w : Int → Int} (hO : OffAt E M o w) (hw : WF w) (hp : Post (some (iv (crW w))) M) : Cn E rX2_countReads mX2_countReads [rr E o] M Post := by
  have lp : ∀ (r : Nat) (q : Int), (0 ≤ q) → (q ≤ 12) → 12 - q < (r : Int) → V E rX2_countReads mX2_countReads (finM E rX2_countReads Post) 0 0 M 4 [some (rr E o), some (iv (sm (fun r => sm (fun h => if w (50 + 60 * r + h) = 0 then 0 else 1) 0 (w 0).toNat) 0 (q - 0).toNat)), some (iv q), none] [] := by
    intro r
    induction r with
    | zero => intro q h_0 h_1 hz; exact absurd hz (by omega)
    | succ r ih =>
      intro q h_0 h_1 hz
      refine v_iload_2 dX2_countReads_4 ?_
      refine v_bipush dX2_countReads_5 (by decide) ?_
      refine v_icmp_ge (tgt := 53) dX2_countReads_7 rfl ⟨by omega, by omega⟩ ⟨by omega, by omega⟩ (fun c7 => ?_) (fun c7 => ?_)
      · refine v_iload_1 dX2_countReads_53 ?_
        exact v_iret dX2_countReads_54 rfl (Nat.le_refl _) (Nat.le_refl _) (by rw [show q = 12 by omega]; exact hp)
      · refine v_iconst dX2_countReads_10 ?_
        refine v_istore_3 dX2_countReads_11 (Nat.le_of_ble_eq_true rfl) rfl ?_
        refine v_weak [some (rr E o), some (iv (sm (fun r => sm (fun h => if w (50 + 60 * r + h) = 0 then 0 else 1) 0 (w 0).toNat) 0 (q - 0).toNat + sm (fun h => if w (50 + 60 * q + h) = 0 then 0 else 1) 0 ((0 : Int) - 0).toNat)), some (iv q), some (iv (0 : Int))] ⟨rfl, by rw [sm_z, Int.add_zero], rfl, rfl, trivial⟩ (lp_X2_countReads hO hw h_0 (by omega) (fun h hh => ?_))
        rw [hh]
        refine v_iinc_2 dX2_countReads_47 (Nat.le_of_ble_eq_true rfl) rfl ?_
        refine v_goto (tgt := 4) dX2_countReads_50 rfl ?_
        exact v_weak [some (rr E o), some (iv (sm (fun r => sm (fun h => if w (50 + 60 * r + h) = 0 then 0 else 1) 0 (w 0).toNat) 0 ((q + 1) - 0).toNat)), some (iv (q + 1)), none] ⟨rfl, by rw [sm_st _ h_0, Int.sub_zero (w 0)], rfl, trivial⟩ (ih (q + 1) (by omega) (by omega) (by omega))
  refine Cn.of (L := [some (rr E o), none, none, none]) (by decide) (Nat.le_of_ble_eq_true rfl) rfl ?_
  refine v_iconst dX2_countReads_0 ?_
  refine v_istore_1 dX2_countReads_1 (Nat.le_of_ble_eq_true rfl) rfl ?_
  refine v_iconst dX2_countReads_2 ?_
  refine v_istore_2 dX2_countReads_3 (Nat.le_of_ble_eq_true rfl) rfl ?_
  exact v_weak [some (rr E o), some (iv (sm (fun r => sm (fun h => if w (50 + 60 * r + h) = 0 then 0 else 1) 0 (w 0).toNat) 0 ((0 : Int) - 0).toNat)), some (iv (0 : Int)), none] ⟨rfl, rfl, rfl, trivial⟩ (lp 13 0 (by omega) (by omega) (by omega))

set_option maxRecDepth 100000 in
theorem lp_X2_forecastBehind {E : Ev} {M : Mem} {Post : Option Value → Mem → Prop} {o : Nat} {w : Int → Int} (hO : OffAt E M o w) (hw : WF w) {s k h : Int} (hs : I32 s) (hk : I32 k) (hh : I32 h) (h60 : h < 60) (h0 : 0 ≤ h) {p : UInt32} (hsp : dc p = dc (shF w)) (hp : Post (some (iv (fcO (fcF w s k (h + 1).toNat)))) M) : V E rX2_forecastBehind mX2_forecastBehind (finM E rX2_forecastBehind Post) 0 0 M 31 [some (rr E o), some (iv s), some (iv k), some (iv h), some (fv p), some (fv FP.fconst0), some (iv 0), some (iv 0), none] [] := by
  have lp : ∀ (r : Nat) (x : Int) (F : UInt32) (b : Int), (0 ≤ x) → (x ≤ h + 1) → (fcI (fcF w s k x.toNat) F b) → h + 1 - x < (r : Int) → V E rX2_forecastBehind mX2_forecastBehind (finM E rX2_forecastBehind Post) 0 0 M 31 [some (rr E o), some (iv s), some (iv k), some (iv h), some (fv p), some (fv F), some (iv b), some (iv x), none] [] := by
    intro r
    induction r with
    | zero => intro x F b h_0 h_1 h_2 hz; exact absurd hz (by omega)
    | succ r ih =>
      intro x F b h_0 h_1 h_2 hz
      refine v_iload_7 dX2_forecastBehind_31 ?_
      refine v_iload_3 dX2_forecastBehind_33 ?_
      have b1 := rd_bd hw s k x
      have b2 := fcI_b h_2
      refine v_icmp_gt (tgt := 92) dX2_forecastBehind_34 rfl ⟨by omega, by omega⟩ ⟨by omega, by omega⟩ (fun c34 => ?_) (fun c34 => ?_)
      · refine v_iload_6 dX2_forecastBehind_92 ?_
        refine v_if_eq (tgt := 103) dX2_forecastBehind_94 rfl ⟨by have := fcI_b h_2; omega, by have := fcI_b h_2; omega⟩ (fun c94 => ?_) (fun c94 => ?_)
        · refine v_iconst dX2_forecastBehind_103 ?_
          exact v_iret dX2_forecastBehind_104 rfl (Nat.le_refl _) (Nat.le_refl _) (by rw [fcI_none h_2 c94, show x = h + 1 by omega]; exact hp)
        · refine v_fload_5 dX2_forecastBehind_97 ?_
          refine v_f2i dX2_forecastBehind_99 ?_
          refine v_goto (tgt := 104) dX2_forecastBehind_100 rfl ?_
          exact v_iret dX2_forecastBehind_104 rfl (Nat.le_refl _) (Nat.le_refl _) (by rw [fcI_end h_2 c94, show x = h + 1 by omega]; exact hp)
      · refine v_aload_0 dX2_forecastBehind_37 ?_
        refine v_iload_1 dX2_forecastBehind_38 ?_
        refine v_iload_2 dX2_forecastBehind_39 ?_
        refine v_iload_7 dX2_forecastBehind_40 ?_
        refine l_X2_81 rfl dX2_forecastBehind_42 hO.1 ⟨Nat.le_of_ble_eq_true rfl, Nat.le_of_ble_eq_true rfl⟩ (Nat.le_of_ble_eq_true rfl) ⟨Nat.le_refl _, Nat.le_refl _⟩ (c_X2_readAt hO hw.hr hs hk ⟨by omega, by omega⟩ ?_)
        refine v_istore_8 dX2_forecastBehind_45 (Nat.le_of_ble_eq_true rfl) rfl ?_
        refine v_iload_8 dX2_forecastBehind_47 ?_
        refine v_iconst dX2_forecastBehind_49 ?_
        refine v_icmp_ne (tgt := 56) dX2_forecastBehind_50 rfl ⟨by omega, by omega⟩ ⟨by omega, by omega⟩ (fun c50 => ?_) (fun c50 => ?_)
        · refine v_iload_6 dX2_forecastBehind_56 ?_
          refine v_if_eq (tgt := 78) dX2_forecastBehind_58 rfl ⟨by omega, by omega⟩ (fun c58 => ?_) (fun c58 => ?_)
          · refine v_iload_8 dX2_forecastBehind_78 ?_
            refine v_i2f dX2_forecastBehind_80 ?_
            refine v_fstore_5 dX2_forecastBehind_81 (Nat.le_of_ble_eq_true rfl) rfl ?_
            refine v_iconst dX2_forecastBehind_83 ?_
            refine v_istore_6 dX2_forecastBehind_84 (Nat.le_of_ble_eq_true rfl) rfl ?_
            refine v_iinc_7 dX2_forecastBehind_86 (Nat.le_of_ble_eq_true rfl) rfl ?_
            refine v_goto (tgt := 31) dX2_forecastBehind_89 rfl ?_
            exact v_weak [some (rr E o), some (iv s), some (iv k), some (iv h), some (fv p), some (fv (FP.i2f (Int32.ofInt (rdA w s k x)))), some (iv 1), some (iv (x + 1)), none] ⟨rfl, rfl, rfl, rfl, rfl, rfl, rfl, rfl, trivial⟩ (ih (x + 1) (FP.i2f (Int32.ofInt (rdA w s k x))) 1 (by omega) (by omega) (fcI_first h_0 c50 c58 h_2) (by omega))
          · refine v_fload_5 dX2_forecastBehind_61 ?_
            refine v_fload_4 dX2_forecastBehind_63 ?_
            refine v_iload_8 dX2_forecastBehind_65 ?_
            refine v_i2f dX2_forecastBehind_67 ?_
            refine v_fload_5 dX2_forecastBehind_68 ?_
            refine v_fsub dX2_forecastBehind_70 (fun r70 a70 => ?_)
            refine v_fmul dX2_forecastBehind_71 (fun r71 a71 => ?_)
            refine v_fadd dX2_forecastBehind_72 (fun r72 a72 => ?_)
            refine v_fstore_5 dX2_forecastBehind_73 (Nat.le_of_ble_eq_true rfl) rfl ?_
            refine v_goto (tgt := 86) dX2_forecastBehind_75 rfl ?_
            refine v_iinc_7 dX2_forecastBehind_86 (Nat.le_of_ble_eq_true rfl) rfl ?_
            refine v_goto (tgt := 31) dX2_forecastBehind_89 rfl ?_
            exact v_weak [some (rr E o), some (iv s), some (iv k), some (iv h), some (fv p), some (fv r72), some (iv b), some (iv (x + 1)), none] ⟨rfl, rfl, rfl, rfl, rfl, rfl, rfl, rfl, trivial⟩ (ih (x + 1) r72 b (by omega) (by omega) (fcI_next h_0 c50 c58 hsp h_2 a70 a71 a72) (by omega))
        · refine v_goto (tgt := 86) dX2_forecastBehind_53 rfl ?_
          refine v_iinc_7 dX2_forecastBehind_86 (Nat.le_of_ble_eq_true rfl) rfl ?_
          refine v_goto (tgt := 31) dX2_forecastBehind_89 rfl ?_
          exact v_weak [some (rr E o), some (iv s), some (iv k), some (iv h), some (fv p), some (fv F), some (iv b), some (iv (x + 1)), none] ⟨rfl, rfl, rfl, rfl, rfl, rfl, rfl, rfl, trivial⟩ (ih (x + 1) F b (by omega) (by omega) (fcI_skip h_0 c50 h_2) (by omega))
  exact lp (h + 2).toNat 0 FP.fconst0 0 (by omega) (by omega) (Or.inl ⟨rfl, rfl⟩) (by omega)

set_option maxRecDepth 100000 in
theorem c_X2_forecastBehind {E : Ev} {M : Mem} {Post : Option Value → Mem → Prop} {o : Nat} {w : Int → Int} (hO : OffAt E M o w) (hw : WF w) {s k h : Int} (hs : I32 s) (hk : I32 k) (hh : I32 h) (hp : Post (some (iv (fcW w s k h))) M) : Cn E rX2_forecastBehind mX2_forecastBehind [rr E o, iv s, iv k, iv h] M Post := by
  refine Cn.of (L := [some (rr E o), some (iv s), some (iv k), some (iv h), none, none, none, none, none]) (by decide) (Nat.le_of_ble_eq_true rfl) rfl ?_
  refine v_aload_0 dX2_forecastBehind_0 ?_
  refine v_iload_1 dX2_forecastBehind_1 ?_
  refine v_iload_2 dX2_forecastBehind_2 ?_
  refine v_iload_3 dX2_forecastBehind_3 ?_
  refine l_X2_67 rfl dX2_forecastBehind_4 hO.1 ⟨Nat.le_of_ble_eq_true rfl, Nat.le_of_ble_eq_true rfl⟩ (Nat.le_of_ble_eq_true rfl) ⟨Nat.le_refl _, Nat.le_refl _⟩ (c_X2_hasPlace hO hw.hr hs hk hh ?_)
  refine v_ifne_b (tgt := 12) dX2_forecastBehind_7 rfl (fun hP => ?_) (fun hP => ?_)
  · refine v_aload_0 dX2_forecastBehind_12 ?_
    refine g_X2_30 rfl dX2_forecastBehind_13 hO.1 ?_
    refine v_i2f dX2_forecastBehind_16 ?_
    refine v_ldcf (v := 1120403456) dX2_forecastBehind_17 (pl 590 (by decide +kernel)) ?_
    refine v_fdiv dX2_forecastBehind_19 (fun r19 a19 => ?_)
    refine v_fstore_4 dX2_forecastBehind_20 (Nat.le_of_ble_eq_true rfl) rfl ?_
    refine v_fconst0 dX2_forecastBehind_22 ?_
    refine v_fstore_5 dX2_forecastBehind_23 (Nat.le_of_ble_eq_true rfl) rfl ?_
    refine v_iconst dX2_forecastBehind_25 ?_
    refine v_istore_6 dX2_forecastBehind_26 (Nat.le_of_ble_eq_true rfl) rfl ?_
    refine v_iconst dX2_forecastBehind_28 ?_
    refine v_istore_7 dX2_forecastBehind_29 (Nat.le_of_ble_eq_true rfl) rfl ?_
    exact lp_X2_forecastBehind hO hw hs hk hh (by omega) (by omega) (al_dc a19) (by have e : fcW w s k h = fcO (fcF w s k (h + 1).toNat) := if_pos hP; rw [e] at hp; exact hp)
  · refine v_iconst dX2_forecastBehind_10 ?_
    exact v_iret dX2_forecastBehind_11 rfl (Nat.le_refl _) (Nat.le_refl _) (by have e : fcW w s k h = -1 := if_neg hP; rw [e] at hp; exact hp)

/-- memory outside a stretch is as it was -/
def Fr (lo hi : Nat) (M M2 : Mem) : Prop := M2.length = M.length ∧ ∀ b : Nat, (b < lo ∨ hi ≤ b) → M2[b]? = M[b]?
theorem Fr.rf {lo hi : Nat} {M : Mem} : Fr lo hi M M := ⟨rfl, fun _ _ => rfl⟩
theorem Fr.tr {lo hi : Nat} {M M2 M3 : Mem} (h : Fr lo hi M M2) (h2 : Fr lo hi M2 M3) : Fr lo hi M M3 := ⟨h2.1.trans h.1, fun b hb => (h2.2 b hb).trans (h.2 b hb)⟩
theorem Fr.set {lo hi a : Nat} {M : Mem} {e : va_E} (h : lo ≤ a) (h2 : a < hi) : Fr lo hi M (M.set a e) := ⟨gs_len, fun b hb => List.getElem?_set_ne (by omega)⟩
theorem Fr.wide {lo hi lo2 hi2 : Nat} {M M2 : Mem} (h : Fr lo hi M M2) (h1 : lo2 ≤ lo) (h2 : hi ≤ hi2) : Fr lo2 hi2 M M2 := ⟨h.1, fun b hb => h.2 b (by omega)⟩
theorem Fr.at {lo hi a : Nat} {M M2 : Mem} {x : Option va_E} (h : Fr lo hi M M2) (hx : M[a]? = x) (ha : a < lo ∨ hi ≤ a) : M2[a]? = x := (h.2 a ha).trans hx
/-- where a read of a station and a substance lies in the row -/
def atW (s k h : Int) : Int := 50 + 60 * (3 * s + k) + h
def puW (w : Int → Int) (s k h v : Int) : Int → Int := if Pl w s k h then upI w (atW s k h) (v + 1) else w
/-- no substance of the row has more than five points -/
def P5 (w : Int → Int) : Prop := ∀ k, 0 ≤ k → k < w 1 → w (9 + 13 * k) ≤ 5
theorem WF.p5 {w : Int → Int} (hw : WF w) : P5 w := fun k h0 h1 => by have := hw.2.2.2.2.2.1 k h0 h1; omega
theorem SubAt.keep {E : Ev} {M M2 : Mem} {a : Nat} {w w2 : Int → Int} {k : Int} (h : SubAt E M a w k) (hm : ∀ b, a ≤ b → b < a + 3 → M2[b]? = M[b]?) (hw : ∀ j, 0 ≤ j → j < 50 → w2 j = w j) (hk : 0 ≤ k) (hk3 : k < 3) (hp : k < w 1 → w (9 + 13 * k) ≤ 5) : SubAt E M2 a w2 k := by
  obtain ⟨p, q, n, lv, ix, u1, u2, u3, u4⟩ := h
  refine ⟨p, q, n, lv, ix, by rw [hm a (by omega) (by omega)]; exact u1, by rw [hm (a + 1) (by omega) (by omega)]; exact u2, by rw [hm (a + 2) (by omega) (by omega)]; exact u3, fun hk2 => ?_⟩
  rw [hw 1 (by omega) (by omega)] at hk2
  obtain ⟨v1, v2, v3, v4⟩ := u4 hk2
  have hp := hp hk2
  refine ⟨by rw [hw _ (by omega) (by omega)]; exact v1, by rw [hw _ (by omega) (by omega)]; exact v2, by rw [hw _ (by omega) (by omega)]; exact v3, fun i i0 i1 => ?_⟩
  rw [hw _ (by omega) (by omega), hw _ (by omega) (by omega)]
  exact v4 i i0 i1
theorem OffAt.put {E : Ev} {M : Mem} {o : Nat} {w : Int → Int} (hO : OffAt E M o w) (h5 : P5 w) {s k h v : Int} (hP : Pl w s k h) {f : Int → Int} (hf : M[o + 5 + (s * 3 + k).toNat]? = some (ia E 0 60 f)) (hf2 : ∀ x, 0 ≤ x → x < 60 → f x = w (50 + 60 * (s * 3 + k) + x) - 1) : OffAt E (M.set (o + 5 + (s * 3 + k).toNat) (ia E 0 60 (upI f h v))) o (upI w (atW s k h) (v + 1)) := by
  have lo : ∀ j, j < 50 → upI w (atW s k h) (v + 1) j = w j := fun j hj => upI_n w _ (by unfold atW; omega)
  obtain ⟨hH, ⟨fb, b1, b2⟩, ⟨gs, s1, s2⟩, ⟨fd, d1, d2⟩, ⟨gr, r1, r2⟩, hR, hU⟩ := hO
  refine ⟨?_, ⟨fb, gs_ne (by omega) b1, fun j j0 j1 => by rw [lo _ (by omega)]; exact b2 j j0 j1⟩, ⟨gs, gs_ne (by omega) s1, s2⟩, ⟨fd, gs_ne (by omega) d1, fun j j0 j1 j2 => by rw [lo _ (by omega)]; rw [lo 2 (by omega)] at j2; exact d2 j j0 j1 j2⟩, ⟨gr, gs_ne (by omega) r1, r2⟩, fun r hr => ?_, fun q hq => ?_⟩
  · rw [lo 0 (by omega), lo 1 (by omega), lo 2 (by omega), lo 3 (by omega)]
    exact gs_ne (by omega) hH
  · by_cases e : r = (s * 3 + k).toNat
    · subst e
      refine ⟨upI f h v, gs_eq hf, fun x x0 x1 => ?_⟩
      by_cases ex : x = h
      · subst ex
        rw [upI_s, show 50 + 60 * (((s * 3 + k).toNat : Nat) : Int) + x = atW s k x by unfold atW; omega, upI_s]
        omega
      · rw [upI_n _ _ ex, upI_n _ _ (by unfold atW; omega), hf2 x x0 x1, show (((s * 3 + k).toNat : Nat) : Int) = s * 3 + k by omega]
    · obtain ⟨f3, q1, q2⟩ := hR r hr
      refine ⟨f3, gs_ne (by omega) q1, fun x x0 x1 => ?_⟩
      rw [upI_n _ _ (by unfold atW; omega)]
      exact q2 x x0 x1
  · exact (hU q hq).keep (fun b b0 b1 => List.getElem?_set_ne (by omega)) (fun j _ j1 => lo j j1) (by omega) (by omega) (fun a => h5 q (by omega) a)

set_option maxRecDepth 100000 in
theorem c_X2_putRead {E : Ev} {M : Mem} {Post : Option Value → Mem → Prop} {o : Nat} {w : Int → Int} (hO : OffAt E M o w) (hr : HR w) (h5 : P5 w) {s k h : Int} (hs : I32 s) (hk : I32 k) (hh : I32 h) {v : Int} (hp : ∀ M2, OffAt E M2 o (puW w s k h v) → Fr o (o + 26) M M2 → Post none M2) : Cn E rX2_putRead mX2_putRead [rr E o, iv s, iv k, iv h, iv v] M Post := by
  obtain ⟨g, hg, hg2⟩ := hO.2.2.2.2.1
  refine Cn.of (L := [some (rr E o), some (iv s), some (iv k), some (iv h), some (iv v)]) (by decide) (Nat.le_of_ble_eq_true rfl) rfl ?_
  refine v_aload_0 dX2_putRead_0 ?_
  refine v_iload_1 dX2_putRead_1 ?_
  refine v_iload_2 dX2_putRead_2 ?_
  refine v_iload_3 dX2_putRead_3 ?_
  refine l_X2_67 rfl dX2_putRead_4 hO.1 ⟨Nat.le_of_ble_eq_true rfl, Nat.le_of_ble_eq_true rfl⟩ (Nat.le_of_ble_eq_true rfl) ⟨Nat.le_refl _, Nat.le_refl _⟩ (c_X2_hasPlace hO hr hs hk hh ?_)
  refine v_ifeq_b (tgt := 24) dX2_putRead_7 rfl (fun c => ?_) (fun c => ?_)
  · exact v_vret dX2_putRead_24 rfl (Nat.le_refl _) (Nat.le_refl _) (hp _ (by unfold puW; rw [if_neg c]; exact hO) Fr.rf)
  · refine v_aload_0 dX2_putRead_10 ?_
    refine g_X2_26 rfl dX2_putRead_11 hO.1 ?_
    refine v_iload_1 dX2_putRead_14 ?_
    refine v_iconst dX2_putRead_15 ?_
    refine v_imul dX2_putRead_16 ?_
    refine v_iload_2 dX2_putRead_17 ?_
    refine v_iadd dX2_putRead_18 ?_
    refine v_aaload (ty := .array .int) dX2_putRead_19 hg rfl rfl (by omega) (by omega) (by decide) ?_
    rw [hg2 _ (by omega) (by omega)]
    obtain ⟨f, hf, hf2⟩ := hO.row (r := s * 3 + k) (by omega) (by omega)
    refine v_iload_3 dX2_putRead_20 ?_
    refine v_iload_4 dX2_putRead_21 ?_
    refine v_iastore dX2_putRead_23 hf (by omega) (by omega) (by decide) ?_
    exact v_vret dX2_putRead_24 rfl (Nat.le_refl _) (Nat.le_refl _) (hp _ (by unfold puW; rw [if_pos c]; exact hO.put h5 c hf hf2) (Fr.set (by omega) (by omega)))
