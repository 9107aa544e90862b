def bb1 (n : Nat) : Nat := n - (n / 2 &&& 1431655765)
def bb2 (a : Nat) : Nat := (a &&& 858993459) + (a / 4 &&& 858993459)
def bb3 (b : Nat) : Nat := (b + b / 16) &&& 252645135
def bb4 (c : Nat) : Nat := c + c / 256
def bb5 (d : Nat) : Nat := d + d / 65536
def bb6 (e : Nat) : Nat := e &&& 63
def bbA (n : Nat) : Nat := bb6 (bb5 (bb4 (bb3 (bb2 (bb1 n)))))
def bcN (x : Nat) : Nat := x % 2 + x / 2 % 2 + x / 4 % 2 + x / 8 % 2 + x / 16 % 2 + x / 32 % 2 + x / 64 % 2 + x / 128 % 2 + x / 256 % 2 + x / 512 % 2 + x / 1024 % 2 + x / 2048 % 2
set_option maxRecDepth 100000 in
theorem bc_all : (List.range 4096).all (fun x => Nat.beq (bbA x) (bcN x)) = true := by decide +kernel
theorem us_n {n : Nat} (h : n < 2147483648) (k : Int) (K d : Nat) (hK : (((Int32.ofInt k).toUInt32 &&& Int32.toUInt32 31).toBitVec % 32).toNat = K) (hd : 2 ^ K = d) : ((Int32.ofInt (n : Int)).toUInt32 >>> ((Int32.ofInt k).toUInt32 &&& Int32.toUInt32 31)).toInt32 = Int32.ofInt ((n / d : Nat) : Int) := by
  rw [ushr_k _ k K hK, show (n : Int) % 4294967296 = n by omega]
  subst hd
  rw [Int.natCast_ediv, Int.natCast_pow]
  rfl
theorem an_n {n m : Nat} (hn : n < 2147483648) (hm : m < 2147483648) {y : Int32} (hy : y = Int32.ofInt (m : Int)) : Int32.ofInt (n : Int) &&& y = Int32.ofInt ((n &&& m : Nat) : Int) := by
  rw [hy]
  apply Int32.toBitVec_inj.mp
  apply BitVec.eq_of_toNat_eq
  have hle : n &&& m ≤ n := Nat.and_le_left
  rw [Int32.toBitVec_and, BitVec.toNat_and, i_toNat (by omega) (by omega), i_toNat (by omega) (by omega), i_toNat (by omega) (by omega)]
  simp
theorem bc_ts (P : Int → Bool) : ((bbA (tsN P 12).toNat : Nat) : Int) = pcN P 12 := by
  have tb := ts_bd P 12
  have tp : (2 : Int) ^ 12 = 4096 := rfl
  have h := List.all_eq_true.mp bc_all (tsN P 12).toNat (List.mem_range.mpr (by omega))
  have h := Nat.eq_of_beq_eq_true h
  rw [h]
  have b := fun i hi => ts_bit P 12 i hi
  have c0 := b 0 (by omega)
  have c1 := b 1 (by omega)
  have c2 := b 2 (by omega)
  have c3 := b 3 (by omega)
  have c4 := b 4 (by omega)
  have c5 := b 5 (by omega)
  have c6 := b 6 (by omega)
  have c7 := b 7 (by omega)
  have c8 := b 8 (by omega)
  have c9 := b 9 (by omega)
  have c10 := b 10 (by omega)
  have c11 := b 11 (by omega)
  have e : pcN P 12 = (if P ((0 : Nat) : Int) = true then 1 else 0) + (if P ((1 : Nat) : Int) = true then 1 else 0) + (if P ((2 : Nat) : Int) = true then 1 else 0) + (if P ((3 : Nat) : Int) = true then 1 else 0) + (if P ((4 : Nat) : Int) = true then 1 else 0) + (if P ((5 : Nat) : Int) = true then 1 else 0) + (if P ((6 : Nat) : Int) = true then 1 else 0) + (if P ((7 : Nat) : Int) = true then 1 else 0) + (if P ((8 : Nat) : Int) = true then 1 else 0) + (if P ((9 : Nat) : Int) = true then 1 else 0) + (if P ((10 : Nat) : Int) = true then 1 else 0) + (if P ((11 : Nat) : Int) = true then 1 else 0) := by
    unfold pcN
    simp [sm]
  rw [e, ← c0, ← c1, ← c2, ← c3, ← c4, ← c5, ← c6, ← c7, ← c8, ← c9, ← c10, ← c11]
  clear c0 c1 c2 c3 c4 c5 c6 c7 c8 c9 c10 c11 b e h
  generalize tsN P 12 = t at *
  unfold bcN
  rw [show (2 : Int) ^ 0 = 1 from rfl, show (2 : Int) ^ 1 = 2 from rfl, show (2 : Int) ^ 2 = 4 from rfl, show (2 : Int) ^ 3 = 8 from rfl, show (2 : Int) ^ 4 = 16 from rfl, show (2 : Int) ^ 5 = 32 from rfl, show (2 : Int) ^ 6 = 64 from rfl, show (2 : Int) ^ 7 = 128 from rfl, show (2 : Int) ^ 8 = 256 from rfl, show (2 : Int) ^ 9 = 512 from rfl, show (2 : Int) ^ 10 = 1024 from rfl, show (2 : Int) ^ 11 = 2048 from rfl]
  have ht : t = ((t.toNat : Nat) : Int) := by omega
  generalize t.toNat = u at *
  subst ht
  simp only [← Int.natCast_ediv, Int.natCast_add, Int.natCast_emod, Int.ediv_one]
  rfl

set_option maxRecDepth 100000 in
theorem c_bitCount {E : Ev} {M : Mem} {Post : Option Value → Mem → Prop} {n : Nat} (hn : n < 4096) (hp : Post (some (iv ((bbA n : Nat) : Int))) M) : Cn E rJ6_bitCount_0f7a4 mJ6_bitCount_0f7a4 [iv (n : Nat)] M Post := by
  unfold bbA bb6 at hp
  refine Cn.of (L := [some (iv (n : Nat))]) (by decide) (Nat.le_of_ble_eq_true rfl) rfl ?_
  refine v_iload_0 dJ6_bitCount_0f7a4_0 ?_
  refine v_iload_0 dJ6_bitCount_0f7a4_1 ?_
  refine v_iconst dJ6_bitCount_0f7a4_2 ?_
  refine v_iushr dJ6_bitCount_0f7a4_3 (us_n (by omega) _ 1 2 (by decide) rfl) ?_
  refine v_ldcw (v := 1431655765) dJ6_bitCount_0f7a4_4 (pl 628 (by decide +kernel)) ?_
  refine v_iand dJ6_bitCount_0f7a4_7 (an_n (m := 1431655765) (by omega) (by decide) (by decide)) ?_
  refine v_isub dJ6_bitCount_0f7a4_8 ?_
  have l1 : n / 2 &&& 1431655765 ≤ n / 2 := Nat.and_le_left
  refine v_top (y := ((bb1 n : Nat) : Int)) (by unfold bb1; omega) ?_
  have l2 : bb1 n ≤ n := Nat.sub_le _ _
  generalize bb1 n = a at *
  refine v_istore_0 dJ6_bitCount_0f7a4_9 (Nat.le_of_ble_eq_true rfl) rfl ?_
  refine v_iload_0 dJ6_bitCount_0f7a4_10 ?_
  refine v_ldcw (v := 858993459) dJ6_bitCount_0f7a4_11 (pl 629 (by decide +kernel)) ?_
  refine v_iand dJ6_bitCount_0f7a4_14 (an_n (m := 858993459) (by omega) (by decide) (by decide)) ?_
  refine v_iload_0 dJ6_bitCount_0f7a4_15 ?_
  refine v_iconst dJ6_bitCount_0f7a4_16 ?_
  refine v_iushr dJ6_bitCount_0f7a4_17 (us_n (by omega) _ 2 4 (by decide) rfl) ?_
  refine v_ldcw (v := 858993459) dJ6_bitCount_0f7a4_18 (pl 629 (by decide +kernel)) ?_
  refine v_iand dJ6_bitCount_0f7a4_21 (an_n (m := 858993459) (by omega) (by decide) (by decide)) ?_
  refine v_iadd dJ6_bitCount_0f7a4_22 ?_
  refine v_top (y := ((bb2 a : Nat) : Int)) (by unfold bb2; omega) ?_
  have l3 : bb2 a ≤ a + a := Nat.add_le_add Nat.and_le_left (Nat.le_trans Nat.and_le_left (Nat.div_le_self _ _))
  generalize bb2 a = b at *
  refine v_istore_0 dJ6_bitCount_0f7a4_23 (Nat.le_of_ble_eq_true rfl) rfl ?_
  refine v_iload_0 dJ6_bitCount_0f7a4_24 ?_
  refine v_iload_0 dJ6_bitCount_0f7a4_25 ?_
  refine v_iconst dJ6_bitCount_0f7a4_26 ?_
  refine v_iushr dJ6_bitCount_0f7a4_27 (us_n (by omega) _ 4 16 (by decide) rfl) ?_
  refine v_iadd dJ6_bitCount_0f7a4_28 ?_
  refine v_top (y := ((b + b / 16 : Nat) : Int)) (by omega) ?_
  refine v_ldcw (v := 252645135) dJ6_bitCount_0f7a4_29 (pl 630 (by decide +kernel)) ?_
  refine v_iand dJ6_bitCount_0f7a4_32 (an_n (m := 252645135) (by omega) (by decide) (by decide)) ?_
  refine v_top (y := ((bb3 b : Nat) : Int)) (by unfold bb3; rfl) ?_
  have l4 : bb3 b ≤ b + b / 16 := Nat.and_le_left
  generalize bb3 b = c at *
  refine v_istore_0 dJ6_bitCount_0f7a4_33 (Nat.le_of_ble_eq_true rfl) rfl ?_
  refine v_iload_0 dJ6_bitCount_0f7a4_34 ?_
  refine v_iload_0 dJ6_bitCount_0f7a4_35 ?_
  refine v_bipush dJ6_bitCount_0f7a4_36 (by decide) ?_
  refine v_iushr dJ6_bitCount_0f7a4_38 (us_n (by omega) _ 8 256 (by decide) rfl) ?_
  refine v_iadd dJ6_bitCount_0f7a4_39 ?_
  refine v_top (y := ((bb4 c : Nat) : Int)) (by unfold bb4; omega) ?_
  have l5 : bb4 c = c + c / 256 := rfl
  generalize bb4 c = e at *
  refine v_istore_0 dJ6_bitCount_0f7a4_40 (Nat.le_of_ble_eq_true rfl) rfl ?_
  refine v_iload_0 dJ6_bitCount_0f7a4_41 ?_
  refine v_iload_0 dJ6_bitCount_0f7a4_42 ?_
  refine v_bipush dJ6_bitCount_0f7a4_43 (by decide) ?_
  refine v_iushr dJ6_bitCount_0f7a4_45 (us_n (by omega) _ 16 65536 (by decide) rfl) ?_
  refine v_iadd dJ6_bitCount_0f7a4_46 ?_
  refine v_top (y := ((bb5 e : Nat) : Int)) (by unfold bb5; omega) ?_
  have l6 : bb5 e = e + e / 65536 := rfl
  generalize bb5 e = f at *
  refine v_istore_0 dJ6_bitCount_0f7a4_47 (Nat.le_of_ble_eq_true rfl) rfl ?_
  refine v_iload_0 dJ6_bitCount_0f7a4_48 ?_
  refine v_bipush dJ6_bitCount_0f7a4_49 (by decide) ?_
  refine v_iand dJ6_bitCount_0f7a4_51 (an_n (m := 63) (by omega) (by decide) (by decide)) ?_
  exact v_iret dJ6_bitCount_0f7a4_52 rfl (Nat.le_refl _) (Nat.le_refl _) hp

set_option maxRecDepth 100000 in
theorem c_X1_forgetAll {E : Ev} {M : Mem} {Post : Option Value → Mem → Prop} {hs : Nat} {f0 : Value} {n : Int} (h1 : M[hs]? = some (ob 1 [f0, iv n])) (hp : Post none (M.set hs (ob 1 [f0, iv 0]))) : Cn E rX1_forgetAll mX1_forgetAll [rr E hs] M Post := by
  refine Cn.of (L := [some (rr E hs)]) (by decide) (Nat.le_of_ble_eq_true rfl) rfl ?_
  refine v_aload_0 dX1_forgetAll_0 ?_
  refine v_iconst dX1_forgetAll_1 ?_
  refine p_X1_18 rfl dX1_forgetAll_2 h1 ?_
  exact v_vret dX1_forgetAll_5 rfl (Nat.le_refl _) (Nat.le_refl _) hp

theorem fo_1 {i : Int} {q g : Int → Option Nat} {a : Nat} (h : ∀ j, 0 ≤ j → j < i - 1 → q j = g (j + 1)) (ha : g i = some a) : ∀ j, 0 ≤ j → j < i + 1 - 1 → upR q (i - 1) (some a) j = g (j + 1) := by
  intro j j0 j1
  unfold upR
  by_cases e : j = i - 1
  · rw [if_pos e, e, show i - 1 + 1 = i by omega, ha]
  · rw [if_neg e]; exact h j j0 (by omega)
theorem fo_2 {i : Int} {q g : Int → Option Nat} {a : Option Nat} (h : ∀ j, i - 1 < j → q j = g j) : ∀ j, i + 1 - 1 < j → upR q (i - 1) a j = g j := by
  intro j j0
  unfold upR
  rw [if_neg (by omega)]
  exact h j (by omega)

set_option maxRecDepth 100000 in
theorem c_X1_forgetOldest {E : Ev} {M : Mem} {Post : Option Value → Mem → Prop} {hs : Nat} {n : Int} {g : Int → Option Nat} {ad : Int → Nat} (h1 : M[hs]? = some (ob 1 [rr E (hs + 1), iv n])) (h2 : M[hs + 1]? = some (ra E 2 10 g)) (h3 : AdOK hs g ad) (hA : ∀ j, 0 ≤ j → j < 10 → ∃ fs, M[ad j]? = some (ob 0 fs)) (hp : ∀ q, (∀ j, 0 ≤ j → j < 9 → q j = g (j + 1)) → q 9 = g 0 → Post none ((M.set (hs + 1) (ra E 2 10 q)).set hs (ob 1 [rr E (hs + 1), iv 9]))) : Cn E rX1_forgetOldest mX1_forgetOldest [rr E hs] M Post := by
  have lp : ∀ (r : Nat) (i : Int) (q : Int → Option Nat), (1 ≤ i) → (i ≤ 10) → (∀ j, 0 ≤ j → j < i - 1 → q j = g (j + 1)) → (∀ j, i - 1 < j → q j = g j) → 10 - i < (r : Int) → V E rX1_forgetOldest mX1_forgetOldest (finM E rX1_forgetOldest Post) 0 0 (M.set (hs + 1) (ra E 2 10 q)) 9 [some (rr E hs), some (rr E (ad 0)), some (iv i)] [] := by
    intro r
    induction r with
    | zero => intro i q h_0 h_1 h_2 h_3 hz; exact absurd hz (by omega)
    | succ r ih =>
      intro i q h_0 h_1 h_2 h_3 hz
      refine v_iload_2 dX1_forgetOldest_9 ?_
      refine v_bipush dX1_forgetOldest_10 (by decide) ?_
      refine v_icmp_ge (tgt := 35) dX1_forgetOldest_12 rfl ⟨by omega, by omega⟩ ⟨by omega, by omega⟩ (fun c12 => ?_) (fun c12 => ?_)
      · refine v_aload_0 dX1_forgetOldest_35 ?_
        refine g_X1_11 rfl dX1_forgetOldest_36 (gs_ne (by omega) h1) ?_
        refine v_bipush dX1_forgetOldest_39 (by decide) ?_
        refine v_aload_1 dX1_forgetOldest_41 ?_
        obtain ⟨fs, hfs⟩ := hA 0 (by omega) (by omega)
        have had := h3.1 0 (by omega) (by omega)
        refine v_aastore (ci := 0) (T := TX0) dX1_forgetOldest_42 (gs_eq h2) rfl (gs_ne (by omega) hfs) rfl (by omega) (by omega) (by decide) ?_
        rw [gs_gs]
        refine v_aload_0 dX1_forgetOldest_43 ?_
        refine v_bipush dX1_forgetOldest_44 (by decide) ?_
        refine p_X1_18 rfl dX1_forgetOldest_46 (gs_ne (by omega) h1) ?_
        exact v_vret dX1_forgetOldest_49 rfl (Nat.le_refl _) (Nat.le_refl _) (hp _ (fun j j0 j1 => by unfold upR; rw [if_neg (by omega)]; exact h_2 j j0 (by omega)) (by unfold upR; rw [if_pos rfl, had.1]))
      · refine v_aload_0 dX1_forgetOldest_15 ?_
        refine g_X1_11 rfl dX1_forgetOldest_16 (gs_ne (by omega) h1) ?_
        refine v_iload_2 dX1_forgetOldest_19 ?_
        refine v_iconst dX1_forgetOldest_20 ?_
        refine v_isub dX1_forgetOldest_21 ?_
        refine v_aload_0 dX1_forgetOldest_22 ?_
        refine g_X1_11 rfl dX1_forgetOldest_23 (gs_ne (by omega) h1) ?_
        refine v_iload_2 dX1_forgetOldest_26 ?_
        refine v_aaload (ty := .object RX0) dX1_forgetOldest_27 (gs_eq h2) rfl rfl (by omega) (by omega) (by decide) ?_
        rw [h_3 i (by omega), (h3.1 i (by omega) (by omega)).1]
        obtain ⟨fs, hfs⟩ := hA i (by omega) (by omega)
        have had := h3.1 i (by omega) (by omega)
        refine v_aastore (ci := 0) (T := TX0) dX1_forgetOldest_28 (gs_eq h2) rfl (gs_ne (by omega) hfs) rfl (by omega) (by omega) (by decide) ?_
        rw [gs_gs]
        refine v_iinc_2 dX1_forgetOldest_29 (Nat.le_of_ble_eq_true rfl) rfl ?_
        refine v_goto (tgt := 9) dX1_forgetOldest_32 rfl ?_
        exact ih (i + 1) _ (by omega) (by omega) (fo_1 h_2 (h3.1 i (by omega) (by omega)).1) (fo_2 h_3) (by omega)
  refine Cn.of (L := [some (rr E hs), none, none]) (by decide) (Nat.le_of_ble_eq_true rfl) rfl ?_
  refine v_aload_0 dX1_forgetOldest_0 ?_
  refine g_X1_11 rfl dX1_forgetOldest_1 h1 ?_
  refine v_iconst dX1_forgetOldest_4 ?_
  refine v_aaload (ty := .object RX0) dX1_forgetOldest_5 h2 rfl rfl (by omega) (by omega) (by decide) ?_
  rw [(h3.1 0 (by omega) (by omega)).1]
  refine v_astore_1 dX1_forgetOldest_6 (Nat.le_of_ble_eq_true rfl) rfl ?_
  refine v_iconst dX1_forgetOldest_7 ?_
  refine v_istore_2 dX1_forgetOldest_8 (Nat.le_of_ble_eq_true rfl) rfl ?_
  have t := lp 10 1 g (by omega) (by omega) (fun j j0 j1 => by omega) (fun j _ => rfl) (by omega)
  rw [gs_id h2] at t
  exact t

theorem HistG.obs {E : Ev} {M : Mem} {hs n : Nat} {rows : Nat → Int → Int} {g : Int → Option Nat} {ad : Int → Nat} (h : HistG E M hs n rows g ad) : ∀ j, 0 ≤ j → j < 10 → ∃ fs, M[ad j]? = some (ob 0 fs) := by
  intro j j0 j1
  obtain ⟨kd, s, k, x, bf, nb, q1, -⟩ := h.2.2.2 j.toNat (by omega)
  rw [toNat_cast j0] at q1
  exact ⟨_, q1⟩
/-- the next act, once there is room for it -/
theorem pend_of {E : Ev} {M : Mem} {hs m : Nat} {rows : Nat → Int → Int} {g : Int → Option Nat} {ad : Int → Nat} {kd0 s k h bf nb kd : Int} (hm : m ≤ 9) (h1 : M[hs]? = some (ob 1 [rr E (hs + 1), iv (m : Nat)])) (h2 : M[hs + 1]? = some (ra E 2 10 g)) (h3 : AdOK hs g ad) (h4 : AcOK E M m rows ad) (h5 : AF E M (ad (m : Nat)) kd0 s k h bf nb) : HPend E ((M.set (ad (m : Nat)) (ob 0 [iv kd, iv s, iv k, iv h, iv bf, iv nb])).set hs (ob 1 [rr E (hs + 1), iv ((m : Nat) + 1 : Int)])) hs m rows (ad (m : Nat)) kd := by
  have ha := h3.1 m (by omega) (by omega)
  refine ⟨g, ad, gs_eq (gs_ne (by omega) h1), gs_ne (by omega) (gs_ne (by omega) h2), h3, fun j hj => ?_, rfl, s, k, h, bf, nb, gs_ne (by omega) (gs_eq h5)⟩
  by_cases e : j = m
  · subst e
    exact ⟨kd, s, k, h, bf, nb, gs_ne (by omega) (gs_eq h5), fun q => absurd q (by omega)⟩
  · obtain ⟨kd2, s2, k2, x2, b2, n2, q1, q2⟩ := h4 j hj
    have hj2 := h3.1 j (by omega) (by omega)
    exact ⟨kd2, s2, k2, x2, b2, n2, gs_ne (by omega) (gs_ne (fun q => e (by have := h3.2 m j (by omega) (by omega) (by omega) (by omega) q; omega)) q1), q2⟩

set_option maxRecDepth 100000 in
theorem c_X1_next_lt {E : Ev} {M : Mem} {Post : Option Value → Mem → Prop} {hs n : Nat} {rows : Nat → Int → Int} {kd : Int} (hH : HistAt E M hs n rows) (hn : n < 10) (hp : ∀ M2 a, HPend E M2 hs (bn n) (br n rows) a kd → Fr hs (hs + 12) M M2 → Post (some (rr E a)) M2) : Cn E rX1_next mX1_next [rr E hs, iv kd] M Post := by
  obtain ⟨g, ad, h1, h2, h3, h4⟩ := hH
  obtain ⟨kd0, s, k, h, bf, nb, h5, -⟩ := h4 n (by omega)
  have ha := h3.1 n (by omega) (by omega)
  have e1 : bn n = n := if_pos (by omega)
  have e2 : br n rows = rows := if_pos (by omega)
  rw [e1, e2] at hp
  refine Cn.of (L := [some (rr E hs), some (iv kd), none]) (by decide) (Nat.le_of_ble_eq_true rfl) rfl ?_
  refine v_aload_0 dX1_next_0 ?_
  refine g_X1_18 rfl dX1_next_1 h1 ?_
  refine v_if_lt (tgt := 16) dX1_next_4 rfl ⟨by omega, by omega⟩ (fun c4 => absurd c4 (by omega)) (fun c4 => ?_)
  refine v_aload_0 dX1_next_7 ?_
  refine g_X1_18 rfl dX1_next_8 h1 ?_
  refine v_bipush dX1_next_11 (by decide) ?_
  refine v_icmp_lt (tgt := 20) dX1_next_13 rfl ⟨by omega, by omega⟩ ⟨by omega, by omega⟩ (fun c13 => ?_) (fun c13 => absurd c13 (by omega))
  refine v_aload_0 dX1_next_20 ?_
  refine g_X1_11 rfl dX1_next_21 h1 ?_
  refine v_aload_0 dX1_next_24 ?_
  refine g_X1_18 rfl dX1_next_25 h1 ?_
  refine v_aaload (ty := .object RX0) dX1_next_28 h2 rfl rfl (by omega) (by omega) (by decide) ?_
  rw [ha.1]
  refine v_astore_2 dX1_next_29 (Nat.le_of_ble_eq_true rfl) rfl ?_
  refine v_aload_2 dX1_next_30 ?_
  refine v_iload_1 dX1_next_31 ?_
  refine p_X1_25 rfl dX1_next_32 h5 ?_
  refine v_aload_0 dX1_next_35 ?_
  refine v_dupr dX1_next_36 ?_
  refine g_X1_18 rfl dX1_next_37 (gs_ne (by omega) h1) ?_
  refine v_iconst dX1_next_40 ?_
  refine v_iadd dX1_next_41 ?_
  refine p_X1_18 rfl dX1_next_42 (gs_ne (by omega) h1) ?_
  refine v_aload_2 dX1_next_45 ?_
  exact v_aret dX1_next_46 rfl (Nat.le_refl _) (Nat.le_refl _) (hp _ _ (pend_of (by omega) h1 h2 h3 h4 h5) ((Fr.set (by omega) (by omega)).tr (Fr.set (by omega) (by omega))))

theorem rot_next {E : Ev} {M : Mem} {hs n : Nat} {rows : Nat → Int → Int} {g q : Int → Option Nat} {ad : Int → Nat} {X : Prop} (hn : n = 10) (h1 : M[hs]? = some (ob 1 [rr E (hs + 1), iv (n : Nat)])) (h2 : M[hs + 1]? = some (ra E 2 10 g)) (h3 : AdOK hs g ad) (h4 : AcOK E M n rows ad) (q1 : ∀ j, 0 ≤ j → j < 9 → q j = g (j + 1)) (q2 : q 9 = g 0) (k : ∀ ad2 : Int → Nat, ((M.set (hs + 1) (ra E 2 10 q)).set hs (ob 1 [rr E (hs + 1), iv 9]))[hs]? = some (ob 1 [rr E (hs + 1), iv ((9 : Nat) : Int)]) → ((M.set (hs + 1) (ra E 2 10 q)).set hs (ob 1 [rr E (hs + 1), iv 9]))[hs + 1]? = some (ra E 2 10 q) → AdOK hs q ad2 → AcOK E ((M.set (hs + 1) (ra E 2 10 q)).set hs (ob 1 [rr E (hs + 1), iv 9])) 9 (fun j => rows (j + 1)) ad2 → X) : X := by
  refine k (fun j => if j = 9 then ad 0 else ad (j + 1)) (gs_eq (gs_ne (by omega) h1)) (gs_ne (by omega) (gs_eq h2)) ⟨fun j j0 j1 => ?_, fun i j i0 i1 j0 j1 e => ?_⟩ (fun j hj => ?_)
  · show q j = some (if j = 9 then ad 0 else ad (j + 1)) ∧ hs + 2 ≤ (if j = 9 then ad 0 else ad (j + 1)) ∧ (if j = 9 then ad 0 else ad (j + 1)) < hs + 12
    by_cases c : j = 9
    · rw [c, q2, if_pos rfl]; exact h3.1 0 (by omega) (by omega)
    · rw [q1 j j0 (by omega), if_neg c]; exact h3.1 (j + 1) (by omega) (by omega)
  · replace e : (if i = 9 then ad 0 else ad (i + 1)) = (if j = 9 then ad 0 else ad (j + 1)) := e
    by_cases c : i = 9
    · by_cases c2 : j = 9
      · omega
      · rw [if_pos c, if_neg c2] at e
        have := h3.2 0 (j + 1) (by omega) (by omega) (by omega) (by omega) e
        omega
    · by_cases c2 : j = 9
      · rw [if_neg c, if_pos c2] at e
        have := h3.2 (i + 1) 0 (by omega) (by omega) (by omega) (by omega) e
        omega
      · rw [if_neg c, if_neg c2] at e
        have := h3.2 (i + 1) (j + 1) (by omega) (by omega) (by omega) (by omega) e
        omega
  · by_cases c : j = 9
    · subst c
      obtain ⟨kd, s, k, x, bf, nb, p1, p2⟩ := h4 0 (by omega)
      have hd := h3.1 0 (by omega) (by omega)
      refine ⟨kd, s, k, x, bf, nb, ?_, fun q => absurd q (by omega)⟩
      show AF E _ (if (((9 : Nat) : Int)) = 9 then ad 0 else ad (((9 : Nat) : Int) + 1)) kd s k x bf nb
      rw [if_pos (by rfl)]
      have p1 : AF E M (ad 0) kd s k x bf nb := p1
      exact gs_ne (by omega) (gs_ne (by omega) p1)
    · obtain ⟨kd, s, k, x, bf, nb, p1, p2⟩ := h4 (j + 1) (by omega)
      have hd := h3.1 (j + 1) (by omega) (by omega)
      refine ⟨kd, s, k, x, bf, nb, ?_, fun q => p2 (by omega)⟩
      show AF E _ (if ((j : Int)) = 9 then ad 0 else ad ((j : Int) + 1)) kd s k x bf nb
      rw [if_neg (by omega)]
      have p1 : AF E M (ad ((j : Int) + 1)) kd s k x bf nb := p1
      exact gs_ne (by omega) (gs_ne (by omega) p1)

set_option maxRecDepth 100000 in
theorem c_X1_next_ge {E : Ev} {M : Mem} {Post : Option Value → Mem → Prop} {hs n : Nat} {rows : Nat → Int → Int} {kd : Int} (hH : HistAt E M hs n rows) (hn : n = 10) (hp : ∀ M2 a, HPend E M2 hs (bn n) (br n rows) a kd → Fr hs (hs + 12) M M2 → Post (some (rr E a)) M2) : Cn E rX1_next mX1_next [rr E hs, iv kd] M Post := by
  obtain ⟨g, ad, hG⟩ := hH
  have hob := hG.obs
  obtain ⟨h1, h2, h3, h4⟩ := hG
  have e1 : bn n = 9 := if_neg (by omega)
  have e2 : br n rows = fun j => rows (j + 1) := if_neg (by omega)
  rw [e1, e2] at hp
  refine Cn.of (L := [some (rr E hs), some (iv kd), none]) (by decide) (Nat.le_of_ble_eq_true rfl) rfl ?_
  refine v_aload_0 dX1_next_0 ?_
  refine g_X1_18 rfl dX1_next_1 h1 ?_
  refine v_if_lt (tgt := 16) dX1_next_4 rfl ⟨by omega, by omega⟩ (fun c4 => absurd c4 (by omega)) (fun c4 => ?_)
  refine v_aload_0 dX1_next_7 ?_
  refine g_X1_18 rfl dX1_next_8 h1 ?_
  refine v_bipush dX1_next_11 (by decide) ?_
  refine v_icmp_lt (tgt := 20) dX1_next_13 rfl ⟨by omega, by omega⟩ ⟨by omega, by omega⟩ (fun c13 => absurd c13 (by omega)) (fun c13 => ?_)
  refine v_aload_0 dX1_next_16 ?_
  refine l_X1_22 rfl dX1_next_17 h1 ⟨Nat.le_of_ble_eq_true rfl, Nat.le_of_ble_eq_true rfl⟩ (Nat.le_of_ble_eq_true rfl) ⟨Nat.le_refl _, Nat.le_refl _⟩ (c_X1_forgetOldest h1 h2 h3 hob (fun q q1 q2 => ?_))
  refine rot_next (n := n) (by omega) h1 h2 h3 h4 q1 q2 ?_
  intro ad2 hm1 hm2 h3b h4b
  obtain ⟨kd0, s, k, h, bf, nb, h5, -⟩ := h4b 9 (by omega)
  have ha := h3b.1 ((9 : Nat) : Int) (by omega) (by omega)
  refine v_aload_0 dX1_next_20 ?_
  refine g_X1_11 rfl dX1_next_21 hm1 ?_
  refine v_aload_0 dX1_next_24 ?_
  refine g_X1_18 rfl dX1_next_25 hm1 ?_
  refine v_aaload (ty := .object RX0) dX1_next_28 hm2 rfl rfl (by omega) (by omega) (by decide) ?_
  rw [ha.1]
  refine v_astore_2 dX1_next_29 (Nat.le_of_ble_eq_true rfl) rfl ?_
  refine v_aload_2 dX1_next_30 ?_
  refine v_iload_1 dX1_next_31 ?_
  refine p_X1_25 rfl dX1_next_32 h5 ?_
  refine v_aload_0 dX1_next_35 ?_
  refine v_dupr dX1_next_36 ?_
  refine g_X1_18 rfl dX1_next_37 (gs_ne (by omega) hm1) ?_
  refine v_iconst dX1_next_40 ?_
  refine v_iadd dX1_next_41 ?_
  refine p_X1_18 rfl dX1_next_42 (gs_ne (by omega) hm1) ?_
  refine v_aload_2 dX1_next_45 ?_
  exact v_aret dX1_next_46 rfl (Nat.le_refl _) (Nat.le_refl _) (hp _ _ (pend_of (m := 9) (by omega) hm1 hm2 h3b h4b h5) (((Fr.set (by omega) (by omega)).tr (Fr.set (by omega) (by omega))).tr ((Fr.set (by omega) (by omega)).tr (Fr.set (by omega) (by omega)))))

theorem c_X1_next {E : Ev} {M : Mem} {Post : Option Value → Mem → Prop} {hs n : Nat} {rows : Nat → Int → Int} {kd : Int} (hH : HistAt E M hs n rows) (hn : n ≤ 10) (hp : ∀ M2 a, HPend E M2 hs (bn n) (br n rows) a kd → Fr hs (hs + 12) M M2 → Post (some (rr E a)) M2) : Cn E rX1_next mX1_next [rr E hs, iv kd] M Post := by
  by_cases hc : n < 10
  · exact c_X1_next_lt hH hc hp
  · exact c_X1_next_ge hH (by omega) hp

set_option maxRecDepth 100000 in
theorem c_X1_takeLatest_s {E : Ev} {M : Mem} {Post : Option Value → Mem → Prop} {hs n : Nat} {g : Int → Option Nat} {ad : Int → Nat} (h1 : M[hs]? = some (ob 1 [rr E (hs + 1), iv (n : Nat)])) (h2 : M[hs + 1]? = some (ra E 2 10 g)) (h3 : AdOK hs g ad) (hn : n ≤ 10) (n1 : 1 ≤ n) (hp : Post (some (rr E (ad (n - 1 : Nat)))) (M.set hs (ob 1 [rr E (hs + 1), iv ((n - 1 : Nat) : Int)]))) : Cn E rX1_takeLatest mX1_takeLatest [rr E hs] M Post := by
  have ha := h3.1 (n - 1 : Nat) (by omega) (by omega)
  refine Cn.of (L := [some (rr E hs)]) (by decide) (Nat.le_of_ble_eq_true rfl) rfl ?_
  refine v_aload_0 dX1_takeLatest_0 ?_
  refine g_X1_18 rfl dX1_takeLatest_1 h1 ?_
  refine v_iconst dX1_takeLatest_4 ?_
  refine v_icmp_lt (tgt := 17) dX1_takeLatest_5 rfl ⟨by omega, by omega⟩ ⟨by omega, by omega⟩ (fun c5 => absurd c5 (by omega)) (fun c5 => ?_)
  refine v_aload_0 dX1_takeLatest_8 ?_
  refine g_X1_18 rfl dX1_takeLatest_9 h1 ?_
  refine v_bipush dX1_takeLatest_12 (by decide) ?_
  refine v_icmp_le (tgt := 19) dX1_takeLatest_14 rfl ⟨by omega, by omega⟩ ⟨by omega, by omega⟩ (fun c14 => ?_) (fun c14 => absurd c14 (by omega))
  refine v_aload_0 dX1_takeLatest_19 ?_
  refine v_dupr dX1_takeLatest_20 ?_
  refine g_X1_18 rfl dX1_takeLatest_21 h1 ?_
  refine v_iconst dX1_takeLatest_24 ?_
  refine v_isub dX1_takeLatest_25 ?_
  refine p_X1_18 rfl dX1_takeLatest_26 h1 ?_
  rw [show ((n : Nat) : Int) - 1 = ((n - 1 : Nat) : Int) by omega]
  refine v_aload_0 dX1_takeLatest_29 ?_
  refine g_X1_11 rfl dX1_takeLatest_30 (gs_eq h1) ?_
  refine v_aload_0 dX1_takeLatest_33 ?_
  refine g_X1_18 rfl dX1_takeLatest_34 (gs_eq h1) ?_
  refine v_aaload (ty := .object RX0) dX1_takeLatest_37 (gs_ne (by omega) h2) rfl rfl (by omega) (by omega) (by decide) ?_
  rw [ha.1]
  exact v_aret dX1_takeLatest_38 rfl (Nat.le_refl _) (Nat.le_refl _) hp

set_option maxRecDepth 100000 in
theorem c_X1_takeLatest_n {E : Ev} {M : Mem} {Post : Option Value → Mem → Prop} {hs : Nat} {f0 : Value} (h1 : M[hs]? = some (ob 1 [f0, iv ((0 : Nat) : Int)])) (hp : Post (some (ro E none)) M) : Cn E rX1_takeLatest mX1_takeLatest [rr E hs] M Post := by
  refine Cn.of (L := [some (rr E hs)]) (by decide) (Nat.le_of_ble_eq_true rfl) rfl ?_
  refine v_aload_0 dX1_takeLatest_0 ?_
  refine g_X1_18 rfl dX1_takeLatest_1 h1 ?_
  refine v_iconst dX1_takeLatest_4 ?_
  refine v_icmp_lt (tgt := 17) dX1_takeLatest_5 rfl ⟨by omega, by omega⟩ ⟨by omega, by omega⟩ (fun c5 => ?_) (fun c5 => absurd c5 (by omega))
  refine v_null dX1_takeLatest_17 ?_
  exact v_aret dX1_takeLatest_18 rfl (Nat.le_refl _) (Nat.le_refl _) hp
