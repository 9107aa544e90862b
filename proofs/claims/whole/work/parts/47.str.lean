set_option maxRecDepth 100000 in
theorem c_coder {E : Ev} {M : Mem} {Post : Option Value → Mem → Prop} {i : Nat} (hi : i < 6) (hp : Post (some (iv 0)) M) : Cn E rJ0_coder_7d493 mJ0_coder_7d493 [xr (E.aK i)] M Post := by
  refine Cn.of (L := [some (xr (E.aK i))]) (by decide) (Nat.le_of_ble_eq_true rfl) rfl ?_
  refine v_gets1 dJ0_coder_7d493_0 (pl 359 (by decide +kernel)) ?_
  refine v_if_eq (tgt := 13) dJ0_coder_7d493_3 rfl ⟨by decide, by decide⟩ (fun c3 => absurd c3 (by decide)) (fun c3 => ?_)
  refine v_axload_0 dJ0_coder_7d493_6 ?_
  refine v_xcod hi dJ0_coder_7d493_7 (pl 958 (by decide +kernel)) ?_
  refine v_goto (tgt := 14) dJ0_coder_7d493_10 rfl ?_
  exact v_bret dJ0_coder_7d493_14 rfl (Nat.le_refl _) (Nat.le_refl _) (by decide) hp

set_option maxRecDepth 100000 in
theorem c_isLatin1 {E : Ev} {M : Mem} {Post : Option Value → Mem → Prop} {i : Nat} (hi : i < 6) (hp : Post (some (iv 1)) M) : Cn E rJ0_isLatin1_aae02 mJ0_isLatin1_aae02 [xr (E.aK i)] M Post := by
  refine Cn.of (L := [some (xr (E.aK i))]) (by decide) (Nat.le_of_ble_eq_true rfl) rfl ?_
  refine v_gets1 dJ0_isLatin1_aae02_0 (pl 359 (by decide +kernel)) ?_
  refine v_if_eq (tgt := 17) dJ0_isLatin1_aae02_3 rfl ⟨by decide, by decide⟩ (fun c3 => absurd c3 (by decide)) (fun c3 => ?_)
  refine v_axload_0 dJ0_isLatin1_aae02_6 ?_
  refine v_xcod hi dJ0_isLatin1_aae02_7 (pl 958 (by decide +kernel)) ?_
  refine v_if_ne (tgt := 17) dJ0_isLatin1_aae02_10 rfl ⟨by decide, by decide⟩ (fun c10 => absurd c10 (by decide)) (fun c10 => ?_)
  refine v_iconst dJ0_isLatin1_aae02_13 ?_
  refine v_goto (tgt := 18) dJ0_isLatin1_aae02_14 rfl ?_
  exact v_zret dJ0_isLatin1_aae02_18 rfl (Nat.le_refl _) (Nat.le_refl _) (Or.inr rfl) hp

theorem shr_0 (x : Int) (hx : I32 x) : Int32.ofInt x >>> (Int32.ofInt 0 &&& 31) = Int32.ofInt x := by
  have h := shr_k hx 0 0 (by decide)
  rw [h]
  congr 1
  show x / 1 = x
  exact Int.ediv_one x
theorem len_i : ∀ i : Nat, i < 6 → lenS.getD i 0 < 10 := by decide

set_option maxRecDepth 100000 in
theorem c_length {E : Ev} {M : Mem} {Post : Option Value → Mem → Prop} {i : Nat} (hi : i < 6) (hp : Post (some (iv ((lenS.getD i 0 : Nat) : Int))) M) : Cn E rJ0_length_8abf5 mJ0_length_8abf5 [xr (E.aK i)] M Post := by
  have hl := len_i i hi
  refine Cn.of (L := [some (xr (E.aK i))]) (by decide) (Nat.le_of_ble_eq_true rfl) rfl ?_
  refine v_axload_0 dJ0_length_8abf5_0 ?_
  refine v_xval hi dJ0_length_8abf5_1 (pl 957 (by decide +kernel)) ?_
  refine v_xlen hi dJ0_length_8abf5_4 ?_
  refine v_axload_0 dJ0_length_8abf5_5 ?_
  refine v_callX (q := mJ0_coder_7d493) (Rq := rJ0_coder_7d493) (As := []) (rest := [iv ((lenS.getD i 0 : Nat) : Int)]) hi dJ0_length_8abf5_6 rfl (pl 355 (by decide +kernel)) mfJ0_coder_7d493 rfl ⟨Nat.le_of_ble_eq_true rfl, Nat.le_of_ble_eq_true rfl⟩ (Nat.le_of_ble_eq_true rfl) ⟨Nat.le_refl _, Nat.le_refl _⟩ (c_coder hi ?_)
  refine v_ishr dJ0_length_8abf5_9 (shr_0 _ ⟨by omega, by omega⟩) ?_
  exact v_iret dJ0_length_8abf5_10 rfl (Nat.le_refl _) (Nat.le_refl _) hp

set_option maxRecDepth 100000 in
theorem c_chk3_n {E : Ev} {M : Mem} {Post : Option Value → Mem → Prop} {z n : Int} (h0 : 0 ≤ z) (h1 : z < n) (hn : n < 2147483648) (hp : Post (some (iv z)) M) : Cn E rJ3_checkIndex_8e157 mJ3_checkIndex_8e157 [iv z, iv n, .null] M Post := by
  refine Cn.of (L := [some (iv z), some (iv n), some .null]) (by decide) (Nat.le_of_ble_eq_true rfl) rfl ?_
  refine v_iload_0 dJ3_checkIndex_8e157_0 ?_
  refine v_if_lt (tgt := 9) dJ3_checkIndex_8e157_1 rfl ⟨by omega, by omega⟩ (fun c1 => absurd c1 (by omega)) (fun c1 => ?_)
  refine v_iload_0 dJ3_checkIndex_8e157_4 ?_
  refine v_iload_1 dJ3_checkIndex_8e157_5 ?_
  refine v_icmp_lt (tgt := 16) dJ3_checkIndex_8e157_6 rfl ⟨by omega, by omega⟩ ⟨by omega, by omega⟩ (fun c6 => ?_) (fun c6 => absurd c6 (by omega))
  refine v_iload_0 dJ3_checkIndex_8e157_16 ?_
  exact v_iret dJ3_checkIndex_8e157_17 rfl (Nat.le_refl _) (Nat.le_refl _) hp

set_option maxRecDepth 100000 in
theorem c_chk3_r {E : Ev} {M : Mem} {Post : Option Value → Mem → Prop} {z n : Int} (h0 : 0 ≤ z) (h1 : z < n) (hn : n < 2147483648) {t : Nat} (hp : Post (some (iv z)) M) : Cn E rJ3_checkIndex_8e157 mJ3_checkIndex_8e157 [iv z, iv n, (.ref t)] M Post := by
  refine Cn.of (L := [some (iv z), some (iv n), some (.ref t)]) (by decide) (Nat.le_of_ble_eq_true rfl) rfl ?_
  refine v_iload_0 dJ3_checkIndex_8e157_0 ?_
  refine v_if_lt (tgt := 9) dJ3_checkIndex_8e157_1 rfl ⟨by omega, by omega⟩ (fun c1 => absurd c1 (by omega)) (fun c1 => ?_)
  refine v_iload_0 dJ3_checkIndex_8e157_4 ?_
  refine v_iload_1 dJ3_checkIndex_8e157_5 ?_
  refine v_icmp_lt (tgt := 16) dJ3_checkIndex_8e157_6 rfl ⟨by omega, by omega⟩ ⟨by omega, by omega⟩ (fun c6 => ?_) (fun c6 => absurd c6 (by omega))
  refine v_iload_0 dJ3_checkIndex_8e157_16 ?_
  exact v_iret dJ3_checkIndex_8e157_17 rfl (Nat.le_refl _) (Nat.le_refl _) hp

theorem c_chk3 {E : Ev} {M : Mem} {Post : Option Value → Mem → Prop} {z n : Int} (h0 : 0 ≤ z) (h1 : z < n) (hn : n < 2147483648) {v : Value} (hv : v = .null ∨ ∃ t, v = .ref t) (hp : Post (some (iv z)) M) : Cn E rJ3_checkIndex_8e157 mJ3_checkIndex_8e157 [iv z, iv n, v] M Post := by
  rcases hv with rfl | ⟨t, rfl⟩
  · exact c_chk3_n h0 h1 hn hp
  · exact c_chk3_r h0 h1 hn hp

set_option maxRecDepth 100000 in
theorem c_chk {E : Ev} {M : Mem} {Post : Option Value → Mem → Prop} {z n : Int} (h0 : 0 ≤ z) (h1 : z < n) (hn : n < 2147483648) (hp : Post none M) : Cn E rJ0_checkIndex_df160 mJ0_checkIndex_df160 [iv z, iv n] M Post := by
  refine Cn.of (L := [some (iv z), some (iv n)]) (by decide) (Nat.le_of_ble_eq_true rfl) rfl ?_
  refine v_iload_0 dJ0_checkIndex_df160_0 ?_
  refine v_iload_1 dJ0_checkIndex_df160_1 ?_
  refine v_gets2 dJ0_checkIndex_df160_2 (pl 375 (by decide +kernel)) (fun v hv => ?_)
  refine l_J0_1059 rfl dJ0_checkIndex_df160_5 ⟨Nat.le_of_ble_eq_true rfl, Nat.le_of_ble_eq_true rfl⟩ (Nat.le_of_ble_eq_true rfl) ⟨Nat.le_refl _, Nat.le_refl _⟩ (c_chk3 h0 h1 hn hv ?_)
  refine v_popi dJ0_checkIndex_df160_8 ?_
  exact v_vret dJ0_checkIndex_df160_9 rfl (Nat.le_refl _) (Nat.le_refl _) hp

theorem ch_ok : ∀ i : Nat, i < 6 → ∀ j : Nat, j < lenS.getD i 0 → 97 ≤ (wS.getD i []).getD j 0 ∧ (wS.getD i []).getD j 0 ≤ 122 := by
  intro i hi
  rcases (show i = 0 ∨ i = 1 ∨ i = 2 ∨ i = 3 ∨ i = 4 ∨ i = 5 by omega) with rfl | rfl | rfl | rfl | rfl | rfl <;> decide
theorem i2c_k : ∀ n : Nat, n < 256 → ((Int32.ofInt (n : Int)).toUInt32 % 65536).toInt32 = Int32.ofInt (n : Int) := by decide +kernel
theorem nar_k : ∀ n : Nat, n < 256 → narrow .char (iv (n : Int)) = iv (n : Int) := by decide +kernel

set_option maxRecDepth 100000 in
theorem c_charAt1 {E : Ev} {M : Mem} {Post : Option Value → Mem → Prop} {i : Nat} (hi : i < 6) {z : Int} (h0 : 0 ≤ z) (h1 : z < ((lenS.getD i 0 : Nat) : Int)) (hp : Post (some (iv ((wS.getD i []).getD z.toNat 0))) M) : Cn E rJ1_charAt_3b067 mJ1_charAt_3b067 [xr (E.aV i), iv z] M Post := by
  have hl := len_i i hi
  have hc := ch_ok i hi z.toNat (by omega)
  refine Cn.of (L := [some (xr (E.aV i)), some (iv z)]) (by decide) (Nat.le_of_ble_eq_true rfl) rfl ?_
  refine v_iload_1 dJ1_charAt_3b067_0 ?_
  refine v_axload_0 dJ1_charAt_3b067_1 ?_
  refine v_xlen hi dJ1_charAt_3b067_2 ?_
  refine l_J1_9 rfl dJ1_charAt_3b067_3 ⟨Nat.le_of_ble_eq_true rfl, Nat.le_of_ble_eq_true rfl⟩ (Nat.le_of_ble_eq_true rfl) ⟨Nat.le_refl _, Nat.le_refl _⟩ (c_chk h0 h1 (by omega) ?_)
  refine v_axload_0 dJ1_charAt_3b067_6 ?_
  refine v_iload_1 dJ1_charAt_3b067_7 ?_
  refine v_xbal hi dJ1_charAt_3b067_8 h0 h1 hl ?_
  refine v_sipush dJ1_charAt_3b067_9 (by decide) ?_
  refine v_iand dJ1_charAt_3b067_12 (and255 _) ?_
  rw [show ((wS.getD i []).getD z.toNat 0) % 256 = ((wS.getD i []).getD z.toNat 0) by omega]
  refine v_i2c dJ1_charAt_3b067_13 (by have t := i2c_k (((wS.getD i []).getD z.toNat 0)).toNat (by omega); rwa [toNat_cast (by omega)] at t) ?_
  exact v_cret dJ1_charAt_3b067_14 rfl (Nat.le_refl _) (Nat.le_refl _) (by have t := nar_k (((wS.getD i []).getD z.toNat 0)).toNat (by omega); rwa [toNat_cast (by omega)] at t) hp

set_option maxRecDepth 100000 in
theorem c_charAt {E : Ev} {M : Mem} {Post : Option Value → Mem → Prop} {i : Nat} (hi : i < 6) {z : Int} (h0 : 0 ≤ z) (h1 : z < ((lenS.getD i 0 : Nat) : Int)) (hp : Post (some (iv ((wS.getD i []).getD z.toNat 0))) M) : Cn E rJ0_charAt_5068e mJ0_charAt_5068e [xr (E.aK i), iv z] M Post := by
  have hl := len_i i hi
  have hc := ch_ok i hi z.toNat (by omega)
  refine Cn.of (L := [some (xr (E.aK i)), some (iv z)]) (by decide) (Nat.le_of_ble_eq_true rfl) rfl ?_
  refine v_axload_0 dJ0_charAt_5068e_0 ?_
  refine v_callX (q := mJ0_isLatin1_aae02) (Rq := rJ0_isLatin1_aae02) (As := []) (rest := []) hi dJ0_charAt_5068e_1 rfl (pl 365 (by decide +kernel)) mfJ0_isLatin1_aae02 rfl ⟨Nat.le_of_ble_eq_true rfl, Nat.le_of_ble_eq_true rfl⟩ (Nat.le_of_ble_eq_true rfl) ⟨Nat.le_refl _, Nat.le_refl _⟩ (c_isLatin1 hi ?_)
  refine v_if_eq (tgt := 16) dJ0_charAt_5068e_4 rfl ⟨by decide, by decide⟩ (fun c4 => absurd c4 (by decide)) (fun c4 => ?_)
  refine v_axload_0 dJ0_charAt_5068e_7 ?_
  refine v_xval hi dJ0_charAt_5068e_8 (pl 957 (by decide +kernel)) ?_
  refine v_iload_1 dJ0_charAt_5068e_11 ?_
  refine l_J0_495 rfl dJ0_charAt_5068e_12 ⟨Nat.le_of_ble_eq_true rfl, Nat.le_of_ble_eq_true rfl⟩ (Nat.le_of_ble_eq_true rfl) ⟨Nat.le_refl _, Nat.le_refl _⟩ (c_charAt1 hi h0 h1 ?_)
  exact v_cret dJ0_charAt_5068e_15 rfl (Nat.le_refl _) (Nat.le_refl _) (by have t := nar_k (((wS.getD i []).getD z.toNat 0)).toNat (by omega); rwa [toNat_cast (by omega)] at t) hp
