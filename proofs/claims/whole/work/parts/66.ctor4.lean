def wN : Int → Int := fun j => if 50 ≤ j then 1 else 0
theorem off_new {E : Ev} {M : Mem} {o : Nat} {g : Int → Option Nat} (hk : ∀ b, b < 26 → M[o + b]? = (offC E o g)[b]?) (hg : offG o g) : OffAt E M o wN := by
  refine ⟨(hk 0 (by decide)).trans rfl, ⟨_, (hk 1 (by decide)).trans rfl, fun j j0 j1 => (if_neg (by omega)).symm⟩, ⟨g, (hk 2 (by decide)).trans rfl, fun j j0 j1 => ?_⟩, ⟨_, (hk 3 (by decide)).trans rfl, fun j j0 j1 j2 => ?_⟩, ⟨_, (hk 4 (by decide)).trans rfl, fun j j0 j1 => ?_⟩, fun r hr => ⟨fun _ => 0, ?_, fun h h0 h1 => ?_⟩, fun k hk3 => ?_⟩
  · rcases (show j = 0 ∨ j = 1 ∨ j = 2 by omega) with rfl | rfl | rfl
    · exact hg.1
    · exact hg.2.1
    · exact hg.2.2
  · rw [show wN 2 = 0 from rfl] at j2
    omega
  · unfold gR
    rw [if_pos (show j < ((12 : Nat) : Int) by omega)]
  · rw [show o + 5 + r = o + (5 + r) by omega]
    refine (hk (5 + r) (by omega)).trans ?_
    rcases (show r = 0 ∨ r = 1 ∨ r = 2 ∨ r = 3 ∨ r = 4 ∨ r = 5 ∨ r = 6 ∨ r = 7 ∨ r = 8 ∨ r = 9 ∨ r = 10 ∨ r = 11 by omega) with rfl | rfl | rfl | rfl | rfl | rfl | rfl | rfl | rfl | rfl | rfl | rfl <;> rfl
  · show (0 : Int) = wN _ - 1
    rw [show wN (50 + 60 * (r : Int) + h) = 1 from if_pos (by omega)]
    rfl
  · rcases (show k = 0 ∨ k = 1 ∨ k = 2 by omega) with rfl | rfl | rfl
    · exact ⟨0, 0, 0, fun _ => 0, fun _ => 0, (hk 17 (by decide)).trans rfl, (hk 18 (by decide)).trans rfl, (hk 19 (by decide)).trans rfl, fun q => absurd q (by decide)⟩
    · exact ⟨0, 0, 0, fun _ => 0, fun _ => 0, (hk 20 (by decide)).trans rfl, (hk 21 (by decide)).trans rfl, (hk 22 (by decide)).trans rfl, fun q => absurd q (by decide)⟩
    · exact ⟨0, 0, 0, fun _ => 0, fun _ => 0, (hk 23 (by decide)).trans rfl, (hk 24 (by decide)).trans rfl, (hk 25 (by decide)).trans rfl, fun q => absurd q (by decide)⟩
/-- the class between calls -/
def ClS (E : Ev) (M : Mem) (o d : Nat) (w : Int → Int) (n : Nat) (rows : Nat → Int → Int) (T : Int → Int) (L fk : Int) : Prop :=
  M[0]? = some (ob 7 [rr E 1, rr E 3, rr E 5, rr E o, rr E d]) ∧ TA E M 1 2 T L ∧ RdS E M 3 1 fk ∧ HistAt E M 5 n rows ∧ OffAt E M o w ∧ ∃ wd, OffAt E M d wd
theorem hist_new {E : Ev} {M : Mem} {g : Int → Option Nat} {rows : Nat → Int → Int} (h0 : M[5]? = some (ob 1 [rr E 6, iv 0])) (h1 : M[6]? = some (ra E 2 10 g)) (hg : ∀ j, 0 ≤ j → j < 10 → g j = some (7 + j.toNat)) (ha : ∀ j : Nat, j < 10 → M[7 + j]? = some (ob 0 [iv 0, iv 0, iv 0, iv 0, iv 0, iv 0])) : HistAt E M 5 0 rows :=
  ⟨g, fun j => 7 + j.toNat, h0, h1, ⟨fun j j0 j1 => ⟨hg j j0 j1, by show 5 + 2 ≤ 7 + j.toNat; omega, by show 7 + j.toNat < 5 + 12; omega⟩, fun i j i0 i1 j0 j1 e => by have e2 : 7 + i.toNat = 7 + j.toNat := e; omega⟩, fun j hj => ⟨0, 0, 0, 0, 0, 0, ha j hj, fun q => by omega⟩⟩
set_option maxRecDepth 100000 in
theorem c_X7_init {E : Ev} {Post : Option Value → Mem → Prop} (hp : ∀ M2, ClS E M2 17 43 w0F 0 (fun _ => w0F) (fun _ => 0) 0 0 → M2.length = 69 → Post none M2) : Cn E rX7_init mX7_init [rr E 0] ([] ++ [ob 7 [ro E none, ro E none, ro E none, ro E none, ro E none]]) Post := by
  have ho : ([] : Mem).length = 0 := rfl
  refine Cn.of (L := [some (rr E 0)]) (by decide) (Nat.le_of_ble_eq_true rfl) rfl ?_
  refine v_aload_0 dX7_init_0 ?_
  refine oI dX7_init_1 (pl 68 (by decide +kernel)) (Nat.le_of_ble_eq_true rfl) (Nat.le_of_ble_eq_true rfl) ?_
  refine v_aload_0 dX7_init_4 ?_
  refine v_new (ci := 4) (n := 2) (T := TX4) (Cq := RX4) (ty0 := tyX4) (fs := [ro E none, iv 0]) dX7_init_5 rfl inX4 tyX4_ok (pl 71 (by decide +kernel)) (pl 72 (by decide +kernel)) (pl 49 (by decide +kernel)) (dvX4 (E := E)) (Nat.le_of_ble_eq_true rfl) (Nat.le_of_ble_eq_true rfl) ?_
  rw [a_lenq (q := 1) ho rfl]
  refine v_dupr dX7_init_8 ?_
  refine i_X7_9 rfl dX7_init_9 ⟨(Nat.le_of_ble_eq_true rfl), (Nat.le_of_ble_eq_true rfl)⟩ (Nat.le_of_ble_eq_true rfl) ⟨(Nat.le_of_ble_eq_true rfl), (Nat.le_of_ble_eq_true rfl)⟩ (c_X4_init (a_lenq (q := 1) ho rfl) ?_)
  rw [a_push]
  refine p_X7_10 rfl rfl dX7_init_12 ((a_get0 ho).trans rfl) ?_
  rw [a_set0 ho]
  refine v_aload_0 dX7_init_15 ?_
  refine v_new (ci := 5) (n := 6) (T := TX5) (Cq := RX5) (ty0 := tyX5) (fs := [ro E none, iv 0, iv 0, iv 0, iv 0, iv 0]) dX7_init_16 rfl inX5 tyX5_ok (pl 88 (by decide +kernel)) (pl 89 (by decide +kernel)) (pl 50 (by decide +kernel)) (dvX5 (E := E)) (Nat.le_of_ble_eq_true rfl) (Nat.le_of_ble_eq_true rfl) ?_
  rw [a_lenq (q := 3) ho rfl]
  refine v_dupr dX7_init_19 ?_
  refine v_aload_0 dX7_init_20 ?_
  refine g_X7_10 rfl dX7_init_21 (by rw [a_push]; exact (a_get0 ho).trans rfl) ?_
  refine i_X7_18 rfl dX7_init_24 ⟨(Nat.le_of_ble_eq_true rfl), (Nat.le_of_ble_eq_true rfl)⟩ (Nat.le_of_ble_eq_true rfl) ⟨(Nat.le_of_ble_eq_true rfl), (Nat.le_of_ble_eq_true rfl)⟩ (c_X5_init (a_lenq (q := 3) ho rfl) ?_)
  rw [a_push]
  refine p_X7_21 rfl rfl dX7_init_27 ((a_get0 ho).trans rfl) ?_
  rw [a_set0 ho]
  refine v_aload_0 dX7_init_30 ?_
  refine v_new (ci := 1) (n := 2) (T := TX1) (Cq := RX1) (ty0 := tyX1) (fs := [ro E none, iv 0]) dX7_init_31 rfl inX1 tyX1_ok (pl 141 (by decide +kernel)) (pl 142 (by decide +kernel)) (pl 52 (by decide +kernel)) (dvX1 (E := E)) (Nat.le_of_ble_eq_true rfl) (Nat.le_of_ble_eq_true rfl) ?_
  rw [a_lenq (q := 5) ho rfl]
  refine v_dupr dX7_init_34 ?_
  refine i_X7_27 rfl dX7_init_35 ⟨(Nat.le_of_ble_eq_true rfl), (Nat.le_of_ble_eq_true rfl)⟩ (Nat.le_of_ble_eq_true rfl) ⟨(Nat.le_of_ble_eq_true rfl), (Nat.le_of_ble_eq_true rfl)⟩ (c_X1_init (a_lenq (q := 5) ho rfl) (fun g hg => ?_))
  rw [a_push]
  refine p_X7_28 rfl rfl dX7_init_38 ((a_get0 ho).trans rfl) ?_
  rw [a_set0 ho]
  refine v_aload_0 dX7_init_41 ?_
  refine v_new (ci := 2) (n := 8) (T := TX2) (Cq := RX2) (ty0 := tyX2) (fs := [ro E none, ro E none, ro E none, ro E none, iv 0, iv 0, iv 0, iv 0]) dX7_init_42 rfl inX2 tyX2_ok (pl 182 (by decide +kernel)) (pl 183 (by decide +kernel)) (pl 54 (by decide +kernel)) (dvX2 (E := E)) (Nat.le_of_ble_eq_true rfl) (Nat.le_of_ble_eq_true rfl) ?_
  rw [a_lenq (q := 17) ho rfl]
  refine v_dupr dX7_init_45 ?_
  refine i_X7_34 rfl dX7_init_46 ⟨(Nat.le_of_ble_eq_true rfl), (Nat.le_of_ble_eq_true rfl)⟩ (Nat.le_of_ble_eq_true rfl) ⟨(Nat.le_of_ble_eq_true rfl), (Nat.le_of_ble_eq_true rfl)⟩ (c_X2_init (a_lenq (q := 17) ho rfl) (fun g1 hg1 => ?_))
  rw [a_push]
  refine p_X7_35 rfl dX7_init_49 ((a_get0 ho).trans rfl) ?_
  rw [a_set0 ho]
  refine v_aload_0 dX7_init_52 ?_
  refine v_new (ci := 2) (n := 8) (T := TX2) (Cq := RX2) (ty0 := tyX2) (fs := [ro E none, ro E none, ro E none, ro E none, iv 0, iv 0, iv 0, iv 0]) dX7_init_53 rfl inX2 tyX2_ok (pl 182 (by decide +kernel)) (pl 183 (by decide +kernel)) (pl 54 (by decide +kernel)) (dvX2 (E := E)) (Nat.le_of_ble_eq_true rfl) (Nat.le_of_ble_eq_true rfl) ?_
  rw [a_lenq (q := 43) ho rfl]
  refine v_dupr dX7_init_56 ?_
  refine i_X7_34 rfl dX7_init_57 ⟨(Nat.le_of_ble_eq_true rfl), (Nat.le_of_ble_eq_true rfl)⟩ (Nat.le_of_ble_eq_true rfl) ⟨(Nat.le_of_ble_eq_true rfl), (Nat.le_of_ble_eq_true rfl)⟩ (c_X2_init (a_lenq (q := 43) ho rfl) (fun g2 hg2 => ?_))
  rw [a_push]
  refine p_X7_39 rfl dX7_init_60 ((a_get0 ho).trans rfl) ?_
  rw [a_set0 ho]
  refine v_aload_0 dX7_init_63 ?_
  refine g_X7_35 rfl dX7_init_64 ((a_get0 ho).trans rfl) ?_
  refine l_X7_42 (b := 17) rfl dX7_init_67 ((a_get (k := 17) ho).trans rfl) ⟨(Nat.le_of_ble_eq_true rfl), (Nat.le_of_ble_eq_true rfl)⟩ (Nat.le_of_ble_eq_true rfl) ⟨(Nat.le_of_ble_eq_true rfl), (Nat.le_of_ble_eq_true rfl)⟩ (c_X2_tellFirst (off_new (o := 17) (g := g1) (fun b hb => by rcases (show b = 0 ∨ b = 1 ∨ b = 2 ∨ b = 3 ∨ b = 4 ∨ b = 5 ∨ b = 6 ∨ b = 7 ∨ b = 8 ∨ b = 9 ∨ b = 10 ∨ b = 11 ∨ b = 12 ∨ b = 13 ∨ b = 14 ∨ b = 15 ∨ b = 16 ∨ b = 17 ∨ b = 18 ∨ b = 19 ∨ b = 20 ∨ b = 21 ∨ b = 22 ∨ b = 23 ∨ b = 24 ∨ b = 25 by omega) with rfl | rfl | rfl | rfl | rfl | rfl | rfl | rfl | rfl | rfl | rfl | rfl | rfl | rfl | rfl | rfl | rfl | rfl | rfl | rfl | rfl | rfl | rfl | rfl | rfl | rfl <;> rfl) hg1) (fun M2 hO2 hf2 => ?_))
  exact v_vret dX7_init_70 rfl (Nat.le_of_ble_eq_true rfl) (Nat.le_of_ble_eq_true rfl) (hp M2 ⟨(hf2.2 0 (Or.inl (by decide))).trans rfl, ⟨(hf2.2 1 (Or.inl (by decide))).trans rfl, ⟨_, (hf2.2 2 (Or.inl (by decide))).trans rfl, fun j j0 j1 => by omega⟩, fun j j0 j1 => by omega, by decide, by decide⟩, ⟨0, 0, 0, 0, 0, 0, 0, 0, (hf2.2 3 (Or.inl (by decide))).trans rfl, (hf2.2 4 (Or.inl (by decide))).trans rfl⟩, hist_new (g := g) ((hf2.2 5 (Or.inl (by decide))).trans rfl) ((hf2.2 6 (Or.inl (by decide))).trans rfl) (fun j j0 j1 => hg j j0 j1) (fun j hj => by
      refine (hf2.2 (7 + j) (Or.inl (by omega))).trans ?_
      rcases (show j = 0 ∨ j = 1 ∨ j = 2 ∨ j = 3 ∨ j = 4 ∨ j = 5 ∨ j = 6 ∨ j = 7 ∨ j = 8 ∨ j = 9 by omega) with rfl | rfl | rfl | rfl | rfl | rfl | rfl | rfl | rfl | rfl <;> rfl), hO2, wN, (off_new (o := 43) (g := g2) (fun b hb => by
      refine (hf2.2 (43 + b) (Or.inr (by omega))).trans ?_
      rcases (show b = 0 ∨ b = 1 ∨ b = 2 ∨ b = 3 ∨ b = 4 ∨ b = 5 ∨ b = 6 ∨ b = 7 ∨ b = 8 ∨ b = 9 ∨ b = 10 ∨ b = 11 ∨ b = 12 ∨ b = 13 ∨ b = 14 ∨ b = 15 ∨ b = 16 ∨ b = 17 ∨ b = 18 ∨ b = 19 ∨ b = 20 ∨ b = 21 ∨ b = 22 ∨ b = 23 ∨ b = 24 ∨ b = 25 by omega) with rfl | rfl | rfl | rfl | rfl | rfl | rfl | rfl | rfl | rfl | rfl | rfl | rfl | rfl | rfl | rfl | rfl | rfl | rfl | rfl | rfl | rfl | rfl | rfl | rfl | rfl <;> rfl) hg2)⟩ (hf2.1.trans rfl))

set_option maxHeartbeats 4000000 in
set_option maxRecDepth 100000 in
theorem c_X8_init {E : Ev} {M0 : Mem} {Post : Option Value → Mem → Prop} {o : Nat} (ho : M0.length = o) (hp : Post none (M0 ++ [ob 8 [iv 0, rr E (o + 1), iv 0, iv 0, iv 0, iv 0, iv 0, iv 0, iv 0, iv 0, jv 0, rr E (o + 2), rr E (o + 3), rr E (o + 4), iv 0, iv 0, iv 0, rr E (o + 5)], ia E 0 640 (fun _ => 0), ia E 0 770 w0F, ia E 0 770 (fun _ => 0), ia E 0 7700 (fun _ => 0), ia E 0 60 (fun _ => 0)])) : Cn E rX8_init mX8_init [rr E o] (M0 ++ [ob 8 [iv 0, ro E none, iv 0, iv 0, iv 0, iv 0, iv 0, iv 0, iv 0, iv 0, jv 0, ro E none, ro E none, ro E none, iv 0, iv 0, iv 0, ro E none]]) Post := by
  refine Cn.of (L := [some (rr E o), none]) (by decide) (Nat.le_of_ble_eq_true rfl) rfl ?_
  refine v_aload_0 dX8_init_0 ?_
  refine oI dX8_init_1 (pl 672 (by decide +kernel)) (Nat.le_of_ble_eq_true rfl) (Nat.le_of_ble_eq_true rfl) ?_
  refine v_aload_0 dX8_init_4 ?_
  refine v_sipush dX8_init_5 (by decide) ?_
  refine a_newi (n := 640) 1 ho rfl dX8_init_8 (Nat.le_of_ble_eq_true rfl) (Nat.le_of_ble_eq_true rfl) (Nat.le_of_ble_eq_true rfl) ?_
  refine p_X8_7 rfl rfl dX8_init_10 ((a_get0 ho).trans rfl) ?_
  rw [a_set0 ho]
  refine v_aload_0 dX8_init_13 ?_
  refine v_sipush dX8_init_14 (by decide) ?_
  refine a_newi (n := 770) 2 ho rfl dX8_init_17 (Nat.le_of_ble_eq_true rfl) (Nat.le_of_ble_eq_true rfl) (Nat.le_of_ble_eq_true rfl) ?_
  refine p_X8_74 rfl rfl dX8_init_19 ((a_get0 ho).trans rfl) ?_
  rw [a_set0 ho]
  refine v_aload_0 dX8_init_22 ?_
  refine v_sipush dX8_init_23 (by decide) ?_
  refine a_newi (n := 770) 3 ho rfl dX8_init_26 (Nat.le_of_ble_eq_true rfl) (Nat.le_of_ble_eq_true rfl) (Nat.le_of_ble_eq_true rfl) ?_
  refine p_X8_77 rfl rfl dX8_init_28 ((a_get0 ho).trans rfl) ?_
  rw [a_set0 ho]
  refine v_aload_0 dX8_init_31 ?_
  refine v_sipush dX8_init_32 (by decide) ?_
  refine a_newi (n := 7700) 4 ho rfl dX8_init_35 (Nat.le_of_ble_eq_true rfl) (Nat.le_of_ble_eq_true rfl) (Nat.le_of_ble_eq_true rfl) ?_
  refine p_X8_80 rfl rfl dX8_init_37 ((a_get0 ho).trans rfl) ?_
  rw [a_set0 ho]
  refine v_aload_0 dX8_init_40 ?_
  refine v_bipush dX8_init_41 (by decide) ?_
  refine a_newi (n := 60) 5 ho rfl dX8_init_43 (Nat.le_of_ble_eq_true rfl) (Nat.le_of_ble_eq_true rfl) (Nat.le_of_ble_eq_true rfl) ?_
  refine p_X8_83 rfl rfl dX8_init_45 ((a_get0 ho).trans rfl) ?_
  rw [a_set0 ho]
  refine v_mem (M2 := M0 ++ [ob 8 [iv 0, rr E (o + 1), iv 0, iv 0, iv 0, iv 0, iv 0, iv 0, iv 0, iv 0, jv 0, rr E (o + 2), rr E (o + 3), rr E (o + 4), iv 0, iv 0, iv 0, rr E (o + 5)], ia E 0 640 (fun _ => 0), ia E 0 770 (fun _ => 0), ia E 0 770 (fun _ => 0), ia E 0 7700 (fun _ => 0), ia E 0 60 (fun _ => 0)]) rfl ?_
  refine v_aload_0 dX8_init_48 ?_
  refine g_X8_74 rfl dX8_init_49 ((a_get0 ho).trans rfl) ?_
  refine v_iconst dX8_init_52 ?_
  refine v_iconst dX8_init_53 ?_
  refine v_iastore dX8_init_54 ((a_get (k := 2) ho).trans rfl) (by decide) (by decide) (by decide) ?_
  rw [a_set (k := 2) ho]
  refine v_mem (M2 := M0 ++ [ob 8 [iv 0, rr E (o + 1), iv 0, iv 0, iv 0, iv 0, iv 0, iv 0, iv 0, iv 0, jv 0, rr E (o + 2), rr E (o + 3), rr E (o + 4), iv 0, iv 0, iv 0, rr E (o + 5)], ia E 0 640 (fun _ => 0), ia E 0 770 (upI (fun _ => 0) 1 1), ia E 0 770 (fun _ => 0), ia E 0 7700 (fun _ => 0), ia E 0 60 (fun _ => 0)]) rfl ?_
  refine v_aload_0 dX8_init_55 ?_
  refine g_X8_74 rfl dX8_init_56 ((a_get0 ho).trans rfl) ?_
  refine v_iconst dX8_init_59 ?_
  refine v_iconst dX8_init_60 ?_
  refine v_iastore dX8_init_61 ((a_get (k := 2) ho).trans rfl) (by decide) (by decide) (by decide) ?_
  rw [a_set (k := 2) ho]
  refine v_mem (M2 := M0 ++ [ob 8 [iv 0, rr E (o + 1), iv 0, iv 0, iv 0, iv 0, iv 0, iv 0, iv 0, iv 0, jv 0, rr E (o + 2), rr E (o + 3), rr E (o + 4), iv 0, iv 0, iv 0, rr E (o + 5)], ia E 0 640 (fun _ => 0), ia E 0 770 (upI (upI (fun _ => 0) 1 1) 2 1), ia E 0 770 (fun _ => 0), ia E 0 7700 (fun _ => 0), ia E 0 60 (fun _ => 0)]) rfl ?_
  refine v_aload_0 dX8_init_62 ?_
  refine g_X8_74 rfl dX8_init_63 ((a_get0 ho).trans rfl) ?_
  refine v_iconst dX8_init_66 ?_
  refine v_bipush dX8_init_67 (by decide) ?_
  refine v_iastore dX8_init_69 ((a_get (k := 2) ho).trans rfl) (by decide) (by decide) (by decide) ?_
  rw [a_set (k := 2) ho]
  refine v_mem (M2 := M0 ++ [ob 8 [iv 0, rr E (o + 1), iv 0, iv 0, iv 0, iv 0, iv 0, iv 0, iv 0, iv 0, jv 0, rr E (o + 2), rr E (o + 3), rr E (o + 4), iv 0, iv 0, iv 0, rr E (o + 5)], ia E 0 640 (fun _ => 0), ia E 0 770 (upI (upI (upI (fun _ => 0) 1 1) 2 1) 3 50), ia E 0 770 (fun _ => 0), ia E 0 7700 (fun _ => 0), ia E 0 60 (fun _ => 0)]) rfl ?_
  refine v_iconst dX8_init_70 ?_
  refine v_istore_1 dX8_init_71 (Nat.le_of_ble_eq_true rfl) rfl ?_
  refine v_iload_1 dX8_init_72 ?_
  refine v_iconst dX8_init_73 ?_
  refine v_icmp_ge (tgt := 98) dX8_init_74 rfl ⟨by omega, by omega⟩ ⟨by omega, by omega⟩ (fun c74 => absurd c74 (by omega)) (fun c74 => ?_)
  refine v_aload_0 dX8_init_77 ?_
  refine g_X8_74 rfl dX8_init_78 ((a_get0 ho).trans rfl) ?_
  refine v_iconst dX8_init_81 ?_
  refine v_iload_1 dX8_init_82 ?_
  refine v_iadd dX8_init_83 ?_
  refine v_bipush dX8_init_84 (by decide) ?_
  refine v_iload_1 dX8_init_86 ?_
  refine v_imul dX8_init_87 ?_
  refine v_bipush dX8_init_88 (by decide) ?_
  refine v_iadd dX8_init_90 ?_
  refine v_iastore dX8_init_91 ((a_get (k := 2) ho).trans rfl) (by decide) (by decide) (by decide) ?_
  rw [a_set (k := 2) ho]
  refine v_mem (M2 := M0 ++ [ob 8 [iv 0, rr E (o + 1), iv 0, iv 0, iv 0, iv 0, iv 0, iv 0, iv 0, iv 0, jv 0, rr E (o + 2), rr E (o + 3), rr E (o + 4), iv 0, iv 0, iv 0, rr E (o + 5)], ia E 0 640 (fun _ => 0), ia E 0 770 (upI (upI (upI (upI (fun _ => 0) 1 1) 2 1) 3 50) (4 + 0) (50 * 0 + 50)), ia E 0 770 (fun _ => 0), ia E 0 7700 (fun _ => 0), ia E 0 60 (fun _ => 0)]) rfl ?_
  refine v_iinc_1 dX8_init_92 (Nat.le_of_ble_eq_true rfl) rfl ?_
  refine v_goto (tgt := 72) dX8_init_95 rfl ?_
  refine v_iload_1 dX8_init_72 ?_
  refine v_iconst dX8_init_73 ?_
  refine v_icmp_ge (tgt := 98) dX8_init_74 rfl ⟨by omega, by omega⟩ ⟨by omega, by omega⟩ (fun c74 => absurd c74 (by omega)) (fun c74 => ?_)
  refine v_aload_0 dX8_init_77 ?_
  refine g_X8_74 rfl dX8_init_78 ((a_get0 ho).trans rfl) ?_
  refine v_iconst dX8_init_81 ?_
  refine v_iload_1 dX8_init_82 ?_
  refine v_iadd dX8_init_83 ?_
  refine v_bipush dX8_init_84 (by decide) ?_
  refine v_iload_1 dX8_init_86 ?_
  refine v_imul dX8_init_87 ?_
  refine v_bipush dX8_init_88 (by decide) ?_
  refine v_iadd dX8_init_90 ?_
  refine v_iastore dX8_init_91 ((a_get (k := 2) ho).trans rfl) (by decide) (by decide) (by decide) ?_
  rw [a_set (k := 2) ho]
  refine v_mem (M2 := M0 ++ [ob 8 [iv 0, rr E (o + 1), iv 0, iv 0, iv 0, iv 0, iv 0, iv 0, iv 0, iv 0, jv 0, rr E (o + 2), rr E (o + 3), rr E (o + 4), iv 0, iv 0, iv 0, rr E (o + 5)], ia E 0 640 (fun _ => 0), ia E 0 770 (upI (upI (upI (upI (upI (fun _ => 0) 1 1) 2 1) 3 50) (4 + 0) (50 * 0 + 50)) (4 + (0 + 1)) (50 * (0 + 1) + 50)), ia E 0 770 (fun _ => 0), ia E 0 7700 (fun _ => 0), ia E 0 60 (fun _ => 0)]) rfl ?_
  refine v_iinc_1 dX8_init_92 (Nat.le_of_ble_eq_true rfl) rfl ?_
  refine v_goto (tgt := 72) dX8_init_95 rfl ?_
  refine v_iload_1 dX8_init_72 ?_
  refine v_iconst dX8_init_73 ?_
  refine v_icmp_ge (tgt := 98) dX8_init_74 rfl ⟨by omega, by omega⟩ ⟨by omega, by omega⟩ (fun c74 => absurd c74 (by omega)) (fun c74 => ?_)
  refine v_aload_0 dX8_init_77 ?_
  refine g_X8_74 rfl dX8_init_78 ((a_get0 ho).trans rfl) ?_
  refine v_iconst dX8_init_81 ?_
  refine v_iload_1 dX8_init_82 ?_
  refine v_iadd dX8_init_83 ?_
  refine v_bipush dX8_init_84 (by decide) ?_
  refine v_iload_1 dX8_init_86 ?_
  refine v_imul dX8_init_87 ?_
  refine v_bipush dX8_init_88 (by decide) ?_
  refine v_iadd dX8_init_90 ?_
  refine v_iastore dX8_init_91 ((a_get (k := 2) ho).trans rfl) (by decide) (by decide) (by decide) ?_
  rw [a_set (k := 2) ho]
  refine v_mem (M2 := M0 ++ [ob 8 [iv 0, rr E (o + 1), iv 0, iv 0, iv 0, iv 0, iv 0, iv 0, iv 0, iv 0, jv 0, rr E (o + 2), rr E (o + 3), rr E (o + 4), iv 0, iv 0, iv 0, rr E (o + 5)], ia E 0 640 (fun _ => 0), ia E 0 770 (upI (upI (upI (upI (upI (upI (fun _ => 0) 1 1) 2 1) 3 50) (4 + 0) (50 * 0 + 50)) (4 + (0 + 1)) (50 * (0 + 1) + 50)) (4 + (0 + 1 + 1)) (50 * (0 + 1 + 1) + 50)), ia E 0 770 (fun _ => 0), ia E 0 7700 (fun _ => 0), ia E 0 60 (fun _ => 0)]) rfl ?_
  refine v_iinc_1 dX8_init_92 (Nat.le_of_ble_eq_true rfl) rfl ?_
  refine v_goto (tgt := 72) dX8_init_95 rfl ?_
  refine v_iload_1 dX8_init_72 ?_
  refine v_iconst dX8_init_73 ?_
  refine v_icmp_ge (tgt := 98) dX8_init_74 rfl ⟨by omega, by omega⟩ ⟨by omega, by omega⟩ (fun c74 => ?_) (fun c74 => absurd c74 (by omega))
  refine v_aload_0 dX8_init_98 ?_
  refine g_X8_74 rfl dX8_init_99 ((a_get0 ho).trans rfl) ?_
  refine v_bipush dX8_init_102 (by decide) ?_
  refine v_iconst dX8_init_104 ?_
  refine v_iastore dX8_init_105 ((a_get (k := 2) ho).trans rfl) (by decide) (by decide) (by decide) ?_
  rw [a_set (k := 2) ho]
  refine v_mem (M2 := M0 ++ [ob 8 [iv 0, rr E (o + 1), iv 0, iv 0, iv 0, iv 0, iv 0, iv 0, iv 0, iv 0, jv 0, rr E (o + 2), rr E (o + 3), rr E (o + 4), iv 0, iv 0, iv 0, rr E (o + 5)], ia E 0 640 (fun _ => 0), ia E 0 770 (upI (upI (upI (upI (upI (upI (upI (fun _ => 0) 1 1) 2 1) 3 50) (4 + 0) (50 * 0 + 50)) (4 + (0 + 1)) (50 * (0 + 1) + 50)) (4 + (0 + 1 + 1)) (50 * (0 + 1 + 1) + 50)) 7 1), ia E 0 770 (fun _ => 0), ia E 0 7700 (fun _ => 0), ia E 0 60 (fun _ => 0)]) rfl ?_
  refine v_aload_0 dX8_init_106 ?_
  refine g_X8_74 rfl dX8_init_107 ((a_get0 ho).trans rfl) ?_
  refine v_bipush dX8_init_110 (by decide) ?_
  refine v_iconst dX8_init_112 ?_
  refine v_iastore dX8_init_113 ((a_get (k := 2) ho).trans rfl) (by decide) (by decide) (by decide) ?_
  rw [a_set (k := 2) ho]
  refine v_mem (M2 := M0 ++ [ob 8 [iv 0, rr E (o + 1), iv 0, iv 0, iv 0, iv 0, iv 0, iv 0, iv 0, iv 0, jv 0, rr E (o + 2), rr E (o + 3), rr E (o + 4), iv 0, iv 0, iv 0, rr E (o + 5)], ia E 0 640 (fun _ => 0), ia E 0 770 (upI (upI (upI (upI (upI (upI (upI (upI (fun _ => 0) 1 1) 2 1) 3 50) (4 + 0) (50 * 0 + 50)) (4 + (0 + 1)) (50 * (0 + 1) + 50)) (4 + (0 + 1 + 1)) (50 * (0 + 1 + 1) + 50)) 7 1) 8 1), ia E 0 770 (fun _ => 0), ia E 0 7700 (fun _ => 0), ia E 0 60 (fun _ => 0)]) rfl ?_
  refine v_aload_0 dX8_init_114 ?_
  refine g_X8_74 rfl dX8_init_115 ((a_get0 ho).trans rfl) ?_
  refine v_bipush dX8_init_118 (by decide) ?_
  refine v_iconst dX8_init_120 ?_
  refine v_iastore dX8_init_121 ((a_get (k := 2) ho).trans rfl) (by decide) (by decide) (by decide) ?_
  rw [a_set (k := 2) ho]
  refine v_mem (M2 := M0 ++ [ob 8 [iv 0, rr E (o + 1), iv 0, iv 0, iv 0, iv 0, iv 0, iv 0, iv 0, iv 0, jv 0, rr E (o + 2), rr E (o + 3), rr E (o + 4), iv 0, iv 0, iv 0, rr E (o + 5)], ia E 0 640 (fun _ => 0), ia E 0 770 (upI (upI (upI (upI (upI (upI (upI (upI (upI (fun _ => 0) 1 1) 2 1) 3 50) (4 + 0) (50 * 0 + 50)) (4 + (0 + 1)) (50 * (0 + 1) + 50)) (4 + (0 + 1 + 1)) (50 * (0 + 1 + 1) + 50)) 7 1) 8 1) 9 2), ia E 0 770 (fun _ => 0), ia E 0 7700 (fun _ => 0), ia E 0 60 (fun _ => 0)]) rfl ?_
  refine v_aload_0 dX8_init_122 ?_
  refine g_X8_74 rfl dX8_init_123 ((a_get0 ho).trans rfl) ?_
  refine v_bipush dX8_init_126 (by decide) ?_
  refine v_bipush dX8_init_128 (by decide) ?_
  refine v_iastore dX8_init_130 ((a_get (k := 2) ho).trans rfl) (by decide) (by decide) (by decide) ?_
  rw [a_set (k := 2) ho]
  refine v_mem (M2 := M0 ++ [ob 8 [iv 0, rr E (o + 1), iv 0, iv 0, iv 0, iv 0, iv 0, iv 0, iv 0, iv 0, jv 0, rr E (o + 2), rr E (o + 3), rr E (o + 4), iv 0, iv 0, iv 0, rr E (o + 5)], ia E 0 640 (fun _ => 0), ia E 0 770 (upI (upI (upI (upI (upI (upI (upI (upI (upI (upI (fun _ => 0) 1 1) 2 1) 3 50) (4 + 0) (50 * 0 + 50)) (4 + (0 + 1)) (50 * (0 + 1) + 50)) (4 + (0 + 1 + 1)) (50 * (0 + 1 + 1) + 50)) 7 1) 8 1) 9 2) 12 100), ia E 0 770 (fun _ => 0), ia E 0 7700 (fun _ => 0), ia E 0 60 (fun _ => 0)]) rfl ?_
  refine v_aload_0 dX8_init_131 ?_
  refine g_X8_74 rfl dX8_init_132 ((a_get0 ho).trans rfl) ?_
  refine v_bipush dX8_init_135 (by decide) ?_
  refine v_bipush dX8_init_137 (by decide) ?_
  refine v_iastore dX8_init_139 ((a_get (k := 2) ho).trans rfl) (by decide) (by decide) (by decide) ?_
  rw [a_set (k := 2) ho]
  refine v_mem (M2 := M0 ++ [ob 8 [iv 0, rr E (o + 1), iv 0, iv 0, iv 0, iv 0, iv 0, iv 0, iv 0, iv 0, jv 0, rr E (o + 2), rr E (o + 3), rr E (o + 4), iv 0, iv 0, iv 0, rr E (o + 5)], ia E 0 640 (fun _ => 0), ia E 0 770 (upI (upI (upI (upI (upI (upI (upI (upI (upI (upI (upI (fun _ => 0) 1 1) 2 1) 3 50) (4 + 0) (50 * 0 + 50)) (4 + (0 + 1)) (50 * (0 + 1) + 50)) (4 + (0 + 1 + 1)) (50 * (0 + 1 + 1) + 50)) 7 1) 8 1) 9 2) 12 100) 13 100), ia E 0 770 (fun _ => 0), ia E 0 7700 (fun _ => 0), ia E 0 60 (fun _ => 0)]) rfl ?_
  have e : upI (upI (upI (upI (upI (upI (upI (upI (upI (upI (upI (fun _ => 0) 1 1) 2 1) 3 50) (4 + 0) (50 * 0 + 50)) (4 + (0 + 1)) (50 * (0 + 1) + 50)) (4 + (0 + 1 + 1)) (50 * (0 + 1 + 1) + 50)) 7 1) 8 1) 9 2) 12 100) 13 100 = w0F := rfl
  exact v_vret dX8_init_140 rfl (Nat.le_of_ble_eq_true rfl) (Nat.le_of_ble_eq_true rfl) (by rw [e]; exact hp)

