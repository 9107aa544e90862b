theorem dvX0 {E : Ev} : ∀ j, j < 6 → defaultValue (tyX0 j) = vp_V [iv 0, iv 0, iv 0, iv 0, iv 0, iv 0] j := fun j hj => by rcases (show j = 0 ∨ j = 1 ∨ j = 2 ∨ j = 3 ∨ j = 4 ∨ j = 5 by omega) with rfl | rfl | rfl | rfl | rfl | rfl <;> rfl
theorem dvX1 {E : Ev} : ∀ j, j < 2 → defaultValue (tyX1 j) = vp_V [ro E none, iv 0] j := fun j hj => by rcases (show j = 0 ∨ j = 1 by omega) with rfl | rfl <;> rfl
theorem dvX2 {E : Ev} : ∀ j, j < 8 → defaultValue (tyX2 j) = vp_V [ro E none, ro E none, ro E none, ro E none, iv 0, iv 0, iv 0, iv 0] j := fun j hj => by rcases (show j = 0 ∨ j = 1 ∨ j = 2 ∨ j = 3 ∨ j = 4 ∨ j = 5 ∨ j = 6 ∨ j = 7 by omega) with rfl | rfl | rfl | rfl | rfl | rfl | rfl | rfl <;> rfl
theorem dvX3 {E : Ev} : ∀ j, j < 5 → defaultValue (tyX3 j) = vp_V [ro E none, ro E none, iv 0, iv 0, iv 0] j := fun j hj => by rcases (show j = 0 ∨ j = 1 ∨ j = 2 ∨ j = 3 ∨ j = 4 by omega) with rfl | rfl | rfl | rfl | rfl <;> rfl
theorem dvX4 {E : Ev} : ∀ j, j < 2 → defaultValue (tyX4 j) = vp_V [ro E none, iv 0] j := fun j hj => by rcases (show j = 0 ∨ j = 1 by omega) with rfl | rfl <;> rfl
theorem dvX5 {E : Ev} : ∀ j, j < 6 → defaultValue (tyX5 j) = vp_V [ro E none, iv 0, iv 0, iv 0, iv 0, iv 0] j := fun j hj => by rcases (show j = 0 ∨ j = 1 ∨ j = 2 ∨ j = 3 ∨ j = 4 ∨ j = 5 by omega) with rfl | rfl | rfl | rfl | rfl | rfl <;> rfl
theorem dvX6 {E : Ev} : ∀ j, j < 5 → defaultValue (tyX6 j) = vp_V [ro E none, iv 0, iv 0, iv 0, iv 0] j := fun j hj => by rcases (show j = 0 ∨ j = 1 ∨ j = 2 ∨ j = 3 ∨ j = 4 by omega) with rfl | rfl | rfl | rfl | rfl <;> rfl
theorem dvX7 {E : Ev} : ∀ j, j < 5 → defaultValue (tyX7 j) = vp_V [ro E none, ro E none, ro E none, ro E none, ro E none] j := fun j hj => by rcases (show j = 0 ∨ j = 1 ∨ j = 2 ∨ j = 3 ∨ j = 4 by omega) with rfl | rfl | rfl | rfl | rfl <;> rfl
theorem dvX8 {E : Ev} : ∀ j, j < 18 → defaultValue (tyX8 j) = vp_V [iv 0, ro E none, iv 0, iv 0, iv 0, iv 0, iv 0, iv 0, iv 0, iv 0, jv 0, ro E none, ro E none, ro E none, iv 0, iv 0, iv 0, ro E none] j := fun j hj => by rcases (show j = 0 ∨ j = 1 ∨ j = 2 ∨ j = 3 ∨ j = 4 ∨ j = 5 ∨ j = 6 ∨ j = 7 ∨ j = 8 ∨ j = 9 ∨ j = 10 ∨ j = 11 ∨ j = 12 ∨ j = 13 ∨ j = 14 ∨ j = 15 ∨ j = 16 ∨ j = 17 by omega) with rfl | rfl | rfl | rfl | rfl | rfl | rfl | rfl | rfl | rfl | rfl | rfl | rfl | rfl | rfl | rfl | rfl | rfl <;> rfl
section ALLOC4
variable {E : Ev} {R : Room} {mi : MI} {fin : Fin9} {K N : Nat} {M0 xs : Mem} {o : Nat} {pc : Nat} {L : List (Option Value)} {st : List Value}
theorem a_newi {n : Nat} (q : Nat) (ho : M0.length = o) (hq : xs.length = q) (d : decode mi.cc pc = .ok (.newarray .int, 2)) (hn : n ≤ 10000) (hcells : K + 1 ≤ R.cells) (hslots : N + n ≤ R.slots) (k : V E R mi fin (K + 1) (N + n) (M0 ++ (xs ++ [ia E 0 n (fun _ => 0)])) (pc + 2) L (rr E (o + q) :: st)) : V E R mi fin K N (M0 ++ xs) pc L (iv (n : Nat) :: st) := by
  refine v_newi d (pl 216 (by decide +kernel)) hn hcells hslots ?_
  rw [a_push, a_len ho, hq]
  exact k
theorem a_newb {n : Nat} (q : Nat) (ho : M0.length = o) (hq : xs.length = q) (d : decode mi.cc pc = .ok (.newarray .byte, 2)) (hn : n ≤ 10000) (hcells : K + 1 ≤ R.cells) (hslots : N + n ≤ R.slots) (k : V E R mi fin (K + 1) (N + n) (M0 ++ (xs ++ [ia E 1 n (fun _ => 0)])) (pc + 2) L (rr E (o + q) :: st)) : V E R mi fin K N (M0 ++ xs) pc L (iv (n : Nat) :: st) := by
  refine v_newb d (pl 87 (by decide +kernel)) hn hcells hslots ?_
  rw [a_push, a_len ho, hq]
  exact k
theorem a_newq {n t idx : Nat} {Cq : String} (q : Nat) (ho : M0.length = o) (hq : xs.length = q) (d : decode mi.cc pc = .ok (.anewarray idx, 3)) (ht : (tysE E)[t]? = some (E.c t, .object Cq)) (hv : ∀ U, Ov U → va_AO Cq U) (hcl : Cond.classLink mi.y.cls idx Cq ∈ lw_tbl) (hn : n ≤ 10000) (hcells : K + 1 ≤ R.cells) (hslots : N + n ≤ R.slots) (k : V E R mi fin (K + 1) (N + n) (M0 ++ (xs ++ [ra E t n (fun _ => none)])) (pc + 3) L (rr E (o + q) :: st)) : V E R mi fin K N (M0 ++ xs) pc L (iv (n : Nat) :: st) := by
  refine v_newq d ht hv hcl hn hcells hslots ?_
  rw [a_push, a_len ho, hq]
  exact k
theorem a_mna {n w idx : Nat} (q : Nat) (ho : M0.length = o) (hq : xs.length = q) (d : decode mi.cc pc = .ok (.multianewarray idx 2, 4)) (hcl : Cond.classLink mi.y.cls idx "[[I" ∈ lw_tbl) (hn : n ≤ 1000) (hw : w ≤ 1000) (hcells : K + (1 + n) ≤ R.cells) (hslots : N + (n + n * w) ≤ R.slots) (k : V E R mi fin (K + 1 + n) (N + n + n * w) (M0 ++ (xs ++ (ra E 4 n (gR (o + q) n) :: List.replicate n (ia E 0 w (fun _ => 0))))) (pc + 4) L (rr E (o + q) :: st)) : V E R mi fin K N (M0 ++ xs) pc L (iv (w : Nat) :: iv (n : Nat) :: st) := by
  refine v_mna d hcl (pl 216 (by decide +kernel)) hn hw hcells hslots ?_
  rw [a_push, a_len ho, hq]
  exact k
theorem a_lenq {q : Nat} (ho : M0.length = o) (hq : xs.length = q) : (M0 ++ xs).length = o + q := by rw [a_len ho, hq]
theorem oI {b idx : Nat} (d : decode mi.cc pc = .ok (.invokespecial idx, 3)) {M : Mem} (hlk : Cond.methodLink mi.y.cls idx Lib.objectInit ∈ lw_tbl) (hR : 1 ≤ R.frames) (hR2 : 20 ≤ R.locals) (k : V E R mi fin K N M (pc + 3) L []) : V E R mi fin K N M pc L [rr E b] := v_objI d hlk (pl 69 (by decide +kernel)) (pl 70 (by decide +kernel)) hR hR2 k
end ALLOC4
section LINKS2
variable {E : Ev} {R : Room} {mi : MI} {fin : Fin9} {K N : Nat} {M : Mem} {pc : Nat} {L : List (Option Value)} {st : List Value}
theorem i_L_9 {b : Nat} {rest : List Value} (hy : mi.y.cls = RL) (d : decode mi.cc pc = .ok (.invokespecial 9, 3)) (hR : rX7_init.frames + 1 ≤ R.frames ∧ 8 + (mX7_init.nL + 11) + rX7_init.locals ≤ R.locals) (hw : (rest.map fun v => v.category).sum ≤ 8) (hf : K + rX7_init.cells ≤ R.cells ∧ N + rX7_init.slots ≤ R.slots) (k : Cn E rX7_init mX7_init [rr E b] M (fun r M2 => V E R mi fin (K + rX7_init.cells) (N + rX7_init.slots) M2 (pc + 3) L (pu r rest))) : V E R mi fin K N M pc L (rr E b :: rest) := by
  rw [← pu_fun] at k
  exact v_callI (q := mX7_init) (Rq := rX7_init) (As := []) d (by rw [hy]; exact pl 65 (by decide +kernel)) mfX7_init rfl hR hw hf k
theorem i_L_12 {b : Nat} {rest : List Value} (hy : mi.y.cls = RL) (d : decode mi.cc pc = .ok (.invokespecial 12, 3)) (hR : rX8_init.frames + 1 ≤ R.frames ∧ 8 + (mX8_init.nL + 11) + rX8_init.locals ≤ R.locals) (hw : (rest.map fun v => v.category).sum ≤ 8) (hf : K + rX8_init.cells ≤ R.cells ∧ N + rX8_init.slots ≤ R.slots) (k : Cn E rX8_init mX8_init [rr E b] M (fun r M2 => V E R mi fin (K + rX8_init.cells) (N + rX8_init.slots) M2 (pc + 3) L (pu r rest))) : V E R mi fin K N M pc L (rr E b :: rest) := by
  rw [← pu_fun] at k
  exact v_callI (q := mX8_init) (Rq := rX8_init) (As := []) d (by rw [hy]; exact pl 669 (by decide +kernel)) mfX8_init rfl hR hw hf k
theorem i_X1_17 {b : Nat} {rest : List Value} (hy : mi.y.cls = RX1) (d : decode mi.cc pc = .ok (.invokespecial 17, 3)) (hR : rX0_init.frames + 1 ≤ R.frames ∧ 8 + (mX0_init.nL + 11) + rX0_init.locals ≤ R.locals) (hw : (rest.map fun v => v.category).sum ≤ 8) (hf : K + rX0_init.cells ≤ R.cells ∧ N + rX0_init.slots ≤ R.slots) (k : Cn E rX0_init mX0_init [rr E b] M (fun r M2 => V E R mi fin (K + rX0_init.cells) (N + rX0_init.slots) M2 (pc + 3) L (pu r rest))) : V E R mi fin K N M pc L (rr E b :: rest) := by
  rw [← pu_fun] at k
  exact v_callIN (host := "AirIndex") (q := mX0_init) (Rq := rX0_init) (As := []) d (by rw [hy]; exact pl 150 (by decide +kernel)) mfX0_init rfl hR hw hf k
theorem i_X2_29 {b : Nat} {rest : List Value} (hy : mi.y.cls = RX2) (d : decode mi.cc pc = .ok (.invokespecial 29, 3)) (hR : rX3_init.frames + 1 ≤ R.frames ∧ 8 + (mX3_init.nL + 11) + rX3_init.locals ≤ R.locals) (hw : (rest.map fun v => v.category).sum ≤ 8) (hf : K + rX3_init.cells ≤ R.cells ∧ N + rX3_init.slots ≤ R.slots) (k : Cn E rX3_init mX3_init [rr E b] M (fun r M2 => V E R mi fin (K + rX3_init.cells) (N + rX3_init.slots) M2 (pc + 3) L (pu r rest))) : V E R mi fin K N M pc L (rr E b :: rest) := by
  rw [← pu_fun] at k
  exact v_callIN (host := "AirIndex") (q := mX3_init) (Rq := rX3_init) (As := []) d (by rw [hy]; exact pl 193 (by decide +kernel)) mfX3_init rfl hR hw hf k
theorem i_X5_11 {b : Nat} {a1 : Value} {rest : List Value} (hy : mi.y.cls = RX5) (d : decode mi.cc pc = .ok (.invokespecial 11, 3)) (hR : rX6_init.frames + 1 ≤ R.frames ∧ 8 + (mX6_init.nL + 11) + rX6_init.locals ≤ R.locals) (hw : (rest.map fun v => v.category).sum ≤ 8) (hf : K + rX6_init.cells ≤ R.cells ∧ N + rX6_init.slots ≤ R.slots) (k : Cn E rX6_init mX6_init [rr E b, a1] M (fun r M2 => V E R mi fin (K + rX6_init.cells) (N + rX6_init.slots) M2 (pc + 3) L (pu r rest))) : V E R mi fin K N M pc L (a1 :: rr E b :: rest) := by
  rw [← pu_fun] at k
  exact v_callI (q := mX6_init) (Rq := rX6_init) (As := [a1]) d (by rw [hy]; exact pl 96 (by decide +kernel)) mfX6_init rfl hR hw hf k
theorem i_X7_9 {b : Nat} {rest : List Value} (hy : mi.y.cls = RX7) (d : decode mi.cc pc = .ok (.invokespecial 9, 3)) (hR : rX4_init.frames + 1 ≤ R.frames ∧ 8 + (mX4_init.nL + 11) + rX4_init.locals ≤ R.locals) (hw : (rest.map fun v => v.category).sum ≤ 8) (hf : K + rX4_init.cells ≤ R.cells ∧ N + rX4_init.slots ≤ R.slots) (k : Cn E rX4_init mX4_init [rr E b] M (fun r M2 => V E R mi fin (K + rX4_init.cells) (N + rX4_init.slots) M2 (pc + 3) L (pu r rest))) : V E R mi fin K N M pc L (rr E b :: rest) := by
  rw [← pu_fun] at k
  exact v_callIN (host := "AirIndex") (q := mX4_init) (Rq := rX4_init) (As := []) d (by rw [hy]; exact pl 73 (by decide +kernel)) mfX4_init rfl hR hw hf k
theorem i_X7_18 {b : Nat} {a1 : Value} {rest : List Value} (hy : mi.y.cls = RX7) (d : decode mi.cc pc = .ok (.invokespecial 18, 3)) (hR : rX5_init.frames + 1 ≤ R.frames ∧ 8 + (mX5_init.nL + 11) + rX5_init.locals ≤ R.locals) (hw : (rest.map fun v => v.category).sum ≤ 8) (hf : K + rX5_init.cells ≤ R.cells ∧ N + rX5_init.slots ≤ R.slots) (k : Cn E rX5_init mX5_init [rr E b, a1] M (fun r M2 => V E R mi fin (K + rX5_init.cells) (N + rX5_init.slots) M2 (pc + 3) L (pu r rest))) : V E R mi fin K N M pc L (a1 :: rr E b :: rest) := by
  rw [← pu_fun] at k
  exact v_callI (q := mX5_init) (Rq := rX5_init) (As := [a1]) d (by rw [hy]; exact pl 90 (by decide +kernel)) mfX5_init rfl hR hw hf k
theorem i_X7_27 {b : Nat} {rest : List Value} (hy : mi.y.cls = RX7) (d : decode mi.cc pc = .ok (.invokespecial 27, 3)) (hR : rX1_init.frames + 1 ≤ R.frames ∧ 8 + (mX1_init.nL + 11) + rX1_init.locals ≤ R.locals) (hw : (rest.map fun v => v.category).sum ≤ 8) (hf : K + rX1_init.cells ≤ R.cells ∧ N + rX1_init.slots ≤ R.slots) (k : Cn E rX1_init mX1_init [rr E b] M (fun r M2 => V E R mi fin (K + rX1_init.cells) (N + rX1_init.slots) M2 (pc + 3) L (pu r rest))) : V E R mi fin K N M pc L (rr E b :: rest) := by
  rw [← pu_fun] at k
  exact v_callI (q := mX1_init) (Rq := rX1_init) (As := []) d (by rw [hy]; exact pl 143 (by decide +kernel)) mfX1_init rfl hR hw hf k
theorem i_X7_34 {b : Nat} {rest : List Value} (hy : mi.y.cls = RX7) (d : decode mi.cc pc = .ok (.invokespecial 34, 3)) (hR : rX2_init.frames + 1 ≤ R.frames ∧ 8 + (mX2_init.nL + 11) + rX2_init.locals ≤ R.locals) (hw : (rest.map fun v => v.category).sum ≤ 8) (hf : K + rX2_init.cells ≤ R.cells ∧ N + rX2_init.slots ≤ R.slots) (k : Cn E rX2_init mX2_init [rr E b] M (fun r M2 => V E R mi fin (K + rX2_init.cells) (N + rX2_init.slots) M2 (pc + 3) L (pu r rest))) : V E R mi fin K N M pc L (rr E b :: rest) := by
  rw [← pu_fun] at k
  exact v_callI (q := mX2_init) (Rq := rX2_init) (As := []) d (by rw [hy]; exact pl 184 (by decide +kernel)) mfX2_init rfl hR hw hf k
end LINKS2
set_option maxRecDepth 100000 in
theorem c_X0_init {E : Ev} {M : Mem} {Post : Option Value → Mem → Prop} {a : Nat} (hp : Post none M) : Cn E rX0_init mX0_init [rr E a] M Post := by
  refine Cn.of (L := [some (rr E a)]) (by decide) (Nat.le_of_ble_eq_true rfl) rfl ?_
  refine v_aload_0 dX0_init_0 ?_
  refine oI dX0_init_1 (pl 153 (by decide +kernel)) (Nat.le_of_ble_eq_true rfl) (Nat.le_of_ble_eq_true rfl) ?_
  exact v_vret dX0_init_4 rfl (Nat.le_refl _) (Nat.le_refl _) hp

set_option maxRecDepth 100000 in
theorem c_X6_init {E : Ev} {M : Mem} {Post : Option Value → Mem → Prop} {t a : Nat} (hK : M[t]? = some (ob 6 [ro E none, iv 0, iv 0, iv 0, iv 0])) (hp : Post none (M.set t (ob 6 [rr E a, iv 0, iv 0, iv 0, iv 0]))) : Cn E rX6_init mX6_init [rr E t, rr E a] M Post := by
  refine Cn.of (L := [some (rr E t), some (rr E a)]) (by decide) (Nat.le_of_ble_eq_true rfl) rfl ?_
  refine v_aload_0 dX6_init_0 ?_
  refine oI dX6_init_1 (pl 99 (by decide +kernel)) (Nat.le_of_ble_eq_true rfl) (Nat.le_of_ble_eq_true rfl) ?_
  refine v_aload_0 dX6_init_4 ?_
  refine v_aload_1 dX6_init_5 ?_
  refine p_X6_9 rfl rfl dX6_init_6 hK ?_
  exact v_vret dX6_init_9 rfl (Nat.le_refl _) (Nat.le_refl _) hp

set_option maxRecDepth 100000 in
theorem c_X4_init {E : Ev} {M0 : Mem} {Post : Option Value → Mem → Prop} {o : Nat} (ho : M0.length = o) (hp : Post none (M0 ++ [ob 4 [rr E (o + 1), iv 0], ia E 1 640 (fun _ => 0)])) : Cn E rX4_init mX4_init [rr E o] (M0 ++ [ob 4 [ro E none, iv 0]]) Post := by
  refine Cn.of (L := [some (rr E o)]) (by decide) (Nat.le_of_ble_eq_true rfl) rfl ?_
  refine v_aload_0 dX4_init_0 ?_
  refine oI dX4_init_1 (pl 76 (by decide +kernel)) (Nat.le_of_ble_eq_true rfl) (Nat.le_of_ble_eq_true rfl) ?_
  refine v_aload_0 dX4_init_4 ?_
  refine v_sipush dX4_init_5 (by decide) ?_
  refine a_newb (n := 640) 1 ho rfl dX4_init_8 (Nat.le_of_ble_eq_true rfl) (Nat.le_of_ble_eq_true rfl) (Nat.le_of_ble_eq_true rfl) ?_
  refine p_X4_9 rfl rfl dX4_init_10 ((a_get0 ho).trans rfl) ?_
  rw [a_set0 ho]
  exact v_vret dX4_init_13 rfl (Nat.le_refl _) (Nat.le_refl _) hp

set_option maxRecDepth 100000 in
theorem c_X3_init {E : Ev} {M0 : Mem} {Post : Option Value → Mem → Prop} {o : Nat} (ho : M0.length = o) (hp : Post none (M0 ++ [ob 3 [rr E (o + 1), rr E (o + 2), iv 0, iv 0, iv 0], ia E 0 5 (fun _ => 0), ia E 0 5 (fun _ => 0)])) : Cn E rX3_init mX3_init [rr E o] (M0 ++ [ob 3 [ro E none, ro E none, iv 0, iv 0, iv 0]]) Post := by
  refine Cn.of (L := [some (rr E o)]) (by decide) (Nat.le_of_ble_eq_true rfl) rfl ?_
  refine v_aload_0 dX3_init_0 ?_
  refine oI dX3_init_1 (pl 196 (by decide +kernel)) (Nat.le_of_ble_eq_true rfl) (Nat.le_of_ble_eq_true rfl) ?_
  refine v_aload_0 dX3_init_4 ?_
  refine v_iconst dX3_init_5 ?_
  refine a_newi (n := 5) 1 ho rfl dX3_init_6 (Nat.le_of_ble_eq_true rfl) (Nat.le_of_ble_eq_true rfl) (Nat.le_of_ble_eq_true rfl) ?_
  refine p_X3_9 rfl rfl dX3_init_8 ((a_get0 ho).trans rfl) ?_
  rw [a_set0 ho]
  refine v_aload_0 dX3_init_11 ?_
  refine v_iconst dX3_init_12 ?_
  refine a_newi (n := 5) 2 ho rfl dX3_init_13 (Nat.le_of_ble_eq_true rfl) (Nat.le_of_ble_eq_true rfl) (Nat.le_of_ble_eq_true rfl) ?_
  refine p_X3_15 rfl rfl dX3_init_15 ((a_get0 ho).trans rfl) ?_
  rw [a_set0 ho]
  exact v_vret dX3_init_18 rfl (Nat.le_refl _) (Nat.le_refl _) hp

set_option maxRecDepth 100000 in
theorem c_X5_init {E : Ev} {M0 : Mem} {Post : Option Value → Mem → Prop} {o : Nat} (ho : M0.length = o) {t : Nat} (hp : Post none (M0 ++ [ob 5 [rr E (o + 1), iv 0, iv 0, iv 0, iv 0, iv 0], ob 6 [rr E t, iv 0, iv 0, iv 0, iv 0]])) : Cn E rX5_init mX5_init [rr E o, rr E t] (M0 ++ [ob 5 [ro E none, iv 0, iv 0, iv 0, iv 0, iv 0]]) Post := by
  refine Cn.of (L := [some (rr E o), some (rr E t)]) (by decide) (Nat.le_of_ble_eq_true rfl) rfl ?_
  refine v_aload_0 dX5_init_0 ?_
  refine oI dX5_init_1 (pl 93 (by decide +kernel)) (Nat.le_of_ble_eq_true rfl) (Nat.le_of_ble_eq_true rfl) ?_
  refine v_aload_0 dX5_init_4 ?_
  refine v_new (ci := 6) (n := 5) (T := TX6) (Cq := RX6) (ty0 := tyX6) (fs := [ro E none, iv 0, iv 0, iv 0, iv 0]) dX5_init_5 rfl inX6 tyX6_ok (pl 94 (by decide +kernel)) (pl 95 (by decide +kernel)) (pl 51 (by decide +kernel)) dvX6 (Nat.le_of_ble_eq_true rfl) (Nat.le_of_ble_eq_true rfl) ?_
  rw [a_lenq (q := 1) ho rfl, a_push]
  refine v_dupr dX5_init_8 ?_
  refine v_aload_1 dX5_init_9 ?_
  refine i_X5_11 rfl dX5_init_10 ⟨(Nat.le_of_ble_eq_true rfl), (Nat.le_of_ble_eq_true rfl)⟩ (Nat.le_of_ble_eq_true rfl) ⟨(Nat.le_of_ble_eq_true rfl), (Nat.le_of_ble_eq_true rfl)⟩ (c_X6_init ((a_get ho).trans rfl) ?_)
  rw [a_set ho]
  refine p_X5_14 rfl rfl dX5_init_13 ((a_get0 ho).trans rfl) ?_
  rw [a_set0 ho]
  exact v_vret dX5_init_16 rfl (Nat.le_refl _) (Nat.le_refl _) hp

