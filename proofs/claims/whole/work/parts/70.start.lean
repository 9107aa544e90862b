def tmS (i : Nat) : Term := .string RX5 (ixS.getD i 0)
theorem flatS {args : Array Value} {s : State} (hgv : (Jvm.Cond.and given_1 narrow_1).before args s = true) {w : Cond} (hw : w ∈ flatC (Jvm.Cond.and given_1 narrow_1)) : w.before args s = true := flat_of_before _ hgv w hw
theorem arrT {s : State} {cA : ClassId} {k : Class} {comp : ClassId} {ty : FieldType} (h1 : s.vm.classes[cA]? = some k) (h2 : k.kind = .array comp ty) : ArrOfT s cA ty := fun N z => ⟨(fun k h => by cases h), k, h1, comp, h2⟩
set_option maxRecDepth 100000 in
theorem st_ex {args : Array Value} {s : State} (hgv : (Jvm.Cond.and given_1 narrow_1).before args s = true) : ∀ i : Nat, i < 6 → (Cond.exactly (tmS i) "java/lang/String").before args s = true := by
  intro i hi
  rcases (show i = 0 ∨ i = 1 ∨ i = 2 ∨ i = 3 ∨ i = 4 ∨ i = 5 by omega) with rfl | rfl | rfl | rfl | rfl | rfl <;> exact flatS hgv (by decide +kernel)
set_option maxRecDepth 100000 in
theorem st_co {args : Array Value} {s : State} (hgv : (Jvm.Cond.and given_1 narrow_1).before args s = true) : ∀ i : Nat, i < 6 → (Cond.eq (.field (tmS i) "java/lang/String" "coder" "B") (.int 0)).before args s = true := by
  intro i hi
  rcases (show i = 0 ∨ i = 1 ∨ i = 2 ∨ i = 3 ∨ i = 4 ∨ i = 5 by omega) with rfl | rfl | rfl | rfl | rfl | rfl <;> exact flatS hgv (by decide +kernel)
set_option maxRecDepth 100000 in
theorem st_ar {args : Array Value} {s : State} (hgv : (Jvm.Cond.and given_1 narrow_1).before args s = true) : ∀ i : Nat, i < 6 → (Cond.arrayOf (.field (tmS i) "java/lang/String" "value" "[B") .byte).before args s = true := by
  intro i hi
  rcases (show i = 0 ∨ i = 1 ∨ i = 2 ∨ i = 3 ∨ i = 4 ∨ i = 5 by omega) with rfl | rfl | rfl | rfl | rfl | rfl <;> exact flatS hgv (by decide +kernel)
set_option maxRecDepth 100000 in
theorem st_le {args : Array Value} {s : State} (hgv : (Jvm.Cond.and given_1 narrow_1).before args s = true) : ∀ i : Nat, i < 6 → (Cond.eq (.length (.field (tmS i) "java/lang/String" "value" "[B")) (.int (Int32.ofNat (lenS.getD i 0)))).before args s = true := by
  intro i hi
  rcases (show i = 0 ∨ i = 1 ∨ i = 2 ∨ i = 3 ∨ i = 4 ∨ i = 5 by omega) with rfl | rfl | rfl | rfl | rfl | rfl <;> exact flatS hgv (by decide +kernel)
set_option maxRecDepth 100000 in
theorem st_el0 {args : Array Value} {s : State} (hgv : (Jvm.Cond.and given_1 narrow_1).before args s = true) (j : Nat) (hj : j < 5) : (Cond.eq (.elem (.field (tmS 0) "java/lang/String" "value" "[B") (.int (Int32.ofNat j))) (.int ((bytS.getD 0 []).getD j 0))).before args s = true := by
  rcases (show j = 0 ∨ j = 1 ∨ j = 2 ∨ j = 3 ∨ j = 4 by omega) with rfl | rfl | rfl | rfl | rfl <;> exact flatS hgv (by decide +kernel)
set_option maxRecDepth 100000 in
theorem st_el1 {args : Array Value} {s : State} (hgv : (Jvm.Cond.and given_1 narrow_1).before args s = true) (j : Nat) (hj : j < 6) : (Cond.eq (.elem (.field (tmS 1) "java/lang/String" "value" "[B") (.int (Int32.ofNat j))) (.int ((bytS.getD 1 []).getD j 0))).before args s = true := by
  rcases (show j = 0 ∨ j = 1 ∨ j = 2 ∨ j = 3 ∨ j = 4 ∨ j = 5 by omega) with rfl | rfl | rfl | rfl | rfl | rfl <;> exact flatS hgv (by decide +kernel)
set_option maxRecDepth 100000 in
theorem st_el2 {args : Array Value} {s : State} (hgv : (Jvm.Cond.and given_1 narrow_1).before args s = true) (j : Nat) (hj : j < 9) : (Cond.eq (.elem (.field (tmS 2) "java/lang/String" "value" "[B") (.int (Int32.ofNat j))) (.int ((bytS.getD 2 []).getD j 0))).before args s = true := by
  rcases (show j = 0 ∨ j = 1 ∨ j = 2 ∨ j = 3 ∨ j = 4 ∨ j = 5 ∨ j = 6 ∨ j = 7 ∨ j = 8 by omega) with rfl | rfl | rfl | rfl | rfl | rfl | rfl | rfl | rfl <;> exact flatS hgv (by decide +kernel)
set_option maxRecDepth 100000 in
theorem st_el3 {args : Array Value} {s : State} (hgv : (Jvm.Cond.and given_1 narrow_1).before args s = true) (j : Nat) (hj : j < 7) : (Cond.eq (.elem (.field (tmS 3) "java/lang/String" "value" "[B") (.int (Int32.ofNat j))) (.int ((bytS.getD 3 []).getD j 0))).before args s = true := by
  rcases (show j = 0 ∨ j = 1 ∨ j = 2 ∨ j = 3 ∨ j = 4 ∨ j = 5 ∨ j = 6 by omega) with rfl | rfl | rfl | rfl | rfl | rfl | rfl <;> exact flatS hgv (by decide +kernel)
set_option maxRecDepth 100000 in
theorem st_el4 {args : Array Value} {s : State} (hgv : (Jvm.Cond.and given_1 narrow_1).before args s = true) (j : Nat) (hj : j < 6) : (Cond.eq (.elem (.field (tmS 4) "java/lang/String" "value" "[B") (.int (Int32.ofNat j))) (.int ((bytS.getD 4 []).getD j 0))).before args s = true := by
  rcases (show j = 0 ∨ j = 1 ∨ j = 2 ∨ j = 3 ∨ j = 4 ∨ j = 5 by omega) with rfl | rfl | rfl | rfl | rfl | rfl <;> exact flatS hgv (by decide +kernel)
set_option maxRecDepth 100000 in
theorem st_el5 {args : Array Value} {s : State} (hgv : (Jvm.Cond.and given_1 narrow_1).before args s = true) (j : Nat) (hj : j < 1) : (Cond.eq (.elem (.field (tmS 5) "java/lang/String" "value" "[B") (.int (Int32.ofNat j))) (.int ((bytS.getD 5 []).getD j 0))).before args s = true := by
  rcases (show j = 0 by omega) with rfl <;> exact flatS hgv (by decide +kernel)
theorem st_el {args : Array Value} {s : State} (hgv : (Jvm.Cond.and given_1 narrow_1).before args s = true) : ∀ i : Nat, i < 6 → ∀ j : Nat, j < lenS.getD i 0 → (Cond.eq (.elem (.field (tmS i) "java/lang/String" "value" "[B") (.int (Int32.ofNat j))) (.int ((bytS.getD i []).getD j 0))).before args s = true := by
  intro i hi j hj
  rcases (show i = 0 ∨ i = 1 ∨ i = 2 ∨ i = 3 ∨ i = 4 ∨ i = 5 by omega) with rfl | rfl | rfl | rfl | rfl | rfl
  · exact st_el0 hgv j hj
  · exact st_el1 hgv j hj
  · exact st_el2 hgv j hj
  · exact st_el3 hgv j hj
  · exact st_el4 hgv j hj
  · exact st_el5 hgv j hj
set_option maxRecDepth 100000 in
theorem st_ne {args : Array Value} {s : State} (hgv : (Jvm.Cond.and given_1 narrow_1).before args s = true) : ∀ i j : Nat, i < 6 → j < 6 → i ≠ j → (Cond.not (Cond.eq (tmS i) (tmS j))).before args s = true ∨ (Cond.not (Cond.eq (tmS j) (tmS i))).before args s = true := by
  intro i j hi hj hij
  rcases (show i = 0 ∨ i = 1 ∨ i = 2 ∨ i = 3 ∨ i = 4 ∨ i = 5 by omega) with rfl | rfl | rfl | rfl | rfl | rfl <;> rcases (show j = 0 ∨ j = 1 ∨ j = 2 ∨ j = 3 ∨ j = 4 ∨ j = 5 by omega) with rfl | rfl | rfl | rfl | rfl | rfl <;> first | exact absurd rfl hij | exact Or.inl (flatS hgv (by decide +kernel)) | exact Or.inr (flatS hgv (by decide +kernel))
set_option maxRecDepth 100000 in
set_option maxHeartbeats 4000000 in
theorem whole_start {p : Program} {e : Env} {s : State} {m : MethodId} {below : List Frame} {meth : Method} {c : Code} (l : Launch) (hflags : l.flags = flags0) {b L : Nat} {xs : Nat → Int32} (hL : L ≤ 3072) (C0 : lw_At p s m meth c b L xs) : W p l e room_1 s m #[Value.ref b] below meth c s.heap [] 0 0 (lw_Z below #[Value.ref b] s) (entryFrame m ([Value.ref b] : List Value).toArray 4) := by
  obtain ⟨hx, hb, hr, hml, hown, hts, hX, hbl, hlocks, hgv, hnm⟩ := C0
  have htg : ∀ w ∈ lw_tbl.filter goodWord, w.before #[Value.ref b] s = true := fun w hw => hts w (List.mem_filter.mp hw).1
  obtain ⟨c0, iS0, hKn0⟩ := u_known (C := RX0) (T := TX0) (N := 6) (n := 6) htg inX0 (hts _ (pl 149 (by decide +kernel)))
  obtain ⟨c1, iS1, hKn1⟩ := u_known (C := RX1) (T := TX1) (N := 2) (n := 2) htg inX1 (hts _ (pl 142 (by decide +kernel)))
  obtain ⟨c2, iS2, hKn2⟩ := u_known (C := RX2) (T := TX2) (N := 8) (n := 8) htg inX2 (hts _ (pl 183 (by decide +kernel)))
  obtain ⟨c3, iS3, hKn3⟩ := u_known (C := RX3) (T := TX3) (N := 5) (n := 5) htg inX3 (hts _ (pl 192 (by decide +kernel)))
  obtain ⟨c4, iS4, hKn4⟩ := u_known (C := RX4) (T := TX4) (N := 2) (n := 2) htg inX4 (hts _ (pl 72 (by decide +kernel)))
  obtain ⟨c5, iS5, hKn5⟩ := u_known (C := RX5) (T := TX5) (N := 6) (n := 6) htg inX5 (hts _ (pl 89 (by decide +kernel)))
  obtain ⟨c6, iS6, hKn6⟩ := u_known (C := RX6) (T := TX6) (N := 5) (n := 5) htg inX6 (hts _ (pl 95 (by decide +kernel)))
  obtain ⟨c7, iS7, hKn7⟩ := u_known (C := RX7) (T := TX7) (N := 5) (n := 5) htg inX7 (hts _ (pl 64 (by decide +kernel)))
  obtain ⟨c8, iS8, hKn8⟩ := u_known (C := RX8) (T := TX8) (N := 18) (n := 18) htg inX8 (hts _ (pl 662 (by decide +kernel)))
  obtain ⟨dC, dI, hKc⟩ : ∃ (dC : Nat → ClassId) (dI : Nat → Nat → Nat), ∀ (k : Nat) (q : vw_C), vwCl[k]? = some q → u_Kn s q.1 q.2.1 q.2.2 (dC k) (dI k) := by
    refine ⟨fun k => if k = 0 then c0 else if k = 1 then c1 else if k = 2 then c2 else if k = 3 then c3 else if k = 4 then c4 else if k = 5 then c5 else if k = 6 then c6 else if k = 7 then c7 else c8, fun k => if k = 0 then iS0 else if k = 1 then iS1 else if k = 2 then iS2 else if k = 3 then iS3 else if k = 4 then iS4 else if k = 5 then iS5 else if k = 6 then iS6 else if k = 7 then iS7 else iS8, ?_⟩
    intro k q hq
    match k, hq with
    | 0, hq => cases hq; exact hKn0
    | 1, hq => cases hq; exact hKn1
    | 2, hq => cases hq; exact hKn2
    | 3, hq => cases hq; exact hKn3
    | 4, hq => cases hq; exact hKn4
    | 5, hq => cases hq; exact hKn5
    | 6, hq => cases hq; exact hKn6
    | 7, hq => cases hq; exact hKn7
    | 8, hq => cases hq; exact hKn8
    | k + 9, hq => simp [vwCl] at hq
  obtain ⟨a0, k0, p0, f0, f01, f02⟩ := Cond.arrayClass_spec (args := #[Value.ref b]) (first := s) (o := none) (s := s) (idx := []) (type := .int) (hts _ (pl 216 (by decide +kernel)))
  obtain ⟨a1, k1, p1, f1, f11, f12⟩ := Cond.arrayClass_spec (args := #[Value.ref b]) (first := s) (o := none) (s := s) (idx := []) (type := .byte) (hts _ (pl 87 (by decide +kernel)))
  have hv2 : va_AO RX0 s := va_AO.of (hts _ (pl 148 (by decide +kernel)))
  have hv3 : va_AO RX3 s := va_AO.of (hts _ (pl 189 (by decide +kernel)))
  have hv4 : va_AOA .int s := (show (Cond.arrayOver (.array .int)).before #[Value.ref b] s = true from (hts _ (pl 191 (by decide +kernel))))
  obtain ⟨p2, a2, k2, g21, g22, g23, g24, g25⟩ := Cond.arrayOver_spec hv2
  obtain ⟨p3, a3, k3, g31, g32, g33, g34, g35⟩ := Cond.arrayOver_spec hv3
  obtain ⟨p4, a4, k4, g41, g42, g43, g44, g45⟩ := ao_spec hv4
  have hA : ∀ a : Nat, a < s.heap.size → ¬ (fun q : Nat => s.heap.size ≤ q) a := fun a h q => by have q1 : s.heap.size ≤ a := q; omega
  obtain ⟨adK, adV, hSt, hEv⟩ := vk_Sof (N := 6) (tm := tmS) (len := lenS) (byt := bytS) (A := fun q : Nat => s.heap.size ≤ q) (fun i hi => by rcases (show i = 0 ∨ i = 1 ∨ i = 2 ∨ i = 3 ∨ i = 4 ∨ i = 5 by omega) with rfl | rfl | rfl | rfl | rfl | rfl <;> decide) (st_ex hgv) (st_co hgv) (st_ar hgv) (st_le hgv) (st_el hgv) (st_ne hgv) hA
  have hZ := va_Zof (A := fun q : Nat => s.heap.size ≤ q) (C := "java/lang/String") (n := "COMPACT_STRINGS") (d := "Z") (v := .int 1) (hts _ (pl 360 (by decide +kernel))) (hts _ (pl 58 (by decide +kernel))) (va_eqt (flatS hgv (by decide +kernel))) hA
  have hZq := va_Zqof (A := fun q : Nat => s.heap.size ≤ q) (C := "jdk/internal/util/Preconditions") (n := "SIOOBE_FORMATTER") (d := "Ljava/util/function/BiFunction;") (hts _ (pl 376 (by decide +kernel))) (hts _ (pl 60 (by decide +kernel))) (flatS hgv (by decide +kernel)) hA
  obtain ⟨cF, hc0, hc1, hc2, hc3, hc4⟩ : ∃ cF : Nat → ClassId, cF 0 = a0 ∧ cF 1 = a1 ∧ cF 2 = a2 ∧ cF 3 = a3 ∧ cF 4 = a4 := ⟨fun k => if k = 0 then a0 else if k = 1 then a1 else if k = 2 then a2 else if k = 3 then a3 else a4, rfl, rfl, rfl, rfl, rfl⟩
  obtain ⟨E, hE⟩ : ∃ E : Ev, E = (l, s.heap.size, (dC, dI), cF, adK, adV, b, L, xs) := ⟨_, rfl⟩
  have hK : KS E s s.heap := by
    rw [hE]
    refine ⟨⟨hKc, fun k q hk => ?_⟩, ⟨fun w hw hn => va_Nw.of (A := #[Value.ref b]) (nest_tab hn) (hts w hw), hv2, hv3, hv4⟩, hSt, fun i hi => ?_, hX, hbl, hL, hZ, hZq⟩
    · match k, hk with
      | 0, hk => cases hk; show ArrOfT s (cF 0) .int ∧ va_RA s (cF 0) .int; rw [hc0]; exact ⟨arrT f01 f02, f0⟩
      | 1, hk => cases hk; show ArrOfT s (cF 1) .byte ∧ va_RA s (cF 1) .byte; rw [hc1]; exact ⟨arrT f11 f12, f1⟩
      | 2, hk => cases hk; show ArrOfT s (cF 2) (.object RX0) ∧ va_RA s (cF 2) (.object RX0); rw [hc2]; exact ⟨arrT g23 g24, k2, p2, g23, g24, g21, g25⟩
      | 3, hk => cases hk; show ArrOfT s (cF 3) (.object RX3) ∧ va_RA s (cF 3) (.object RX3); rw [hc3]; exact ⟨arrT g33 g34, k3, p3, g33, g34, g31, g35⟩
      | 4, hk => cases hk; show ArrOfT s (cF 4) (.array .int) ∧ va_RA s (cF 4) (.array .int); rw [hc4]; exact ⟨arrT g43 g44, g45⟩
      | k + 5, hk => simp [tysE] at hk
    · refine vk_R.of (A := #[Value.ref b]) ?_ (hEv i hi)
      rcases (show i = 0 ∨ i = 1 ∨ i = 2 ∨ i = 3 ∨ i = 4 ∨ i = 5 by omega) with rfl | rfl | rfl | rfl | rfl | rfl
      · exact (hts _ (pl 342 (by decide +kernel)))
      · exact (hts _ (pl 424 (by decide +kernel)))
      · exact (hts _ (pl 429 (by decide +kernel)))
      · exact (hts _ (pl 444 (by decide +kernel)))
      · exact (hts _ (pl 454 (by decide +kernel)))
      · exact (hts _ (pl 463 (by decide +kernel)))
  have hEb : E.b = s.heap.size := by rw [hE]
  have hEl : E.l = l := by rw [hE]
  have hEs : E.sb = b := by rw [hE]
  have hEL : E.sL = L := by rw [hE]
  have hPS : PS E [] s.heap := ⟨fun k q h => by simp [wl] at h, by rw [hEb]; rfl⟩
  rw [lg_entry_eq]
  have hl := lv_entry ([.ref b]) (n := 4) (Nat.le_of_ble_eq_true rfl)
  generalize (lg_sl ([.ref b]) ++ List.replicate (4 - (lg_sl ([.ref b])).length) Slot.unset).toArray = ls at hl ⊢
  have hl : lv_has ls 4 (asc 0 [some (xr b), none, none, none]) := hl
  have hB := lw_body (E := E) (by rw [hEL]; exact hL)
  rw [hEs] at hB
  have hW := hB p e s m #[Value.ref b] below meth c s.heap [] ls s.drawn ⟨hx, hb, hr, hlocks, hml, hown, hnm, fun w hw hg => hts w hw, hK, by rw [hEb]; exact Nat.le_refl _⟩ (Drawn.sameBut.refl s.drawn lw_cs) hPS va_S.rf hl
  rw [hEl] at hW
  refine W.base ?_
  intro T hT X
  obtain ⟨t, a, bq⟩ := hW T hT X
  exact ⟨t, a, bq ⟨hEb.symm, by rw [hEs]⟩⟩
