/-- the reference between calls -/
def RfS (E : Ev) (M : Mem) (w : Int → Int) (n : Nat) (rows : Nat → Int → Int) (T : Int → Int) (L fk : Int) : Prop :=
  (∃ f0, RS E M 69 70 71 72 73 74 f0 L fk (n : Int)) ∧ M[70]? = some (ia E 0 640 T) ∧ M[71]? = some (ia E 0 770 w) ∧ (∃ u, M[72]? = some (ia E 0 770 u)) ∧ (∃ sn, M[73]? = some (ia E 0 7700 sn) ∧ SnAt n rows sn) ∧ ∃ bf, M[74]? = some (ia E 0 60 bf)
/-- THE LAW'S INVARIANT: class and reference hold the same office, the same past, the same tape, the same fault -/
def LI (E : Ev) (M : Mem) : Prop := ∃ (o d : Nat) (w : Int → Int) (n : Nat) (rows : Nat → Int → Int) (T : Int → Int) (L fk : Int), ((o = 17 ∧ d = 43) ∨ (o = 43 ∧ d = 17)) ∧ ClS E M o d w n rows T L fk ∧ RfS E M w n rows T L fk ∧ n ≤ 10 ∧ rows n = w ∧ ∀ i : Nat, i ≤ n → WF (rows i)
theorem RdS.fr {E : Ev} {M M2 : Mem} {r a : Nat} {fk : Int} (h : RdS E M r a fk) (e1 : M2[r]? = M[r]?) (e2 : M2[r + 1]? = M[r + 1]?) : RdS E M2 r a fk := by
  obtain ⟨ln, fp, tk, td, k1, k2, k3, k4, h1, h2⟩ := h
  exact ⟨ln, fp, tk, td, k1, k2, k3, k4, e1.trans h1, e2.trans h2⟩
theorem ClS.fr {E : Ev} {M M2 : Mem} {o d : Nat} {w : Int → Int} {n : Nat} {rows : Nat → Int → Int} {T : Int → Int} {L fk : Int} (h : ClS E M o d w n rows T L fk) (hod : (o = 17 ∧ d = 43) ∨ (o = 43 ∧ d = 17)) (hk : ∀ b, b < 69 → M2[b]? = M[b]?) : ClS E M2 o d w n rows T L fk := by
  obtain ⟨h1, h2, h3, h4, h5, wd, h6⟩ := h
  exact ⟨(hk 0 (by decide)).trans h1, h2.fr (hk 1 (by decide)) (hk 2 (by decide)), h3.fr (hk 3 (by decide)) (hk 4 (by decide)), h4.keep (fun b b1 b2 => hk b (by omega)), h5.fr (fun b b1 b2 => hk b (by omega)), wd, h6.fr (fun b b1 b2 => hk b (by omega))⟩
theorem ClS.mv {E : Ev} {M M2 : Mem} {o d : Nat} {w w2 : Int → Int} {n n2 : Nat} {rows rows2 : Nat → Int → Int} {T : Int → Int} {L fk : Int} (h : ClS E M o d w n rows T L fk) (hod : (o = 17 ∧ d = 43) ∨ (o = 43 ∧ d = 17)) (hO : OffAt E M2 o w2) (hH : HistAt E M2 5 n2 rows2) (hf : Fr2 o 5 M M2) : ClS E M2 o d w2 n2 rows2 T L fk := by
  obtain ⟨h1, h2, h3, h4, h5, wd, h6⟩ := h
  exact ⟨(hf.2 0 (by omega) (by omega)).trans h1, h2.fr (hf.2 1 (by omega) (by omega)) (hf.2 2 (by omega) (by omega)), h3.fr (hf.2 3 (by omega) (by omega)) (hf.2 4 (by omega) (by omega)), hH, hO, wd, h6.fr (fun b b1 b2 => hf.2 b (by omega) (by omega))⟩
theorem RS.fr {E : Ev} {M M2 : Mem} {m t a rd c q : Nat} {f0 : Value} {n fa cnt : Int} (h : RS E M m t a rd c q f0 n fa cnt) (e : M2[m]? = M[m]?) : RS E M2 m t a rd c q f0 n fa cnt := by
  obtain ⟨sz, to, fr, so, nu, pl, wd, td, ln, hm⟩ := h
  exact ⟨sz, to, fr, so, nu, pl, wd, td, ln, e.trans hm⟩
theorem RfS.fr {E : Ev} {M M2 : Mem} {w : Int → Int} {n : Nat} {rows : Nat → Int → Int} {T : Int → Int} {L fk : Int} (h : RfS E M w n rows T L fk) (hk : ∀ b, 69 ≤ b → M2[b]? = M[b]?) : RfS E M2 w n rows T L fk := by
  obtain ⟨⟨f0, h0⟩, h1, h2, ⟨u, h3⟩, ⟨sn, h4, h4b⟩, bf, h5⟩ := h
  exact ⟨⟨f0, h0.fr (hk 69 (by decide))⟩, (hk 70 (by decide)).trans h1, (hk 71 (by decide)).trans h2, ⟨u, (hk 72 (by decide)).trans h3⟩, ⟨sn, (hk 73 (by decide)).trans h4, h4b⟩, bf, (hk 74 (by decide)).trans h5⟩
theorem set_lo {M : Mem} {a b : Nat} {e : va_E} (ha : 69 ≤ a) (hb : b < 69) : (M.set a e)[b]? = M[b]? := List.getElem?_set_ne (by omega)
theorem rows_push {n : Nat} {rows : Nat → Int → Int} {w2 : Int → Int} (hn : n ≤ 10) (hW : ∀ i : Nat, i ≤ n → WF (rows i)) (h2 : WF w2) : ∀ i : Nat, i ≤ bn n + 1 → WF (pushR n rows w2 i) := by
  intro i hi
  by_cases h : i ≤ bn n
  · rw [push_old h]
    unfold br
    unfold bn at h
    split at h
    · rw [if_pos (by assumption)]
      exact hW i h
    · rw [if_neg (by assumption)]
      exact hW (i + 1) (by omega)
  · rw [show i = bn n + 1 by omega, push_last]
    exact h2
theorem sn_push {n : Nat} {rows : Nat → Int → Int} {w2 sn : Int → Int} (h : SnAt (bn n + 1) (br n rows) sn) : SnAt (bn n + 1) (pushR n rows w2) sn := by
  intro i hi k k0 k1
  rw [push_old (by omega)]
  exact h i hi k k0 k1
theorem pr_read {E : Ev} {M : Mem} (h : LI E M) {a b c : Int} (i_a : I32 a) (i_b : I32 b) (i_c : I32 c) {P : Option Value → Mem → Prop} (hp : ∀ (z : Int) (M1 : Mem), (∃ fs, M1[69]? = some (ob 8 fs)) → (∀ Q : Option Value → Mem → Prop, (∀ M2, LI E M2 → Q (some (iv z)) M2) → Cn E rX8_read mX8_read [rr E 69, iv a, iv b, iv c] M1 Q) → P (some (iv z)) M1) : Cn E rX7_read mX7_read [rr E 0, iv a, iv b, iv c] M P := by
  have h0 := h
  obtain ⟨o, d, w, n, rows, T, L, fk, hod, hC, hR, hn, hr, hW⟩ := h
  have hw : WF w := hr ▸ hW n (Nat.le_refl _)
  have hC0 := hC
  have hR0 := hR
  obtain ⟨hX, hA, hD, hH, hO, hDr⟩ := hC
  obtain ⟨⟨f0, sz, to, fr, so, nu, pl, wd, td, ln, hm⟩, h70, h71, ⟨u, h72⟩, ⟨sn, h73, hsn⟩, bf, h74⟩ := hR
  exact c_X7_read hX hO hw i_a i_b i_c (hp _ M ⟨_, hm⟩ (fun Q hQ => c_X8_read hm h71 hw i_a i_b i_c (hQ M h0)))
theorem pr_mean {E : Ev} {M : Mem} (h : LI E M) {a b c : Int} (i_a : I32 a) (i_b : I32 b) (i_c : I32 c) {P : Option Value → Mem → Prop} (hp : ∀ (z : Int) (M1 : Mem), (∃ fs, M1[69]? = some (ob 8 fs)) → (∀ Q : Option Value → Mem → Prop, (∀ M2, LI E M2 → Q (some (iv z)) M2) → Cn E rX8_mean mX8_mean [rr E 69, iv a, iv b, iv c] M1 Q) → P (some (iv z)) M1) : Cn E rX7_mean mX7_mean [rr E 0, iv a, iv b, iv c] M P := by
  have h0 := h
  obtain ⟨o, d, w, n, rows, T, L, fk, hod, hC, hR, hn, hr, hW⟩ := h
  have hw : WF w := hr ▸ hW n (Nat.le_refl _)
  have hC0 := hC
  have hR0 := hR
  obtain ⟨hX, hA, hD, hH, hO, hDr⟩ := hC
  obtain ⟨⟨f0, sz, to, fr, so, nu, pl, wd, td, ln, hm⟩, h70, h71, ⟨u, h72⟩, ⟨sn, h73, hsn⟩, bf, h74⟩ := hR
  exact c_X7_mean hX hO hw i_a i_b i_c (hp _ M ⟨_, hm⟩ (fun Q hQ => c_X8_mean hm h71 hw i_a i_b i_c (hQ M h0)))
theorem pr_scale {E : Ev} {M : Mem} (h : LI E M) {a b : Int} (i_a : I32 a) (i_b : I32 b) {P : Option Value → Mem → Prop} (hp : ∀ (z : Int) (M1 : Mem), (∃ fs, M1[69]? = some (ob 8 fs)) → (∀ Q : Option Value → Mem → Prop, (∀ M2, LI E M2 → Q (some (iv z)) M2) → Cn E rX8_scale mX8_scale [rr E 69, iv a, iv b] M1 Q) → P (some (iv z)) M1) : Cn E rX7_scale mX7_scale [rr E 0, iv a, iv b] M P := by
  have h0 := h
  obtain ⟨o, d, w, n, rows, T, L, fk, hod, hC, hR, hn, hr, hW⟩ := h
  have hw : WF w := hr ▸ hW n (Nat.le_refl _)
  have hC0 := hC
  have hR0 := hR
  obtain ⟨hX, hA, hD, hH, hO, hDr⟩ := hC
  obtain ⟨⟨f0, sz, to, fr, so, nu, pl, wd, td, ln, hm⟩, h70, h71, ⟨u, h72⟩, ⟨sn, h73, hsn⟩, bf, h74⟩ := hR
  exact c_X7_scale hX hO hw i_a i_b (hp _ M ⟨_, hm⟩ (fun Q hQ => c_X8_scale hm h71 hw i_a i_b (hQ M h0)))
theorem pr_back {E : Ev} {M : Mem} (h : LI E M) {a b : Int} (i_a : I32 a) (i_b : I32 b) {P : Option Value → Mem → Prop} (hp : ∀ (z : Int) (M1 : Mem), (∃ fs, M1[69]? = some (ob 8 fs)) → (∀ Q : Option Value → Mem → Prop, (∀ M2, LI E M2 → Q (some (iv z)) M2) → Cn E rX8_back mX8_back [rr E 69, iv a, iv b] M1 Q) → P (some (iv z)) M1) : Cn E rX7_back mX7_back [rr E 0, iv a, iv b] M P := by
  have h0 := h
  obtain ⟨o, d, w, n, rows, T, L, fk, hod, hC, hR, hn, hr, hW⟩ := h
  have hw : WF w := hr ▸ hW n (Nat.le_refl _)
  have hC0 := hC
  have hR0 := hR
  obtain ⟨hX, hA, hD, hH, hO, hDr⟩ := hC
  obtain ⟨⟨f0, sz, to, fr, so, nu, pl, wd, td, ln, hm⟩, h70, h71, ⟨u, h72⟩, ⟨sn, h73, hsn⟩, bf, h74⟩ := hR
  exact c_X7_back hX hO hw i_a i_b (hp _ M ⟨_, hm⟩ (fun Q hQ => c_X8_back hm h71 hw i_a i_b (hQ M h0)))
theorem pr_sub {E : Ev} {M : Mem} (h : LI E M) {a b c : Int} (i_a : I32 a) (i_b : I32 b) (i_c : I32 c) {P : Option Value → Mem → Prop} (hp : ∀ (z : Int) (M1 : Mem), (∃ fs, M1[69]? = some (ob 8 fs)) → (∀ Q : Option Value → Mem → Prop, (∀ M2, LI E M2 → Q (some (iv z)) M2) → Cn E rX8_sub mX8_sub [rr E 69, iv a, iv b, iv c] M1 Q) → P (some (iv z)) M1) : Cn E rX7_sub mX7_sub [rr E 0, iv a, iv b, iv c] M P := by
  have h0 := h
  obtain ⟨o, d, w, n, rows, T, L, fk, hod, hC, hR, hn, hr, hW⟩ := h
  have hw : WF w := hr ▸ hW n (Nat.le_refl _)
  have hC0 := hC
  have hR0 := hR
  obtain ⟨hX, hA, hD, hH, hO, hDr⟩ := hC
  obtain ⟨⟨f0, sz, to, fr, so, nu, pl, wd, td, ln, hm⟩, h70, h71, ⟨u, h72⟩, ⟨sn, h73, hsn⟩, bf, h74⟩ := hR
  exact c_X7_sub hX hO hw i_a i_b i_c (hp _ M ⟨_, hm⟩ (fun Q hQ => c_X8_sub hm h71 hw i_a i_b i_c (hQ M h0)))
theorem pr_index {E : Ev} {M : Mem} (h : LI E M) {a b c : Int} (i_a : I32 a) (i_b : I32 b) (i_c : I32 c) {P : Option Value → Mem → Prop} (hp : ∀ (z : Int) (M1 : Mem), (∃ fs, M1[69]? = some (ob 8 fs)) → (∀ Q : Option Value → Mem → Prop, (∀ M2, LI E M2 → Q (some (iv z)) M2) → Cn E rX8_index mX8_index [rr E 69, iv a, iv b, iv c] M1 Q) → P (some (iv z)) M1) : Cn E rX7_index mX7_index [rr E 0, iv a, iv b, iv c] M P := by
  have h0 := h
  obtain ⟨o, d, w, n, rows, T, L, fk, hod, hC, hR, hn, hr, hW⟩ := h
  have hw : WF w := hr ▸ hW n (Nat.le_refl _)
  have hC0 := hC
  have hR0 := hR
  obtain ⟨hX, hA, hD, hH, hO, hDr⟩ := hC
  obtain ⟨⟨f0, sz, to, fr, so, nu, pl, wd, td, ln, hm⟩, h70, h71, ⟨u, h72⟩, ⟨sn, h73, hsn⟩, bf, h74⟩ := hR
  exact c_X7_index hX hO hw i_a i_b i_c (hp _ M ⟨_, hm⟩ (fun Q hQ => c_X8_index hm h71 hw i_a i_b i_c (hQ M h0)))
theorem pr_district {E : Ev} {M : Mem} (h : LI E M) {a b c : Int} (i_a : I32 a) (i_b : I32 b) (i_c : I32 c) {P : Option Value → Mem → Prop} (hp : ∀ (z : Int) (M1 : Mem), (∃ fs, M1[69]? = some (ob 8 fs)) → (∀ Q : Option Value → Mem → Prop, (∀ M2, LI E M2 → Q (some (iv z)) M2) → Cn E rX8_district mX8_district [rr E 69, iv a, iv b, iv c] M1 Q) → P (some (iv z)) M1) : Cn E rX7_district mX7_district [rr E 0, iv a, iv b, iv c] M P := by
  have h0 := h
  obtain ⟨o, d, w, n, rows, T, L, fk, hod, hC, hR, hn, hr, hW⟩ := h
  have hw : WF w := hr ▸ hW n (Nat.le_refl _)
  have hC0 := hC
  have hR0 := hR
  obtain ⟨hX, hA, hD, hH, hO, hDr⟩ := hC
  obtain ⟨⟨f0, sz, to, fr, so, nu, pl, wd, td, ln, hm⟩, h70, h71, ⟨u, h72⟩, ⟨sn, h73, hsn⟩, bf, h74⟩ := hR
  exact c_X7_district hX hO hw i_a i_b i_c (hp _ M ⟨_, hm⟩ (fun Q hQ => c_X8_district hm h71 hw i_a i_b i_c (hQ M h0)))
theorem pr_lasts {E : Ev} {M : Mem} (h : LI E M) {a b c : Int} (i_a : I32 a) (i_b : I32 b) (i_c : I32 c) {P : Option Value → Mem → Prop} (hp : ∀ (z : Int) (M1 : Mem), (∃ fs, M1[69]? = some (ob 8 fs)) → (∀ Q : Option Value → Mem → Prop, (∀ M2, LI E M2 → Q (some (iv z)) M2) → Cn E rX8_lasts mX8_lasts [rr E 69, iv a, iv b, iv c] M1 Q) → P (some (iv z)) M1) : Cn E rX7_lasts mX7_lasts [rr E 0, iv a, iv b, iv c] M P := by
  have h0 := h
  obtain ⟨o, d, w, n, rows, T, L, fk, hod, hC, hR, hn, hr, hW⟩ := h
  have hw : WF w := hr ▸ hW n (Nat.le_refl _)
  have hC0 := hC
  have hR0 := hR
  obtain ⟨hX, hA, hD, hH, hO, hDr⟩ := hC
  obtain ⟨⟨f0, sz, to, fr, so, nu, pl, wd, td, ln, hm⟩, h70, h71, ⟨u, h72⟩, ⟨sn, h73, hsn⟩, bf, h74⟩ := hR
  exact c_X7_lasts hX hO hw i_a i_b i_c (hp _ M ⟨_, hm⟩ (fun Q hQ => c_X8_lasts hm h71 hw i_a i_b i_c (hQ M h0)))
theorem pr_worst {E : Ev} {M : Mem} (h : LI E M) {a b c : Int} (i_a : I32 a) (i_b : I32 b) (i_c : I32 c) {P : Option Value → Mem → Prop} (hp : ∀ (z : Int) (M1 : Mem), (∃ fs, M1[69]? = some (ob 8 fs)) → (∀ Q : Option Value → Mem → Prop, (∀ M2, LI E M2 → Q (some (iv z)) M2) → Cn E rX8_worst mX8_worst [rr E 69, iv a, iv b, iv c] M1 Q) → P (some (iv z)) M1) : Cn E rX7_worst mX7_worst [rr E 0, iv a, iv b, iv c] M P := by
  have h0 := h
  obtain ⟨o, d, w, n, rows, T, L, fk, hod, hC, hR, hn, hr, hW⟩ := h
  have hw : WF w := hr ▸ hW n (Nat.le_refl _)
  have hC0 := hC
  have hR0 := hR
  obtain ⟨hX, hA, hD, hH, hO, hDr⟩ := hC
  obtain ⟨⟨f0, sz, to, fr, so, nu, pl, wd, td, ln, hm⟩, h70, h71, ⟨u, h72⟩, ⟨sn, h73, hsn⟩, bf, h74⟩ := hR
  exact c_X7_worst hX hO hw i_a i_b i_c (hp _ M ⟨_, hm⟩ (fun Q hQ => c_X8_worst hm h71 hw i_a i_b i_c (hQ M h0)))
theorem pr_forecast {E : Ev} {M : Mem} (h : LI E M) {a b c : Int} (i_a : I32 a) (i_b : I32 b) (i_c : I32 c) {P : Option Value → Mem → Prop} (hp : ∀ (z : Int) (M1 : Mem), (∃ fs, M1[69]? = some (ob 8 fs)) → (∀ Q : Option Value → Mem → Prop, (∀ M2, LI E M2 → Q (some (iv z)) M2) → Cn E rX8_forecast mX8_forecast [rr E 69, iv a, iv b, iv c] M1 Q) → P (some (iv z)) M1) : Cn E rX7_forecast mX7_forecast [rr E 0, iv a, iv b, iv c] M P := by
  have h0 := h
  obtain ⟨o, d, w, n, rows, T, L, fk, hod, hC, hR, hn, hr, hW⟩ := h
  have hw : WF w := hr ▸ hW n (Nat.le_refl _)
  have hC0 := hC
  have hR0 := hR
  obtain ⟨hX, hA, hD, hH, hO, hDr⟩ := hC
  obtain ⟨⟨f0, sz, to, fr, so, nu, pl, wd, td, ln, hm⟩, h70, h71, ⟨u, h72⟩, ⟨sn, h73, hsn⟩, bf, h74⟩ := hR
  exact c_X7_forecast hX hO hw i_a i_b i_c (hp _ M ⟨_, hm⟩ (fun Q hQ => c_X8_forecast hm h71 hw i_a i_b i_c (hQ M h0)))
theorem pr_fault {E : Ev} {M : Mem} (h : LI E M)  {P : Option Value → Mem → Prop} (hp : ∀ (z : Int) (M1 : Mem), (∃ fs, M1[69]? = some (ob 8 fs)) → (∀ Q : Option Value → Mem → Prop, (∀ M2, LI E M2 → Q (some (iv z)) M2) → Cn E rX8_fault mX8_fault [rr E 69] M1 Q) → P (some (iv z)) M1) : Cn E rX7_fault mX7_fault [rr E 0] M P := by
  have h0 := h
  obtain ⟨o, d, w, n, rows, T, L, fk, hod, hC, hR, hn, hr, hW⟩ := h
  have hw : WF w := hr ▸ hW n (Nat.le_refl _)
  have hC0 := hC
  have hR0 := hR
  obtain ⟨hX, hA, hD, hH, hO, hDr⟩ := hC
  obtain ⟨⟨f0, sz, to, fr, so, nu, pl, wd, td, ln, hm⟩, h70, h71, ⟨u, h72⟩, ⟨sn, h73, hsn⟩, bf, h74⟩ := hR
  exact c_X7_fault hX hD (hp _ M ⟨_, hm⟩ (fun Q hQ => c_X8_fault hm (hQ M h0)))
theorem pr_now {E : Ev} {M : Mem} (h : LI E M) {a : Int} (i_a : I32 a) {P : Option Value → Mem → Prop} (hp : ∀ (z : Int) (M1 : Mem), (∃ fs, M1[69]? = some (ob 8 fs)) → (∀ Q : Option Value → Mem → Prop, (∀ M2, LI E M2 → Q (some (iv z)) M2) → Cn E rX8_now mX8_now [rr E 69, iv a] M1 Q) → P (some (iv z)) M1) : Cn E rX7_now mX7_now [rr E 0, iv a] M P := by
  have h0 := h
  obtain ⟨o, d, w, n, rows, T, L, fk, hod, hC, hR, hn, hr, hW⟩ := h
  have hw : WF w := hr ▸ hW n (Nat.le_refl _)
  have hC0 := hC
  have hR0 := hR
  obtain ⟨hX, hA, hD, hH, hO, hDr⟩ := hC
  obtain ⟨⟨f0, sz, to, fr, so, nu, pl, wd, td, ln, hm⟩, h70, h71, ⟨u, h72⟩, ⟨sn, h73, hsn⟩, bf, h74⟩ := hR
  obtain ⟨g, ad, hg, -⟩ := hH
  exact c_X7_now hX hO hw hg hA.1 i_a (hp _ M ⟨_, hm⟩ (fun Q hQ => c_X8_now hm h71 hw i_a (hQ M h0)))
theorem pr_keeps {E : Ev} {M : Mem} (h : LI E M) {a b c : Int} (i_a : I32 a) (i_b : I32 b) (i_c : I32 c) {P : Option Value → Mem → Prop} (hp : ∀ (z : Int) (M1 : Mem), (∃ fs, M1[69]? = some (ob 8 fs)) → (∀ Q : Option Value → Mem → Prop, (∀ M2, LI E M2 → Q (some (iv z)) M2) → Cn E rX8_keeps mX8_keeps [rr E 69, iv a, iv b, iv c] M1 Q) → P (some (iv z)) M1) : Cn E rX7_keeps mX7_keeps [rr E 0, iv a, iv b, iv c] M P := by
  obtain ⟨o, d, w, n, rows, T, L, fk, hod, hC, hR, hn, hr, hW⟩ := h
  have hw : WF w := hr ▸ hW n (Nat.le_refl _)
  have hC0 := hC
  have hR0 := hR
  obtain ⟨hX, hA, hD, hH, hO, hDr⟩ := hC
  obtain ⟨⟨f0, sz, to, fr, so, nu, pl, wd, td, ln, hm⟩, h70, h71, ⟨u, h72⟩, ⟨sn, h73, hsn⟩, bf, h74⟩ := hR
  refine c_X7_keeps hX hO hw (by omega) i_a i_b i_c (fun M1 hO1 hf => ?_)
  refine hp _ M1 ⟨_, (hf.2 69 (by omega)).trans hm⟩ (fun Q hQ => ?_)
  have e : ∀ b, 69 ≤ b → M1[b]? = M[b]? := fun b hb => hf.2 b (by omega)
  have hC1 : ClS E M1 o d w n rows T L fk := hC0.mv hod hO1 (hH.keep (fun b b1 b2 => hf.2 b (by omega))) hf.o2
  exact c_X8_keeps ((e 69 (by decide)).trans hm) ((e 71 (by decide)).trans h71) hw i_a i_b i_c (hQ M1 ⟨o, d, w, n, rows, T, L, fk, hod, hC1, hR0.fr e, hn, hr, hW⟩)
theorem pr_touches {E : Ev} {M : Mem} (h : LI E M) {a b c v : Int} (i_a : I32 a) (i_b : I32 b) (i_c : I32 c) (i_v : I32 v) {P : Option Value → Mem → Prop} (hp : ∀ (z : Int) (M1 : Mem), (∃ fs, M1[69]? = some (ob 8 fs)) → (∀ Q : Option Value → Mem → Prop, (∀ M2, LI E M2 → Q (some (iv z)) M2) → Cn E rX8_touches mX8_touches [rr E 69, iv a, iv b, iv c, iv v] M1 Q) → P (some (iv z)) M1) : Cn E rX7_touches mX7_touches [rr E 0, iv a, iv b, iv c, iv v] M P := by
  obtain ⟨o, d, w, n, rows, T, L, fk, hod, hC, hR, hn, hr, hW⟩ := h
  have hw : WF w := hr ▸ hW n (Nat.le_refl _)
  have hC0 := hC
  have hR0 := hR
  obtain ⟨hX, hA, hD, hH, hO, hDr⟩ := hC
  obtain ⟨⟨f0, sz, to, fr, so, nu, pl, wd, td, ln, hm⟩, h70, h71, ⟨u, h72⟩, ⟨sn, h73, hsn⟩, bf, h74⟩ := hR
  refine c_X7_touches hX hO hw (by omega) i_a i_b i_c i_v (fun M1 hO1 hf => ?_)
  refine hp _ M1 ⟨_, (hf.2 69 (by omega)).trans hm⟩ (fun Q hQ => ?_)
  have e : ∀ b, 69 ≤ b → M1[b]? = M[b]? := fun b hb => hf.2 b (by omega)
  have hC1 : ClS E M1 o d w n rows T L fk := hC0.mv hod hO1 (hH.keep (fun b b1 b2 => hf.2 b (by omega))) hf.o2
  refine c_X8_touches ((e 69 (by decide)).trans hm) ((e 71 (by decide)).trans h71) ((e 74 (by decide)).trans h74) (by decide) hw i_a i_b i_c i_v (fun g => hQ _ ⟨o, d, w, n, rows, T, L, fk, hod, hC1.fr hod (fun b hb => set_lo (by decide) hb), ?_, hn, hr, hW⟩)
  exact ⟨⟨f0, sz, to, fr, so, nu, pl, wd, td, ln, gs_ne (by decide) ((e 69 (by decide)).trans hm)⟩, gs_ne (by decide) ((e 70 (by decide)).trans h70), gs_ne (by decide) ((e 71 (by decide)).trans h71), ⟨u, gs_ne (by decide) ((e 72 (by decide)).trans h72)⟩, ⟨sn, gs_ne (by decide) ((e 73 (by decide)).trans h73), hsn⟩, g, gs_eq ((e 74 (by decide)).trans h74)⟩
theorem pr_pass {E : Ev} {M : Mem} (h : LI E M) {a : Int} (i_a : I32 a) {P : Option Value → Mem → Prop} (hp : ∀ (z : Int) (M1 : Mem), (∃ fs, M1[69]? = some (ob 8 fs)) → (∀ Q : Option Value → Mem → Prop, (∀ M2, LI E M2 → Q (some (iv z)) M2) → Cn E rX8_pass mX8_pass [rr E 69, iv a] M1 Q) → P (some (iv z)) M1) : Cn E rX7_pass mX7_pass [rr E 0, iv a] M P := by
  obtain ⟨o, d, w, n, rows, T, L, fk, hod, hC, hR, hn, hr, hW⟩ := h
  have hw : WF w := hr ▸ hW n (Nat.le_refl _)
  have hC0 := hC
  have hR0 := hR
  obtain ⟨hX, hA, hD, hH, hO, hDr⟩ := hC
  obtain ⟨⟨f0, sz, to, fr, so, nu, pl, wd, td, ln, hm⟩, h70, h71, ⟨u, h72⟩, ⟨sn, h73, hsn⟩, bf, h74⟩ := hR
  refine c_X7_pass hX hO hw (by omega) hH hn hr (by omega) (by omega) i_a (fun hc M1 hO1 hH1 hf => ?_) (fun hc => ?_)
  · refine hp _ M1 ⟨_, (hf.2 69 (by omega) (by omega)).trans hm⟩ (fun Q hQ => ?_)
    have e : ∀ b, 69 ≤ b → M1[b]? = M[b]? := fun b hb => hf.2 b (by omega) (by omega)
    have hC1 := hC0.mv hod hO1 hH1 hf
    refine c_X8_pass ((e 69 (by decide)).trans hm) ((e 71 (by decide)).trans h71) ((e 73 (by decide)).trans h73) (by decide) hn hr hsn hw i_a (fun _ sn2 hs2 => ?_) (fun hc2 => absurd hc hc2)
    refine hQ _ ⟨o, d, (paW w a), bn n + 1, pushR n rows (paW w a), T, L, fk, hod, hC1.fr hod (fun b hb => ?_), ?_, by have := bn_le hn; omega, push_last _ _ _, rows_push hn hW (hw.pa hc)⟩
    · rw [set_lo (by decide) hb, set_lo (by decide) hb, set_lo (by decide) hb]
    · exact ⟨⟨f0, sz, to, fr, so, nu, pl, wd, td, ln, gs_ne (by decide) (gs_ne (by decide) (gs_eq ((e 69 (by decide)).trans hm)))⟩, gs_ne (by decide) (gs_ne (by decide) (gs_ne (by decide) ((e 70 (by decide)).trans h70))), gs_eq (gs_ne (by decide) (gs_ne (by decide) ((e 71 (by decide)).trans h71))), ⟨u, gs_ne (by decide) (gs_ne (by decide) (gs_ne (by decide) ((e 72 (by decide)).trans h72)))⟩, ⟨sn2, gs_ne (by decide) (gs_eq (gs_ne (by decide) ((e 73 (by decide)).trans h73))), sn_push hs2⟩, bf, gs_ne (by decide) (gs_ne (by decide) (gs_ne (by decide) ((e 74 (by decide)).trans h74)))⟩
  · exact hp _ M ⟨_, hm⟩ (fun Q hQ => c_X8_pass hm h71 h73 (by decide) hn hr hsn hw i_a (fun hc2 => absurd hc2 hc) (fun _ => hQ M ⟨o, d, w, n, rows, T, L, fk, hod, hC0, hR0, hn, hr, hW⟩))
theorem pr_smooth {E : Ev} {M : Mem} (h : LI E M) {a : Int} (i_a : I32 a) {P : Option Value → Mem → Prop} (hp : ∀ (z : Int) (M1 : Mem), (∃ fs, M1[69]? = some (ob 8 fs)) → (∀ Q : Option Value → Mem → Prop, (∀ M2, LI E M2 → Q (some (iv z)) M2) → Cn E rX8_smooth mX8_smooth [rr E 69, iv a] M1 Q) → P (some (iv z)) M1) : Cn E rX7_smooth mX7_smooth [rr E 0, iv a] M P := by
  obtain ⟨o, d, w, n, rows, T, L, fk, hod, hC, hR, hn, hr, hW⟩ := h
  have hw : WF w := hr ▸ hW n (Nat.le_refl _)
  have hC0 := hC
  have hR0 := hR
  obtain ⟨hX, hA, hD, hH, hO, hDr⟩ := hC
  obtain ⟨⟨f0, sz, to, fr, so, nu, pl, wd, td, ln, hm⟩, h70, h71, ⟨u, h72⟩, ⟨sn, h73, hsn⟩, bf, h74⟩ := hR
  refine c_X7_smooth hX hO hw (by omega) hH hn hr (by omega) (by omega) i_a (fun hc M1 hO1 hH1 hf => ?_) (fun hc => ?_)
  · refine hp _ M1 ⟨_, (hf.2 69 (by omega) (by omega)).trans hm⟩ (fun Q hQ => ?_)
    have e : ∀ b, 69 ≤ b → M1[b]? = M[b]? := fun b hb => hf.2 b (by omega) (by omega)
    have hC1 := hC0.mv hod hO1 hH1 hf
    refine c_X8_smooth ((e 69 (by decide)).trans hm) ((e 71 (by decide)).trans h71) ((e 73 (by decide)).trans h73) (by decide) hn hr hsn hw i_a (fun _ sn2 hs2 => ?_) (fun hc2 => absurd hc hc2)
    refine hQ _ ⟨o, d, (smW w a), bn n + 1, pushR n rows (smW w a), T, L, fk, hod, hC1.fr hod (fun b hb => ?_), ?_, by have := bn_le hn; omega, push_last _ _ _, rows_push hn hW (hw.sm hc)⟩
    · rw [set_lo (by decide) hb, set_lo (by decide) hb, set_lo (by decide) hb]
    · exact ⟨⟨f0, sz, to, fr, so, nu, pl, wd, td, ln, gs_ne (by decide) (gs_ne (by decide) (gs_eq ((e 69 (by decide)).trans hm)))⟩, gs_ne (by decide) (gs_ne (by decide) (gs_ne (by decide) ((e 70 (by decide)).trans h70))), gs_eq (gs_ne (by decide) (gs_ne (by decide) ((e 71 (by decide)).trans h71))), ⟨u, gs_ne (by decide) (gs_ne (by decide) (gs_ne (by decide) ((e 72 (by decide)).trans h72)))⟩, ⟨sn2, gs_ne (by decide) (gs_eq (gs_ne (by decide) ((e 73 (by decide)).trans h73))), sn_push hs2⟩, bf, gs_ne (by decide) (gs_ne (by decide) (gs_ne (by decide) ((e 74 (by decide)).trans h74)))⟩
  · exact hp _ M ⟨_, hm⟩ (fun Q hQ => c_X8_smooth hm h71 h73 (by decide) hn hr hsn hw i_a (fun hc2 => absurd hc2 hc) (fun _ => hQ M ⟨o, d, w, n, rows, T, L, fk, hod, hC0, hR0, hn, hr, hW⟩))
theorem pr_window {E : Ev} {M : Mem} (h : LI E M) {a b c : Int} (i_a : I32 a) (i_b : I32 b) (i_c : I32 c) {P : Option Value → Mem → Prop} (hp : ∀ (z : Int) (M1 : Mem), (∃ fs, M1[69]? = some (ob 8 fs)) → (∀ Q : Option Value → Mem → Prop, (∀ M2, LI E M2 → Q (some (iv z)) M2) → Cn E rX8_window mX8_window [rr E 69, iv a, iv b, iv c] M1 Q) → P (some (iv z)) M1) : Cn E rX7_window mX7_window [rr E 0, iv a, iv b, iv c] M P := by
  obtain ⟨o, d, w, n, rows, T, L, fk, hod, hC, hR, hn, hr, hW⟩ := h
  have hw : WF w := hr ▸ hW n (Nat.le_refl _)
  have hC0 := hC
  have hR0 := hR
  obtain ⟨hX, hA, hD, hH, hO, hDr⟩ := hC
  obtain ⟨⟨f0, sz, to, fr, so, nu, pl, wd, td, ln, hm⟩, h70, h71, ⟨u, h72⟩, ⟨sn, h73, hsn⟩, bf, h74⟩ := hR
  refine c_X7_window hX hO hw (by omega) hH hn hr (by omega) (by omega) i_a i_b i_c (fun hc M1 hO1 hH1 hf => ?_) (fun hc => ?_)
  · refine hp _ M1 ⟨_, (hf.2 69 (by omega) (by omega)).trans hm⟩ (fun Q hQ => ?_)
    have e : ∀ b, 69 ≤ b → M1[b]? = M[b]? := fun b hb => hf.2 b (by omega) (by omega)
    have hC1 := hC0.mv hod hO1 hH1 hf
    refine c_X8_window ((e 69 (by decide)).trans hm) ((e 71 (by decide)).trans h71) ((e 73 (by decide)).trans h73) (by decide) hn hr hsn hw i_a i_b i_c (fun _ sn2 hs2 => ?_) (fun hc2 => absurd hc hc2)
    refine hQ _ ⟨o, d, (wiW w a b c), bn n + 1, pushR n rows (wiW w a b c), T, L, fk, hod, hC1.fr hod (fun b hb => ?_), ?_, by have := bn_le hn; omega, push_last _ _ _, rows_push hn hW (hw.wi hc)⟩
    · rw [set_lo (by decide) hb, set_lo (by decide) hb, set_lo (by decide) hb]
    · exact ⟨⟨f0, sz, to, fr, so, nu, pl, wd, td, ln, gs_ne (by decide) (gs_ne (by decide) (gs_eq ((e 69 (by decide)).trans hm)))⟩, gs_ne (by decide) (gs_ne (by decide) (gs_ne (by decide) ((e 70 (by decide)).trans h70))), gs_eq (gs_ne (by decide) (gs_ne (by decide) ((e 71 (by decide)).trans h71))), ⟨u, gs_ne (by decide) (gs_ne (by decide) (gs_ne (by decide) ((e 72 (by decide)).trans h72)))⟩, ⟨sn2, gs_ne (by decide) (gs_eq (gs_ne (by decide) ((e 73 (by decide)).trans h73))), sn_push hs2⟩, bf, gs_ne (by decide) (gs_ne (by decide) (gs_ne (by decide) ((e 74 (by decide)).trans h74)))⟩
  · exact hp _ M ⟨_, hm⟩ (fun Q hQ => c_X8_window hm h71 h73 (by decide) hn hr hsn hw i_a i_b i_c (fun hc2 => absurd hc2 hc) (fun _ => hQ M ⟨o, d, w, n, rows, T, L, fk, hod, hC0, hR0, hn, hr, hW⟩))
theorem pr_correct {E : Ev} {M : Mem} (h : LI E M) {a b c v : Int} (i_a : I32 a) (i_b : I32 b) (i_c : I32 c) (i_v : I32 v) {P : Option Value → Mem → Prop} (hp : ∀ (z : Int) (M1 : Mem), (∃ fs, M1[69]? = some (ob 8 fs)) → (∀ Q : Option Value → Mem → Prop, (∀ M2, LI E M2 → Q (some (iv z)) M2) → Cn E rX8_correct mX8_correct [rr E 69, iv a, iv b, iv c, iv v] M1 Q) → P (some (iv z)) M1) : Cn E rX7_correct mX7_correct [rr E 0, iv a, iv b, iv c, iv v] M P := by
  obtain ⟨o, d, w, n, rows, T, L, fk, hod, hC, hR, hn, hr, hW⟩ := h
  have hw : WF w := hr ▸ hW n (Nat.le_refl _)
  have hC0 := hC
  have hR0 := hR
  obtain ⟨hX, hA, hD, hH, hO, hDr⟩ := hC
  obtain ⟨⟨f0, sz, to, fr, so, nu, pl, wd, td, ln, hm⟩, h70, h71, ⟨u, h72⟩, ⟨sn, h73, hsn⟩, bf, h74⟩ := hR
  refine c_X7_correct hX hO hw (by omega) hH hn hr (by omega) (by omega) i_a i_b i_c i_v (fun hc M1 hO1 hH1 hf => ?_) (fun hc => ?_)
  · refine hp _ M1 ⟨_, (hf.2 69 (by omega) (by omega)).trans hm⟩ (fun Q hQ => ?_)
    have e : ∀ b, 69 ≤ b → M1[b]? = M[b]? := fun b hb => hf.2 b (by omega) (by omega)
    have hC1 := hC0.mv hod hO1 hH1 hf
    refine c_X8_correct ((e 69 (by decide)).trans hm) ((e 71 (by decide)).trans h71) ((e 73 (by decide)).trans h73) ((e 74 (by decide)).trans h74) (by decide) (by decide) (by decide) hn hr hsn hw i_a i_b i_c i_v (fun _ sn2 g2 hs2 => ?_) (fun hc2 => absurd hc hc2)
    refine hQ _ ⟨o, d, (coW w a b c v), bn n + 1, pushR n rows (coW w a b c v), T, L, fk, hod, hC1.fr hod (fun b hb => ?_), ?_, by have := bn_le hn; omega, push_last _ _ _, rows_push hn hW (hw.co hc)⟩
    · rw [set_lo (by decide) hb, set_lo (by decide) hb, set_lo (by decide) hb, set_lo (by decide) hb]
    · exact ⟨⟨f0, sz, to, fr, so, nu, pl, wd, td, ln, gs_ne (by decide) (gs_ne (by decide) (gs_ne (by decide) (gs_eq ((e 69 (by decide)).trans hm))))⟩, gs_ne (by decide) (gs_ne (by decide) (gs_ne (by decide) (gs_ne (by decide) ((e 70 (by decide)).trans h70)))), gs_eq (gs_ne (by decide) (gs_ne (by decide) (gs_ne (by decide) ((e 71 (by decide)).trans h71)))), ⟨u, gs_ne (by decide) (gs_ne (by decide) (gs_ne (by decide) (gs_ne (by decide) ((e 72 (by decide)).trans h72))))⟩, ⟨sn2, gs_ne (by decide) (gs_ne (by decide) (gs_eq (gs_ne (by decide) ((e 73 (by decide)).trans h73)))), sn_push hs2⟩, g2, gs_ne (by decide) (gs_eq (gs_ne (by decide) (gs_ne (by decide) ((e 74 (by decide)).trans h74))))⟩
  · exact hp _ M ⟨_, hm⟩ (fun Q hQ => c_X8_correct hm h71 h73 h74 (by decide) (by decide) (by decide) hn hr hsn hw i_a i_b i_c i_v (fun hc2 => absurd hc2 hc) (fun _ => hQ M ⟨o, d, w, n, rows, T, L, fk, hod, hC0, hR0, hn, hr, hW⟩))
theorem pr_undo {E : Ev} {M : Mem} (h : LI E M)  {P : Option Value → Mem → Prop} (hp : ∀ (z : Int) (M1 : Mem), (∃ fs, M1[69]? = some (ob 8 fs)) → (∀ Q : Option Value → Mem → Prop, (∀ M2, LI E M2 → Q (some (iv z)) M2) → Cn E rX8_undo mX8_undo [rr E 69] M1 Q) → P (some (iv z)) M1) : Cn E rX7_undo mX7_undo [rr E 0] M P := by
  obtain ⟨o, d, w, n, rows, T, L, fk, hod, hC, hR, hn, hr, hW⟩ := h
  have hw : WF w := hr ▸ hW n (Nat.le_refl _)
  have hC0 := hC
  have hR0 := hR
  obtain ⟨hX, hA, hD, hH, hO, hDr⟩ := hC
  obtain ⟨⟨f0, sz, to, fr, so, nu, pl, wd, td, ln, hm⟩, h70, h71, ⟨u, h72⟩, ⟨sn, h73, hsn⟩, bf, h74⟩ := hR
  refine c_X7_undo hX hO hw (by omega) hH hn hr (by omega) (by omega) (fun hc M1 hO1 hH1 hf => ?_) (fun hc => ?_)
  · refine hp _ M1 ⟨_, (hf.2 69 (by omega) (by omega)).trans hm⟩ (fun Q hQ => ?_)
    have e : ∀ b, 69 ≤ b → M1[b]? = M[b]? := fun b hb => hf.2 b (by omega) (by omega)
    have hC1 := hC0.mv hod hO1 hH1 hf
    refine c_X8_undo ((e 69 (by decide)).trans hm) ((e 71 (by decide)).trans h71) ((e 73 (by decide)).trans h73) (by decide) hn hr hsn hw (fun _ => ?_) (fun hc2 => by omega)
    refine hQ _ ⟨o, d, rows (n - 1), n - 1, rows, T, L, fk, hod, hC1.fr hod (fun b hb => ?_), ?_, by omega, rfl, fun i hi => hW i (by omega)⟩
    · rw [set_lo (by decide) hb, set_lo (by decide) hb]
    · refine ⟨⟨f0, sz, to, fr, so, nu, pl, wd, td, ln, ?_⟩, gs_ne (by decide) (gs_ne (by decide) ((e 70 (by decide)).trans h70)), gs_eq (gs_ne (by decide) ((e 71 (by decide)).trans h71)), ⟨u, gs_ne (by decide) (gs_ne (by decide) ((e 72 (by decide)).trans h72))⟩, ⟨sn, gs_ne (by decide) (gs_ne (by decide) ((e 73 (by decide)).trans h73)), fun i hi => hsn i (by omega)⟩, bf, gs_ne (by decide) (gs_ne (by decide) ((e 74 (by decide)).trans h74))⟩
      rw [show ((n - 1 : Nat) : Int) = (n : Int) - 1 by omega]
      exact gs_ne (by decide) (gs_eq ((e 69 (by decide)).trans hm))
  · exact hp _ M ⟨_, hm⟩ (fun Q hQ => c_X8_undo hm h71 h73 (by decide) hn hr hsn hw (fun hc2 => by omega) (fun _ => hQ M ⟨o, d, w, n, rows, T, L, fk, hod, hC0, hR0, hn, hr, hW⟩))
theorem byF_bd (x1 x2 x3 x4 x5 i : Int) : 0 ≤ byF x1 x2 x3 x4 x5 i ∧ byF x1 x2 x3 x4 x5 i < 256 := byB_bd _ _
theorem pr_feed {E : Ev} {M : Mem} (h : LI E M) {a b c v y : Int} (i_a : I32 a) (i_b : I32 b) (i_c : I32 c) (i_v : I32 v) (i_y : I32 y) {P : Option Value → Mem → Prop} (hp : ∀ (z : Int) (M1 : Mem), (∃ fs, M1[69]? = some (ob 8 fs)) → (∀ Q : Option Value → Mem → Prop, (∀ M2, LI E M2 → Q (some (iv z)) M2) → Cn E rX8_feed mX8_feed [rr E 69, iv a, iv b, iv c, iv v, iv y] M1 Q) → P (some (iv z)) M1) : Cn E rX7_feed mX7_feed [rr E 0, iv a, iv b, iv c, iv v, iv y] M P := by
  obtain ⟨o, d, w, n, rows, T, L, fk, hod, hC, hR, hn, hr, hW⟩ := h
  have hw : WF w := hr ▸ hW n (Nat.le_refl _)
  have hC0 := hC
  have hR0 := hR
  obtain ⟨hX, hA, hD, hH, hO, hDr⟩ := hC
  obtain ⟨⟨f0, sz, to, fr, so, nu, pl, wd, td, ln, hm⟩, h70, h71, ⟨u, h72⟩, ⟨sn, h73, hsn⟩, bf, h74⟩ := hR
  obtain ⟨hT, ⟨cb, hB, hcb⟩, hT8, L0, L1⟩ := hA
  refine c_X7_feed hX hT hB (by decide) i_a i_b i_c i_v i_y L0 L1 (fun hc g g1 g2 => ?_) (fun hc => ?_)
  · refine hp _ _ ⟨_, gs_ne (by decide) (gs_ne (by decide) hm)⟩ (fun Q hQ => ?_)
    refine c_X8_feed (gs_ne (by decide) (gs_ne (by decide) hm)) (gs_ne (by decide) (gs_ne (by decide) h70)) L0 L1 (fun _ g3 k1 k2 => ?_) (fun hc2 => by omega)
    have kA : ∀ (M2 : Mem), M2 = (((M.set 2 (ia E 1 640 g)).set 1 (ob 4 [rr E 2, iv (L + 20)])).set 70 (ia E 0 640 g3)).set 69 (ob 8 [f0, rr E 70, iv (L + 20), iv sz, iv to, iv fr, iv so, iv nu, iv fk, iv pl, jv wd, rr E 71, rr E 72, rr E 73, iv (n : Int), iv td, iv ln, rr E 74]) → LI E M2 := by
      intro M2 e
      have e0 : ∀ b, b ≠ 1 → b ≠ 2 → b ≠ 69 → b ≠ 70 → M2[b]? = M[b]? := fun b b1 b2 b3 b4 => by rw [e, List.getElem?_set_ne (Ne.symm b3), List.getElem?_set_ne (Ne.symm b4), List.getElem?_set_ne (Ne.symm b1), List.getElem?_set_ne (Ne.symm b2)]
      refine ⟨o, d, w, n, rows, g3, L + 20, fk, hod, ⟨(e0 0 (by decide) (by decide) (by decide) (by decide)).trans hX, ⟨?_, ⟨g, ?_, fun j j0 j1 => ?_⟩, fun j j0 j1 => ?_, by omega, by omega⟩, hD.fr (e0 3 (by decide) (by decide) (by decide) (by decide)) (e0 4 (by decide) (by decide) (by decide) (by decide)), hH.keep (fun b b1 b2 => e0 b (by omega) (by omega) (by omega) (by omega)), hO.fr (fun b b1 b2 => e0 b (by omega) (by omega) (by omega) (by omega)), ?_⟩, ⟨⟨f0, sz, to, fr, so, nu, pl, wd, td, ln, ?_⟩, ?_, (e0 71 (by decide) (by decide) (by decide) (by decide)).trans h71, ⟨u, (e0 72 (by decide) (by decide) (by decide) (by decide)).trans h72⟩, ⟨sn, (e0 73 (by decide) (by decide) (by decide) (by decide)).trans h73, hsn⟩, bf, (e0 74 (by decide) (by decide) (by decide) (by decide)).trans h74⟩, hn, hr, hW⟩
      · rw [e]
        exact gs_ne (by decide) (gs_ne (by decide) (gs_eq (gs_ne (by decide) hT)))
      · rw [e]
        exact gs_ne (by decide) (gs_ne (by decide) (gs_ne (by decide) (gs_eq hB)))
      · by_cases hj : j < L
        · rw [g1 j hj, k1 j hj]
          exact hcb j j0 hj
        · have e3 : j = L + (j - L) := by omega
          rw [e3, g2 (j - L) (by omega) (by omega), k2 (j - L) (by omega) (by omega)]
      · by_cases hj : j < L
        · rw [k1 j hj]
          exact hT8 j j0 hj
        · have e3 : j = L + (j - L) := by omega
          rw [e3, k2 (j - L) (by omega) (by omega)]
          exact byF_bd _ _ _ _ _ _
      · obtain ⟨wd2, hd⟩ := hDr
        exact ⟨wd2, hd.fr (fun b b1 b2 => e0 b (by omega) (by omega) (by omega) (by omega))⟩
      · rw [e]
        exact gs_eq (gs_ne (by decide) (gs_ne (by decide) (gs_ne (by decide) hm)))
      · rw [e]
        exact gs_ne (by decide) (gs_eq (gs_ne (by decide) (gs_ne (by decide) h70)))
    exact hQ _ (kA _ rfl)
  · exact hp _ M ⟨_, hm⟩ (fun Q hQ => c_X8_feed hm h70 L0 L1 (fun hc2 => by omega) (fun _ => hQ M ⟨o, d, w, n, rows, T, L, fk, hod, hC0, hR0, hn, hr, hW⟩))
theorem pr_end {E : Ev} {M : Mem} (h : LI E M) {a : Int} (i_a : I32 a) {P : Option Value → Mem → Prop} (hp : ∀ (z : Int) (M1 : Mem), (∃ fs, M1[69]? = some (ob 8 fs)) → (∀ Q : Option Value → Mem → Prop, (∀ M2, LI E M2 → Q (some (iv z)) M2) → Cn E rX8_end mX8_end [rr E 69, iv a] M1 Q) → P (some (iv z)) M1) : Cn E rX7_end mX7_end [rr E 0, iv a] M P := by
  obtain ⟨o, d, w, n, rows, T, L, fk, hod, hC, hR, hn, hr, hW⟩ := h
  have hw : WF w := hr ▸ hW n (Nat.le_refl _)
  have hC0 := hC
  have hR0 := hR
  obtain ⟨hX, hA, hD, hH, hO, hDr⟩ := hC
  obtain ⟨⟨f0, sz, to, fr, so, nu, pl, wd, td, ln, hm⟩, h70, h71, ⟨u, h72⟩, ⟨sn, h73, hsn⟩, bf, h74⟩ := hR
  obtain ⟨hT, ⟨cb, hB, hcb⟩, hT8, L0, L1⟩ := hA
  refine c_X7_end hX hT hB (by decide) i_a L0 L1 (fun c1 c2 => ?_) (fun hc => ?_)
  · refine hp _ _ ⟨_, gs_ne (by decide) hm⟩ (fun Q hQ => ?_)
    refine c_X8_end (gs_ne (by decide) hm) L0 L1 i_a (fun _ _ => ?_) (fun hc2 => absurd ⟨c1, c2⟩ hc2)
    have kA : ∀ (M2 : Mem), M2 = (M.set 1 (ob 4 [rr E 2, iv a])).set 69 (ob 8 [f0, rr E 70, iv a, iv sz, iv to, iv fr, iv so, iv nu, iv fk, iv pl, jv wd, rr E 71, rr E 72, rr E 73, iv (n : Int), iv td, iv ln, rr E 74]) → LI E M2 := by
      intro M2 e
      have e0 : ∀ b, b ≠ 1 → b ≠ 69 → M2[b]? = M[b]? := fun b b1 b3 => by rw [e, List.getElem?_set_ne (Ne.symm b3), List.getElem?_set_ne (Ne.symm b1)]
      refine ⟨o, d, w, n, rows, T, a, fk, hod, ⟨(e0 0 (by decide) (by decide)).trans hX, ⟨?_, ⟨cb, (e0 2 (by decide) (by decide)).trans hB, fun j j0 j1 => hcb j j0 (by omega)⟩, fun j j0 j1 => hT8 j j0 (by omega), by omega, by omega⟩, hD.fr (e0 3 (by decide) (by decide)) (e0 4 (by decide) (by decide)), hH.keep (fun b b1 b2 => e0 b (by omega) (by omega)), hO.fr (fun b b1 b2 => e0 b (by omega) (by omega)), ?_⟩, ⟨⟨f0, sz, to, fr, so, nu, pl, wd, td, ln, ?_⟩, (e0 70 (by decide) (by decide)).trans h70, (e0 71 (by decide) (by decide)).trans h71, ⟨u, (e0 72 (by decide) (by decide)).trans h72⟩, ⟨sn, (e0 73 (by decide) (by decide)).trans h73, hsn⟩, bf, (e0 74 (by decide) (by decide)).trans h74⟩, hn, hr, hW⟩
      · rw [e]
        exact gs_ne (by decide) (gs_eq hT)
      · obtain ⟨wd2, hd⟩ := hDr
        exact ⟨wd2, hd.fr (fun b b1 b2 => e0 b (by omega) (by omega))⟩
      · rw [e]
        exact gs_eq (gs_ne (by decide) hm)
    exact hQ _ (kA _ rfl)
  · exact hp _ M ⟨_, hm⟩ (fun Q hQ => c_X8_end hm L0 L1 i_a (fun c1 c2 => absurd ⟨c1, c2⟩ hc) (fun _ => hQ M ⟨o, d, w, n, rows, T, L, fk, hod, hC0, hR0, hn, hr, hW⟩))
theorem pr_text {E : Ev} {M : Mem} (h : LI E M)  {P : Option Value → Mem → Prop} (hp : ∀ (z : Int) (M1 : Mem), (∃ fs, M1[69]? = some (ob 8 fs)) → (∀ Q : Option Value → Mem → Prop, (∀ M2, LI E M2 → Q (some (iv z)) M2) → Cn E rX8_text mX8_text [rr E 69] M1 Q) → P (some (iv z)) M1) : Cn E rX7_text mX7_text [rr E 0] M P := by
  obtain ⟨o, d, w, n, rows, T, L, fk, hod, hC, hR, hn, hr, hW⟩ := h
  have hw : WF w := hr ▸ hW n (Nat.le_refl _)
  have hC0 := hC
  have hR0 := hR
  obtain ⟨hX, hA, hD, hH, hO, hDr⟩ := hC
  obtain ⟨⟨f0, sz, to, fr, so, nu, pl, wd, td, ln, hm⟩, h70, h71, ⟨u, h72⟩, ⟨sn, h73, hsn⟩, bf, h74⟩ := hR
  obtain ⟨rl, rp, rk, rt, k1, k2, k3, k4, hD1, hD2⟩ := hD
  obtain ⟨wd0, hDr⟩ := hDr
  obtain ⟨gH, ad, hg1, hg2, hg3, hg4⟩ := hH
  have hA0 := hA
  obtain ⟨hT, ⟨cb, hB, hcb⟩, hT8, L0, L1⟩ := hA
  refine c_X7_text hX hD1 hD2 hA0 hDr hg1 (by decide) (by decide) (by decide) (by omega) (by omega) (by omega) (by omega) (by decide) (by decide) (by omega) (by decide) (by decide) ?_ ?_
  · intro f pl2 ht M1 q1 q2 q3 q4 q5 q6
    have e : ∀ b, 69 ≤ b → M1[b]? = M[b]? := fun b hb => q5 b (by omega) (by omega) (by omega)
    refine hp _ M1 ⟨_, (e 69 (by decide)).trans hm⟩ (fun Q hQ => ?_)
    refine c_X8_text (u0 := u) (w := w) (T := T) (hR0.fr e).1.choose_spec ((e 70 (by decide)).trans h70) ⟨L0, L1, hT8⟩ ((e 71 (by decide)).trans h71) ((e 72 (by decide)).trans h72) (by decide) (by decide) (by decide) (by decide) (by decide) ?_ ?_
    · intro f2 pl3 ht2 M2 r1 r2 r3 r4
      rw [ht] at ht2
      cases ht2
      refine hQ M2 ⟨o, d, w, n, rows, T, 0, f, hod, ?_, ⟨⟨_, r1⟩, ((r4.2 70 (by decide) (by decide) (by decide)).trans (e 70 (by decide))).trans h70, r3, r2, ⟨sn, ((r4.2 73 (by decide) (by decide) (by decide)).trans (e 73 (by decide))).trans h73, hsn⟩, bf, ((r4.2 74 (by decide) (by decide) (by decide)).trans (e 74 (by decide))).trans h74⟩, hn, hr, hW⟩
      refine ClS.fr (M := M1) ⟨q1, ⟨q3, ⟨cb, (q5 2 (by decide) (by omega) (by decide)).trans hB, fun j j0 j1 => by omega⟩, fun j j0 j1 => by omega, by decide, by decide⟩, q2, HistAt.keep ⟨gH, ad, hg1, hg2, hg3, hg4⟩ (fun b b1 b2 => q5 b (by omega) (by omega) (by omega)), hO.fr (fun b b1 b2 => q5 b (by omega) (by omega) (by omega)), q4⟩ hod (fun b hb => r4.2 b (by omega) (by omega) (by omega))
    · intro w2 k9 ht2
      rw [ht] at ht2
      cases ht2
  · intro w2 k9 ht M1 q1 q2 q3 q4 q5 q6 q7
    have e : ∀ b, 69 ≤ b → M1[b]? = M[b]? := fun b hb => q6 b (by omega) (by omega) (by omega) (by omega) (by omega)
    refine hp _ M1 ⟨_, (e 69 (by decide)).trans hm⟩ (fun Q hQ => ?_)
    refine c_X8_text (u0 := u) (w := w) (T := T) (hR0.fr e).1.choose_spec ((e 70 (by decide)).trans h70) ⟨L0, L1, hT8⟩ ((e 71 (by decide)).trans h71) ((e 72 (by decide)).trans h72) (by decide) (by decide) (by decide) (by decide) (by decide) ?_ ?_
    · intro f2 pl3 ht2
      rw [ht] at ht2
      cases ht2
    · intro w3 k8 ht2 M2 r1 r2 r3 r4
      rw [ht] at ht2
      cases ht2
      refine hQ M2 ⟨d, o, w2, 0, fun _ => w2, T, 0, 0, by omega, ?_, ⟨⟨_, r1⟩, ((r4.2 70 (by decide) (by decide) (by decide)).trans (e 70 (by decide))).trans h70, r3, r2, ⟨sn, ((r4.2 73 (by decide) (by decide) (by decide)).trans (e 73 (by decide))).trans h73, fun i hi => by omega⟩, bf, ((r4.2 74 (by decide) (by decide) (by decide)).trans (e 74 (by decide))).trans h74⟩, by decide, rfl, fun i hi => text_wf ht⟩
      refine ClS.fr (M := M1) ⟨q1, ⟨q3, ⟨cb, (q6 2 (by decide) (by omega) (by decide) (by decide) (by decide)).trans hB, fun j j0 j1 => by omega⟩, fun j j0 j1 => by omega, by decide, by decide⟩, q2, ⟨gH, ad, q5, (q6 6 (by decide) (by omega) (by decide) (by decide) (by decide)).trans hg2, hg3, fun j hj => ?_⟩, q4, w, hO.fr (fun b b1 b2 => q6 b (by omega) (by omega) (by omega) (by omega) (by omega))⟩ (by omega) (fun b hb => r4.2 b (by omega) (by omega) (by omega))
      obtain ⟨kd, s, k, x, b1, nb, v1, v2⟩ := hg4 j hj
      have v3 := hg3.1 j (by omega) (by omega)
      exact ⟨kd, s, k, x, b1, nb, (q6 _ (by omega) (by omega) (by omega) (by omega) (by omega)).trans v1, fun q => by omega⟩
