/-! the class's history -/
def AF (E : Ev) (M : Mem) (a : Nat) (kd s k h bf nb : Int) : Prop := M[a]? = some (ob 0 [iv kd, iv s, iv k, iv h, iv bf, iv nb])
/-- the act, undone, makes w of w2 -/
def UndoOK (kd s k h bf nb : Int) (w2 w : Int → Int) : Prop :=
  (kd = 1 ∧ Pl w2 s k h ∧ w = upI w2 (atW s k h) (bf + 1)) ∨ (kd = 2 ∧ w = upI w2 0 bf) ∨ (kd = 3 ∧ w = upI w2 3 bf) ∨ (kd = 4 ∧ Ks w2 k ∧ w = upI (upI w2 (7 + 13 * k) bf) (8 + 13 * k) nb)
/-- the array of acts: ten different objects -/
def AdOK (hs : Nat) (g : Int → Option Nat) (ad : Int → Nat) : Prop := (∀ j, 0 ≤ j → j < 10 → g j = some (ad j) ∧ hs + 2 ≤ ad j ∧ ad j < hs + 12) ∧ ∀ i j, 0 ≤ i → i < 10 → 0 ≤ j → j < 10 → ad i = ad j → i = j
def AcOK (E : Ev) (M : Mem) (n : Nat) (rows : Nat → Int → Int) (ad : Int → Nat) : Prop := ∀ j : Nat, j < 10 → ∃ kd s k h bf nb, AF E M (ad j) kd s k h bf nb ∧ (j < n → UndoOK kd s k h bf nb (rows (j + 1)) (rows j))
def HistG (E : Ev) (M : Mem) (hs : Nat) (n : Nat) (rows : Nat → Int → Int) (g : Int → Option Nat) (ad : Int → Nat) : Prop :=
  M[hs]? = some (ob 1 [rr E (hs + 1), iv (n : Nat)]) ∧ M[hs + 1]? = some (ra E 2 10 g) ∧ AdOK hs g ad ∧ AcOK E M n rows ad
def HistAt (E : Ev) (M : Mem) (hs : Nat) (n : Nat) (rows : Nat → Int → Int) : Prop := ∃ g ad, HistG E M hs n rows g ad
/-- the latest act, at a, has its kind alone as yet -/
def HPend (E : Ev) (M : Mem) (hs : Nat) (n : Nat) (rows : Nat → Int → Int) (a : Nat) (kd : Int) : Prop :=
  ∃ g ad, M[hs]? = some (ob 1 [rr E (hs + 1), iv ((n + 1 : Nat) : Int)]) ∧ M[hs + 1]? = some (ra E 2 10 g) ∧ AdOK hs g ad ∧ AcOK E M n rows ad ∧ ad (n : Nat) = a ∧ ∃ s k h bf nb, AF E M a kd s k h bf nb
theorem HistG.keep {E : Ev} {M M2 : Mem} {hs n : Nat} {rows : Nat → Int → Int} {g : Int → Option Nat} {ad : Int → Nat} (h : HistG E M hs n rows g ad) (hk : ∀ b, hs ≤ b → b < hs + 12 → M2[b]? = M[b]?) : HistG E M2 hs n rows g ad := by
  obtain ⟨h1, h2, h3, h4⟩ := h
  refine ⟨by rw [hk hs (by omega) (by omega)]; exact h1, by rw [hk (hs + 1) (by omega) (by omega)]; exact h2, h3, fun j hj => ?_⟩
  obtain ⟨kd, s, k, x, bf, nb, q1, q2⟩ := h4 j hj
  have := h3.1 j (by omega) (by omega)
  exact ⟨kd, s, k, x, bf, nb, by unfold AF; rw [hk _ (by omega) this.2.2]; exact q1, q2⟩
theorem HistAt.keep {E : Ev} {M M2 : Mem} {hs n : Nat} {rows : Nat → Int → Int} (h : HistAt E M hs n rows) (hk : ∀ b, hs ≤ b → b < hs + 12 → M2[b]? = M[b]?) : HistAt E M2 hs n rows := by
  obtain ⟨g, ad, h⟩ := h
  exact ⟨g, ad, h.keep hk⟩
/-- the latest act is told -/
theorem HPend.fin {E : Ev} {M : Mem} {hs n a : Nat} {rows : Nat → Int → Int} {kd0 kd s k h bf nb : Int} {w2 : Int → Int} (hp : HPend E M hs n rows a kd0) (hn : n ≤ 9) (hu : UndoOK kd s k h bf nb w2 (rows n)) : HistAt E (M.set a (ob 0 [iv kd, iv s, iv k, iv h, iv bf, iv nb])) hs (n + 1) (fun j => if j ≤ n then rows j else w2) := by
  obtain ⟨g, ad, h1, h2, h3, h4, h5, h6⟩ := hp
  have ha := h3.1 n (by omega) (by omega)
  rw [h5] at ha
  obtain ⟨s0, k0, x0, b0, n0, h7⟩ := h6
  refine ⟨g, ad, gs_ne (by omega) h1, gs_ne (by omega) h2, h3, fun j hj => ?_⟩
  by_cases e : j = n
  · subst e
    refine ⟨kd, s, k, h, bf, nb, by unfold AF; rw [h5]; exact gs_eq h7, fun _ => ?_⟩
    show UndoOK kd s k h bf nb (if j + 1 ≤ j then rows (j + 1) else w2) (if j ≤ j then rows j else w2)
    rw [if_neg (by omega), if_pos (by omega)]
    exact hu
  · obtain ⟨kd2, s2, k2, x2, b2, n2, q1, q2⟩ := h4 j hj
    refine ⟨kd2, s2, k2, x2, b2, n2, gs_ne (fun q => ?_) q1, fun hjn => ?_⟩
    · have := h3.2 n j (by omega) (by omega) (by omega) (by omega) (by rw [h5]; exact q)
      omega
    · show UndoOK kd2 s2 k2 x2 b2 n2 (if j + 1 ≤ n then rows (j + 1) else w2) (if j ≤ n then rows j else w2)
      rw [if_pos (by omega), if_pos (by omega)]
      exact q2 (by omega)
theorem HPend.keep {E : Ev} {M M2 : Mem} {hs n a : Nat} {rows : Nat → Int → Int} {kd : Int} (h : HPend E M hs n rows a kd) (hk : ∀ b, hs ≤ b → b < hs + 12 → M2[b]? = M[b]?) (hn : n ≤ 9) : HPend E M2 hs n rows a kd := by
  obtain ⟨g, ad, h1, h2, h3, h4, h5, s, k, x, bf, nb, h6⟩ := h
  refine ⟨g, ad, by rw [hk hs (by omega) (by omega)]; exact h1, by rw [hk (hs + 1) (by omega) (by omega)]; exact h2, h3, fun j hj => ?_, h5, s, k, x, bf, nb, ?_⟩
  · obtain ⟨kd, s, k, x, bf, nb, q1, q2⟩ := h4 j hj
    have := h3.1 j (by omega) (by omega)
    exact ⟨kd, s, k, x, bf, nb, by unfold AF; rw [hk _ (by omega) this.2.2]; exact q1, q2⟩
  · have := h3.1 n (by omega) (by omega)
    rw [h5] at this
    unfold AF
    rw [hk _ (by omega) this.2.2]
    exact h6
theorem HPend.addr {E : Ev} {M : Mem} {hs n a : Nat} {rows : Nat → Int → Int} {kd : Int} (h : HPend E M hs n rows a kd) (hn : n ≤ 9) : hs + 2 ≤ a ∧ a < hs + 12 := by
  obtain ⟨g, ad, h1, h2, h3, h4, h5, h6⟩ := h
  have := h3.1 n (by omega) (by omega)
  rw [h5] at this
  exact this.2
/-- memory outside the office and the history is as it was -/
def Fr2 (o hs : Nat) (M M2 : Mem) : Prop := M2.length = M.length ∧ ∀ b : Nat, (b < o ∨ o + 26 ≤ b) → (b < hs ∨ hs + 12 ≤ b) → M2[b]? = M[b]?
theorem Fr2.rf {o hs : Nat} {M : Mem} : Fr2 o hs M M := ⟨rfl, fun _ _ _ => rfl⟩
theorem Fr2.tr {o hs : Nat} {M M2 M3 : Mem} (h : Fr2 o hs M M2) (h2 : Fr2 o hs M2 M3) : Fr2 o hs M M3 := ⟨h2.1.trans h.1, fun b b1 b2 => (h2.2 b b1 b2).trans (h.2 b b1 b2)⟩
theorem Fr.o2 {o hs : Nat} {M M2 : Mem} (h : Fr o (o + 26) M M2) : Fr2 o hs M M2 := ⟨h.1, fun b b1 _ => h.2 b b1⟩
theorem Fr.h2 {o hs : Nat} {M M2 : Mem} (h : Fr hs (hs + 12) M M2) : Fr2 o hs M M2 := ⟨h.1, fun b _ b2 => h.2 b b2⟩
theorem Fr2.at {o hs a : Nat} {M M2 : Mem} {x : Option va_E} (h : Fr2 o hs M M2) (hx : M[a]? = x) (h1 : a < o ∨ o + 26 ≤ a) (h2 : a < hs ∨ hs + 12 ≤ a) : M2[a]? = x := (h.2 a h1 h2).trans hx
/-- the office's cells are not looked at elsewhere -/
theorem OffAt.fr {E : Ev} {M M2 : Mem} {o : Nat} {w : Int → Int} (h : OffAt E M o w) (hk : ∀ b, o ≤ b → b < o + 26 → M2[b]? = M[b]?) : OffAt E M2 o w := by
  obtain ⟨hH, ⟨fb, b1, b2⟩, ⟨gs, s1, s2⟩, ⟨fd, d1, d2⟩, ⟨gr, r1, r2⟩, hR, hU⟩ := h
  refine ⟨by rw [hk o (by omega) (by omega)]; exact hH, ⟨fb, by rw [hk _ (by omega) (by omega)]; exact b1, b2⟩, ⟨gs, by rw [hk _ (by omega) (by omega)]; exact s1, s2⟩, ⟨fd, by rw [hk _ (by omega) (by omega)]; exact d1, d2⟩, ⟨gr, by rw [hk _ (by omega) (by omega)]; exact r1, r2⟩, fun r hr => ?_, fun q hq => ?_⟩
  · obtain ⟨f, f1, f2⟩ := hR r hr
    exact ⟨f, by rw [hk _ (by omega) (by omega)]; exact f1, f2⟩
  · obtain ⟨p, q2, n, lv, ix, u1, u2, u3, u4⟩ := hU q hq
    exact ⟨p, q2, n, lv, ix, by rw [hk _ (by omega) (by omega)]; exact u1, by rw [hk _ (by omega) (by omega)]; exact u2, by rw [hk _ (by omega) (by omega)]; exact u3, u4⟩
/-- another share, another number of hours -/
theorem OffAt.hdr {E : Ev} {M : Mem} {o : Nat} {w w2 : Int → Int} (h : OffAt E M o w) (h5 : P5 w) (hw : ∀ j, 0 < j → j ≠ 3 → w2 j = w j) : OffAt E (M.set o (ob 2 [rr E (o + 1), rr E (o + 2), rr E (o + 3), rr E (o + 4), iv (w2 3), iv (w 1), iv (w 2), iv (w2 0)])) o w2 := by
  obtain ⟨hH, ⟨fb, b1, b2⟩, ⟨gs, s1, s2⟩, ⟨fd, d1, d2⟩, ⟨gr, r1, r2⟩, hR, hU⟩ := h
  refine ⟨?_, ⟨fb, gs_ne (by omega) b1, fun j j0 j1 => by rw [hw _ (by omega) (by omega)]; exact b2 j j0 j1⟩, ⟨gs, gs_ne (by omega) s1, s2⟩, ⟨fd, gs_ne (by omega) d1, fun j j0 j1 j2 => by rw [hw _ (by omega) (by omega)]; rw [hw 2 (by omega) (by omega)] at j2; exact d2 j j0 j1 j2⟩, ⟨gr, gs_ne (by omega) r1, r2⟩, fun r hr => ?_, fun q hq => ?_⟩
  · rw [gs_eq hH, hw 1 (by omega) (by omega), hw 2 (by omega) (by omega)]
  · obtain ⟨f, f1, f2⟩ := hR r hr
    exact ⟨f, gs_ne (by omega) f1, fun x x0 x1 => by rw [hw _ (by omega) (by omega)]; exact f2 x x0 x1⟩
  · obtain ⟨p, q2, n, lv, ix, u1, u2, u3, u4⟩ := hU q hq
    refine ⟨p, q2, n, lv, ix, gs_ne (by omega) u1, gs_ne (by omega) u2, gs_ne (by omega) u3, fun hk2 => ?_⟩
    rw [hw 1 (by omega) (by omega)] at hk2
    obtain ⟨v1, v2, v3, v4⟩ := u4 hk2
    refine ⟨by rw [hw _ (by omega) (by omega)]; exact v1, by rw [hw _ (by omega) (by omega)]; exact v2, by rw [hw _ (by omega) (by omega)]; exact v3, fun i i0 i1 => ?_⟩
    rw [hw _ (by omega) (by omega), hw _ (by omega) (by omega)]
    exact v4 i i0 i1
/-- another window and need -/
theorem OffAt.win {E : Ev} {M : Mem} {o : Nat} {w : Int → Int} (h : OffAt E M o w) (h5 : P5 w) {k x y : Int} (hk : 0 ≤ k) (hk3 : k < 3) {p q n : Int} (hu : M[o + 17 + 3 * k.toNat]? = some (ob 3 [rr E (o + 17 + 3 * k.toNat + 1), rr E (o + 17 + 3 * k.toNat + 2), iv p, iv q, iv n])) (hpk : k < w 1 → p = w (9 + 13 * k)) : OffAt E (M.set (o + 17 + 3 * k.toNat) (ob 3 [rr E (o + 17 + 3 * k.toNat + 1), rr E (o + 17 + 3 * k.toNat + 2), iv p, iv x, iv y])) o (upI (upI w (7 + 13 * k) x) (8 + 13 * k) y) := by
  have hw : ∀ j, j ≠ 7 + 13 * k → j ≠ 8 + 13 * k → upI (upI w (7 + 13 * k) x) (8 + 13 * k) y j = w j := fun j a b => by rw [upI_n _ _ b, upI_n _ _ a]
  obtain ⟨hH, ⟨fb, b1, b2⟩, ⟨gs, s1, s2⟩, ⟨fd, d1, d2⟩, ⟨gr, r1, r2⟩, hR, hU⟩ := h
  refine ⟨?_, ⟨fb, gs_ne (by omega) b1, fun j j0 j1 => by rw [hw _ (by omega) (by omega)]; exact b2 j j0 j1⟩, ⟨gs, gs_ne (by omega) s1, s2⟩, ⟨fd, gs_ne (by omega) d1, fun j j0 j1 j2 => by rw [hw _ (by omega) (by omega)]; rw [hw 2 (by omega) (by omega)] at j2; exact d2 j j0 j1 j2⟩, ⟨gr, gs_ne (by omega) r1, r2⟩, fun r hr => ?_, fun z hz => ?_⟩
  · rw [hw 3 (by omega) (by omega), hw 1 (by omega) (by omega), hw 2 (by omega) (by omega), hw 0 (by omega) (by omega)]
    exact gs_ne (by omega) hH
  · obtain ⟨f, f1, f2⟩ := hR r hr
    exact ⟨f, gs_ne (by omega) f1, fun x x0 x1 => by rw [hw _ (by omega) (by omega)]; exact f2 x x0 x1⟩
  · obtain ⟨p2, q2, n2, lv, ix, u1, u2, u3, u4⟩ := hU z hz
    by_cases e : (z : Int) = k
    · have e2 : z = k.toNat := by omega
      subst e2
      refine ⟨p, x, y, lv, ix, gs_eq hu, gs_ne (by omega) u2, gs_ne (by omega) u3, fun hk2 => ?_⟩
      rw [hw 1 (by omega) (by omega)] at hk2
      obtain ⟨v1, v2, v3, v4⟩ := u4 hk2
      rw [toNat_cast hk] at hk2 v1 v4 ⊢
      have hpk := hpk hk2
      have := h5 k hk hk2
      refine ⟨by rw [hw _ (by omega) (by omega)]; exact hpk, by rw [upI_n _ _ (by omega), upI_s], by rw [upI_s], fun i i0 i1 => ?_⟩
      rw [hw _ (by omega) (by omega), hw _ (by omega) (by omega)]
      exact v4 i i0 (by omega)
    · refine ⟨p2, q2, n2, lv, ix, gs_ne (by omega) u1, gs_ne (by omega) u2, gs_ne (by omega) u3, fun hk2 => ?_⟩
      rw [hw 1 (by omega) (by omega)] at hk2
      obtain ⟨v1, v2, v3, v4⟩ := u4 hk2
      have := h5 z (by omega) hk2
      refine ⟨by rw [hw _ (by omega) (by omega)]; exact v1, by rw [hw _ (by omega) (by omega)]; exact v2, by rw [hw _ (by omega) (by omega)]; exact v3, fun i i0 i1 => ?_⟩
      rw [hw _ (by omega) (by omega), hw _ (by omega) (by omega)]
      exact v4 i i0 i1
