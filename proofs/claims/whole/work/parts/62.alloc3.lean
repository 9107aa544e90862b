section ALLOC3
variable {E : Ev} {R : Room} {mi : MI} {fin : Fin9} {K N : Nat} {M : Mem} {pc : Nat} {L : List (Option Value)} {st : List Value}
theorem PS.pushes {H H1 : Heap} {X : Mem} (hP : PS E M H) (he : ∀ i e, X[i]? = some e → va_at E.D vwCl (E.b + (M.length + i), e) H1) (z : H1.size = H.size + X.length) (oq : ∀ q : Nat, q < H.size → H1[q]? = H[q]?) : PS E (M ++ X) H1 := by
  refine ⟨fun k x hx => ?_, by rw [z, hP.2, List.length_append]; omega⟩
  obtain ⟨h1, h2⟩ := wl_of hx
  by_cases hk : k < M.length
  · rw [List.getElem?_append_left hk] at h2
    have h3 := (hP.1.kept (fun k x hx => oq x.1 ((hP.1 k x hx).lt))) k _ (wl_get h2)
    have e : x = (E.b + k, x.2) := Prod.ext h1 rfl
    rw [e]
    exact h3
  · rw [List.getElem?_append_right (by omega)] at h2
    have h3 := he _ _ h2
    have e : x = (E.b + (M.length + (k - M.length)), x.2) := Prod.ext (by rw [h1]; show E.b + k = _; omega) rfl
    rw [e]
    exact h3
theorem v_newq {t n idx : Nat} {Cq : String} (d : decode mi.cc pc = .ok (.anewarray idx, 3)) (ht : (tysE E)[t]? = some (E.c t, .object Cq)) (ho : ∀ U, Ov U → va_AO Cq U) (hcl : Cond.classLink mi.y.cls idx Cq ∈ lw_tbl) (hn : n ≤ 10000) (hcells : K + 1 ≤ R.cells) (hslots : N + n ≤ R.slots) (k : V E R mi fin (K + 1) (N + n) (M ++ [ra E t n (fun _ => none)]) (pc + 3) L (rr E M.length :: st)) : V E R mi fin K N M pc L (iv (n : Nat) :: st) := by
  intro p e s m args below meth c H locs ls d0 C hd hP hS hl
  have hlt : ¬ Int32.ofInt (n : Int) < 0 := by
    have q := i_lt (x := (n : Int)) (y := 0) ⟨by omega, by omega⟩ ⟨by omega, by omega⟩
    intro h
    have := q.mp h
    omega
  have hcn : (Int32.ofInt (n : Int)).toNatClampNeg = n := by rw [i_clamp (by omega) (by omega)]; omega
  refine W.anew C.1 C.2.1 (C.own d0) (C.word d0 hcl rfl) (va_AO.use (ho _ (C.O d0))) rfl d rfl hlt (by rw [hcn]; omega) hcells (by rw [hcn]; exact hslots) fun cA kA comp f1 f2 f3 f4 => ?_
  rw [hcn]
  generalize hH1 : H.push ({ cls := cA, slots := Array.replicate n .null, vm := .none } : Cell) = H1
  have z1 : H1.size = H.size + 1 := by rw [← hH1, Array.size_push]
  have e1 : H1[H.size]? = some (arrV cA n (fun _ => .null)) := by rw [← hH1, Array.getElem?_push_size, ← arrV_new]
  have o1 : ∀ q : Nat, q < H.size → H1[q]? = H[q]? := fun q hq => by rw [← hH1, Array.getElem?_push, if_neg (Nat.ne_of_lt hq)]
  have hc : cA = E.c t := by
    obtain ⟨_, _, _, _, _, h4⟩ := ((C.K d0).2 t _ ht).2
    exact Option.some.inj (f1.symm.trans h4)
  subst hc
  have hP1 : PS E (M ++ [ra E t n (fun _ => none)]) H1 := hP.push (by
    show H1[E.b + M.length]? = some (vp_cell (E.c t) (n, .inr (.inr (.inr (.inr (fun _ => none))))))
    rw [← hP.2, vp_cell_q]
    exact e1) z1 o1
  have hS1 : va_S (AE E) s.heap H1 locs := ⟨Nat.le_trans hS.1 (by omega), fun x h1 h2 => (o1 x (Nat.lt_of_lt_of_le h1 hS.1)).trans (hS.2.1 x h1 h2), hS.2.2⟩
  have kk := k p e s m args below meth c H1 locs ls d0 C hd hP1 hS1 hl
  rw [rr_eq, ← hP.2] at kk
  exact kk
theorem vr_outer (c : ClassId) (N h0 : Nat) : ∀ i : Nat, Jvm.Free.Multi.outerC c N h0 i = arrV c N (fun j => va_rf (if j < i then some (h0 + 1 + j) else none))
  | 0 => by
    show ({ cls := c, slots := Array.replicate N .null, vm := .none } : Cell) = _
    rw [arrV_new]
    refine congrArg (arrV c N) (funext fun j => ?_)
    simp [va_rf]
  | i + 1 => by
    show (Jvm.Free.Multi.outerC c N h0 i).setSlot i (.ref (h0 + 1 + i)) = _
    rw [vr_outer c N h0 i, arrV_store]
    refine congrArg (arrV c N) (funext fun j => ?_)
    by_cases e : j = i
    · subst e
      simp [updV, va_rf]
    · by_cases h : j < i
      · simp [updV, e, h, Nat.lt_succ_of_lt h]
      · simp [updV, e, h, show ¬ j < i + 1 by omega]
def gR (a : Nat) (n : Nat) : Int → Option Nat := fun j => if j < (n : Int) then some (a + 1 + j.toNat) else none
theorem v_mna {n w idx : Nat} (d : decode mi.cc pc = .ok (.multianewarray idx 2, 4)) (hcl : Cond.classLink mi.y.cls idx "[[I" ∈ lw_tbl) (harr : Cond.arrayClass .int ∈ lw_tbl) (hn : n ≤ 1000) (hw : w ≤ 1000) (hcells : K + (1 + n) ≤ R.cells) (hslots : N + (n + n * w) ≤ R.slots) (k : V E R mi fin (K + 1 + n) (N + n + n * w) (M ++ (ra E 4 n (gR M.length n) :: List.replicate n (ia E 0 w (fun _ => 0)))) (pc + 4) L (rr E M.length :: st)) : V E R mi fin K N M pc L (iv (w : Nat) :: iv (n : Nat) :: st) := by
  intro p e s m args below meth c H locs ls d0 C hd hP hS hl
  have hlt : ∀ n : Nat, n ≤ 1000 → ¬ Int32.ofInt (n : Int) < 0 := by
    intro n hn
    have q := i_lt (x := (n : Int)) (y := 0) ⟨by omega, by omega⟩ ⟨by omega, by omega⟩
    intro h
    have := q.mp h
    omega
  have hcn : ∀ n : Nat, n ≤ 1000 → (Int32.ofInt (n : Int)).toNatClampNeg = n := by intro n hn; rw [i_clamp (by omega) (by omega)]; omega
  have h1 := hlt n hn
  have h2 := hlt w hw
  have h3 := hcn n hn
  have h4 := hcn w hw
  intro T hT Xs
  obtain ⟨vm₁, cA, comp, -, fA, fC, hO, -, X', step⟩ := Xs.multianewarray2F C.1 (C.own d0) (ty := .int) (C.word d0 hcl rfl) (va_AOA.use (C.O d0).2.2) (C.word d0 harr rfl) (g := F0 m pc ls (iv (w : Nat) :: iv (n : Nat) :: st)) rfl (by rw [C.2.1]; exact d) (n := Int32.ofInt (n : Int)) (k := Int32.ofInt (w : Int)) (rest := st) rfl h1 h2 (by rw [h3]; omega) (by rw [h4]; show w * 4 ≤ _; omega) (by rw [h4]; omega) rfl rfl (by rw [h3]; exact hcells) (by rw [h3, h4]; exact hslots)
  rw [h3, h4] at X' step
  have c0 : comp = E.c 0 := Option.some.inj (fC.symm.trans ((C.K d0).2 0 _ rfl).2)
  have c4 : cA = E.c 4 := Option.some.inj (fA.symm.trans ((C.K d0).2 4 _ rfl).2)
  subst c0
  subst c4
  generalize hF : Jvm.Free.Multi.fill (T.setVm vm₁) (E.c 4) (E.c 0) n w (defaultValue .int) n = F at X' step
  have hTh : (T.setVm vm₁).heap = H := hT
  obtain ⟨f1, f2, -, -⟩ := Jvm.Free.Multi.fill_facts (T.setVm vm₁) (E.c 4) (E.c 0) n w (defaultValue .int) n
  rw [hF, hTh] at f1 f2
  have hold : ∀ x : Nat, x < H.size → F.heap[x]? = H[x]? := fun x hx => by
    have := Jvm.Free.Multi.fill_old (T.setVm vm₁) (E.c 4) (E.c 0) n w (defaultValue .int) (a := x) (by rw [hTh]; exact hx) n
    rw [hF, hTh] at this
    exact this
  have hrow : ∀ j : Nat, j < n → F.heap[H.size + 1 + j]? = some (Jvm.Free.Multi.innerC (E.c 0) w (defaultValue .int)) := fun j hj => by
    have := Jvm.Free.Multi.fill_inner (T.setVm vm₁) (E.c 4) (E.c 0) n w (defaultValue .int) n j hj
    rw [hF, hTh] at this
    exact this
  have hinner : Jvm.Free.Multi.innerC (E.c 0) w (defaultValue .int) = vp_cell (E.c 0) (w, .inl (fun _ => Int32.ofInt 0)) := by
    rw [vp_cell_i]
    exact arrV_new _ _ _
  rw [vr_outer] at f2
  have hP1 : PS E (M ++ (ra E 4 n (gR M.length n) :: List.replicate n (ia E 0 w (fun _ => 0)))) F.heap := hP.pushes (fun i x hx => by
    cases i with
    | zero =>
      cases hx
      show F.heap[E.b + (M.length + 0)]? = some (vp_cell (E.c 4) (n, .inr (.inr (.inr (.inr (fun j => (gR M.length n (j : Int)).map (fun a => E.b + a)))))))
      rw [show E.b + (M.length + 0) = H.size by rw [hP.2]; omega, f2, vp_cell_q]
      congr 2
      funext j
      unfold gR
      by_cases hj : j < n
      · rw [if_pos hj, if_pos (by omega), hP.2, Option.map_some]
        congr 2
        omega
      · rw [if_neg hj, if_neg (by omega)]
        rfl
    | succ i =>
      rw [List.getElem?_cons_succ] at hx
      have hi : i < n := by
        have := (List.getElem?_eq_some_iff.mp hx).1
        simpa using this
      rw [List.getElem?_replicate, if_pos hi] at hx
      cases hx
      show F.heap[E.b + (M.length + (i + 1))]? = some (vp_cell (E.c 0) (w, .inl (fun _ => Int32.ofInt 0)))
      rw [show E.b + (M.length + (i + 1)) = H.size + 1 + i by rw [hP.2]; omega, hrow i hi, hinner]) (by rw [f1, List.length_cons, List.length_replicate]; omega) hold
  have hS1 : va_S (AE E) s.heap F.heap locs := ⟨Nat.le_trans hS.1 (by omega), fun x h1 h2 => (hold x (Nat.lt_of_lt_of_le h1 hS.1)).trans (hS.2.1 x h1 h2), hS.2.2⟩
  obtain ⟨t2, a1, b1⟩ := k p e s m args below meth c F.heap locs ls d0 C hd hP1 hS1 hl F rfl X'
  refine ⟨t2, step t2 ?_, b1⟩
  rw [rr_eq, ← hP.2, ← hTh] at a1
  exact a1
theorem v_objI {b idx : Nat} (d : decode mi.cc pc = .ok (.invokespecial idx, 3)) (hlk : Cond.methodLink mi.y.cls idx Lib.objectInit ∈ lw_tbl) (hin : Cond.instanceMethod Lib.objectInit ∈ lw_tbl) (hco : Cond.code Lib.objectInit ⟨#[0xb1]⟩ 1 none ∈ lw_tbl) (hR : 1 ≤ R.frames) (hR2 : 20 ≤ R.locals) (k : V E R mi fin K N M (pc + 3) L []) : V E R mi fin K N M pc L [rr E b] := by
  intro p e s m args below meth c H locs ls d0 C hd hP hS hl
  refine W.objInit C.1 C.2.1 (C.own d0) (C.word d0 hlk rfl) (C.word d0 hin rfl) (C.word d0 hco rfl) rfl (by rw [C.2.2.2.2.1]; exact hl.1) rfl d hR (by show 2 * 0 + 0 + 12 ≤ _; omega) ?_
  exact k p e s m args below meth c H locs ls d0 C hd hP hS hl
/-! memory of a kept beginning and new cells -/
theorem a_get {M0 xs : Mem} {o k : Nat} (h : M0.length = o) : (M0 ++ xs)[o + k]? = xs[k]? := by
  subst h
  rw [List.getElem?_append_right (by omega)]
  congr 1
  omega
theorem a_get0 {M0 xs : Mem} {o : Nat} (h : M0.length = o) : (M0 ++ xs)[o]? = xs[0]? := a_get (k := 0) h
theorem a_old {M0 xs : Mem} {o b : Nat} (h : M0.length = o) (hb : b < o) : (M0 ++ xs)[b]? = M0[b]? := List.getElem?_append_left (by omega)
theorem a_set {M0 xs : Mem} {o k : Nat} {e : va_E} (h : M0.length = o) : (M0 ++ xs).set (o + k) e = M0 ++ xs.set k e := by
  subst h
  rw [List.set_append_right _ _ (by omega)]
  congr 2
  omega
theorem a_set0 {M0 xs : Mem} {o : Nat} {e : va_E} (h : M0.length = o) : (M0 ++ xs).set o e = M0 ++ xs.set 0 e := a_set (k := 0) h
theorem a_push {M0 xs : Mem} {e : Mem} : (M0 ++ xs) ++ e = M0 ++ (xs ++ e) := List.append_assoc _ _ _
theorem a_len {M0 xs : Mem} {o : Nat} (h : M0.length = o) : (M0 ++ xs).length = o + xs.length := by rw [List.length_append, h]
theorem v_mm {M2 : Mem} {K2 N2 : Nat} (h : M = M2) (h1 : K = K2) (h2 : N = N2) (k : V E R mi fin K2 N2 M2 pc L st) : V E R mi fin K N M pc L st := by subst h; subst h1; subst h2; exact k
end ALLOC3
