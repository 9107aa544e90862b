/-! ===== new cells ===== -/
section ALLOC
variable {E : Ev} {R : Room} {mi : MI} {fin : Fin9} {K N : Nat} {M : Mem} {pc : Nat} {L : List (Option Value)} {st : List Value}
theorem PS.push {H H1 : Heap} {e : va_E} (hP : PS E M H) (he : va_at E.D vwCl (E.b + M.length, e) H1) (z : H1.size = H.size + 1) (oq : ∀ q : Nat, q < H.size → H1[q]? = H[q]?) : PS E (M ++ [e]) H1 := by
  refine ⟨?_, by rw [z, hP.2, List.length_append]; rfl⟩
  rw [← wl_push]
  refine (hP.1.kept (fun k x hx => oq x.1 ((hP.1 k x hx).lt))).app (fun k x hx => ?_)
  have hz : k < 1 := (List.getElem?_eq_some_iff.mp hx).1
  rw [show k = 0 by omega] at hx
  cases hx
  exact he
theorem v_new {ci n idx : Nat} {Cq : String} {T : u_T} {fs : List Value} {ty0 : Nat → FieldType} (d : decode mi.cc pc = .ok (.new idx, 3)) (hc : vwCl[ci]? = some (Cq, T, n)) (hin : ∀ w ∈ u_ws Cq T n, w ∈ lw_tbl.filter goodWord) (hty : ∀ k, k < n → parseFieldDescriptor (T k).2.2.1 = some (ty0 k)) (hcl : Cond.classLink mi.y.cls idx Cq ∈ lw_tbl) (hinst : Cond.instantiable Cq n ∈ lw_tbl) (hini : Cond.initialized Cq ∈ lw_tbl) (hfs : ∀ j, j < n → defaultValue (ty0 j) = vp_V fs j) (hcells : K + 1 ≤ R.cells) (hslots : N + n ≤ R.slots) (k : V E R mi fin (K + 1) (N + n) (M ++ [ob ci fs]) (pc + 3) L (rr E M.length :: st)) : V E R mi fin K N M pc L st := by
  intro p e s m args below meth c H locs ls d0 C hd hP hS hl
  have hKn := (C.K d0).1 ci _ hc
  refine W.newcK C.1 C.2.1 (C.own d0) (C.word d0 hcl rfl) (C.word d0 hinst rfl) (C.word d0 hini rfl) rfl d hcells hslots hKn.2.1 rfl fun H1 kC hkC e1 z1 o1 => ?_
  have hP1 : PS E (M ++ [ob ci fs]) H1 := hP.push (by rw [← hP.2]; exact ⟨_, hc, (u_born ty0 (C.tg d0) hin hKn hkC e1 hty).to hfs⟩) z1 o1
  have hS1 : va_S (AE E) s.heap H1 locs := ⟨Nat.le_trans hS.1 (by omega), fun x h1 h2 => (o1 x (Nat.lt_of_lt_of_le h1 hS.1)).trans (hS.2.1 x h1 h2), hS.2.2⟩
  have kk := k p e s m args below meth c H1 locs ls d0 C hd hP1 hS1 hl
  rw [rr_eq, ← hP.2] at kk
  exact kk
end ALLOC
