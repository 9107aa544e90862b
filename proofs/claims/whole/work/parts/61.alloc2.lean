section ALLOC2
variable {E : Ev} {R : Room} {mi : MI} {fin : Fin9} {K N : Nat} {M : Mem} {pc : Nat} {L : List (Option Value)} {st : List Value}
theorem v_newi {n : Nat} (d : decode mi.cc pc = .ok (.newarray .int, 2)) (harr : Cond.arrayClass .int ∈ lw_tbl) (hn : n ≤ 10000) (hcells : K + 1 ≤ R.cells) (hslots : N + n ≤ R.slots) (k : V E R mi fin (K + 1) (N + n) (M ++ [ia E 0 n (fun _ => 0)]) (pc + 2) L (rr E M.length :: st)) : V E R mi fin K N M pc L (iv (n : Nat) :: st) := by
  intro p e s m args below meth c H locs ls d0 C hd hP hS hl
  have hlt : ¬ Int32.ofInt (n : Int) < 0 := by
    have q := i_lt (x := (n : Int)) (y := 0) ⟨by omega, by omega⟩ ⟨by omega, by omega⟩
    intro h
    have := q.mp h
    omega
  refine va_newaK C.1 C.2.1 (atype := .int) (C.word d0 harr rfl) rfl d rfl hlt (N := n) (by rw [i_clamp (by omega) (by omega)]; omega) (by show n * 4 ≤ 536870912; omega) hcells hslots rfl fun H1 cA e1 z1 o1 hAr hNm => ?_
  have hc : cA = E.c 0 := Option.some.inj (hNm.symm.trans ((C.K d0).2 0 _ rfl).2)
  subst hc
  have hP1 : PS E (M ++ [ia E 0 n (fun _ => 0)]) H1 := hP.push (by
    show H1[E.b + M.length]? = some (vp_cell (E.c 0) (n, .inl (fun j => Int32.ofInt 0)))
    rw [← hP.2, vp_cell_i]
    exact e1) z1 o1
  have hS1 : va_S (AE E) s.heap H1 locs := ⟨Nat.le_trans hS.1 (by omega), fun x h1 h2 => (o1 x (Nat.lt_of_lt_of_le h1 hS.1)).trans (hS.2.1 x h1 h2), hS.2.2⟩
  have kk := k p e s m args below meth c H1 locs ls d0 C hd hP1 hS1 hl
  rw [rr_eq, ← hP.2] at kk
  exact kk
theorem v_newb {n : Nat} (d : decode mi.cc pc = .ok (.newarray .byte, 2)) (harr : Cond.arrayClass .byte ∈ lw_tbl) (hn : n ≤ 10000) (hcells : K + 1 ≤ R.cells) (hslots : N + n ≤ R.slots) (k : V E R mi fin (K + 1) (N + n) (M ++ [ia E 1 n (fun _ => 0)]) (pc + 2) L (rr E M.length :: st)) : V E R mi fin K N M pc L (iv (n : Nat) :: st) := by
  intro p e s m args below meth c H locs ls d0 C hd hP hS hl
  have hlt : ¬ Int32.ofInt (n : Int) < 0 := by
    have q := i_lt (x := (n : Int)) (y := 0) ⟨by omega, by omega⟩ ⟨by omega, by omega⟩
    intro h
    have := q.mp h
    omega
  refine va_newaK C.1 C.2.1 (atype := .byte) (C.word d0 harr rfl) rfl d rfl hlt (N := n) (by rw [i_clamp (by omega) (by omega)]; omega) (by show n * 1 ≤ 536870912; omega) hcells hslots rfl fun H1 cA e1 z1 o1 hAr hNm => ?_
  have hc : cA = E.c 1 := Option.some.inj (hNm.symm.trans ((C.K d0).2 1 _ rfl).2)
  subst hc
  have hP1 : PS E (M ++ [ia E 1 n (fun _ => 0)]) H1 := hP.push (by
    show H1[E.b + M.length]? = some (vp_cell (E.c 1) (n, .inl (fun j => Int32.ofInt 0)))
    rw [← hP.2, vp_cell_i]
    exact e1) z1 o1
  have hS1 : va_S (AE E) s.heap H1 locs := ⟨Nat.le_trans hS.1 (by omega), fun x h1 h2 => (o1 x (Nat.lt_of_lt_of_le h1 hS.1)).trans (hS.2.1 x h1 h2), hS.2.2⟩
  have kk := k p e s m args below meth c H1 locs ls d0 C hd hP1 hS1 hl
  rw [rr_eq, ← hP.2] at kk
  exact kk
end ALLOC2
