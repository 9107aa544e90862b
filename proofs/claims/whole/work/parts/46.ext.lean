/-! ===== what lies outside: the texts of the class, two statics ===== -/
def wS : List (List Int) := [wBands, wSmooth, wSubst, wStat, wSeries, wX]
section EXT
variable {E : Ev} {R : Room} {mi : MI} {fin : Fin9} {K N : Nat} {M : Mem} {pc : Nat} {L : List (Option Value)} {st : List Value}
theorem Cx.X {p : Program} {s : State} {m : MethodId} {args : Array Value} {meth : Method} {c : Code} (h : Cx E mi p s m args meth c) (d0 : Drawn) : Xt E (s.setDrawn d0) (s.setDrawn d0).heap := (KS.same (V := s.setDrawn d0) h.2.2.2.2.2.2.2.2.1 rfl h.2.2.2.2.2.2.2.2.2).2.2
theorem v_ldcS {i idx : Nat} (hi : i < 6) (hx : ixS.getD i 0 = idx) (hy : mi.y.cls = RX5) (d : decode mi.cc pc = .ok (.ldc idx, 2)) (k : V E R mi fin K N M (pc + 2) L (xr (E.aK i) :: st)) : V E R mi fin K N M pc L st := by
  intro p e s m args below meth c H locs ls d0 C hd hP hS hl
  subst hx
  exact va_ldcS C.1 C.2.1 (own := RX5) (by rw [← hy]; exact C.own d0) ((C.X d0).2.1 i hi) d (k p e s m args below meth c H locs ls d0 C hd hP hS hl)
theorem v_xval {i idx : Nat} (hi : i < 6) (d : decode mi.cc pc = .ok (.getfield idx, 3)) (hlink : Cond.fieldLink mi.y.cls idx "java/lang/String" "value" "[B" ∈ lw_tbl) (k : V E R mi fin K N M (pc + 3) L (xr (E.aV i) :: st)) : V E R mi fin K N M pc L (xr (E.aK i) :: st) := by
  intro p e s m args below meth c H locs ls d0 C hd hP hS hl
  exact vk_getf C.1 C.2.1 ((C.X d0).1.1 i hi).2.2.1 hS (C.own d0) (C.word d0 hlink rfl) (fun x h => h) d (k p e s m args below meth c H locs ls d0 C hd hP hS hl)
theorem v_xcod {i idx : Nat} (hi : i < 6) (d : decode mi.cc pc = .ok (.getfield idx, 3)) (hlink : Cond.fieldLink mi.y.cls idx "java/lang/String" "coder" "B" ∈ lw_tbl) (k : V E R mi fin K N M (pc + 3) L (iv 0 :: st)) : V E R mi fin K N M pc L (xr (E.aK i) :: st) := by
  intro p e s m args below meth c H locs ls d0 C hd hP hS hl
  exact vk_getf C.1 C.2.1 ((C.X d0).1.1 i hi).2.1 hS (C.own d0) (C.word d0 hlink rfl) (fun x h => h) d (k p e s m args below meth c H locs ls d0 C hd hP hS hl)
theorem v_xlen {i : Nat} (hi : i < 6) (d : decode mi.cc pc = .ok (.arraylength, 1)) (k : V E R mi fin K N M (pc + 1) L (iv ((lenS.getD i 0 : Nat) : Int) :: st)) : V E R mi fin K N M pc L (xr (E.aV i) :: st) := by
  intro p e s m args below meth c H locs ls d0 C hd hP hS hl
  exact va_tlen C.1 C.2.1 ((C.X d0).1.1 i hi).2.2.2 hS (v := Int32.ofInt ((lenS.getD i 0 : Nat) : Int)) (Int32.ofInt_eq_ofNat).symm d (k p e s m args below meth c H locs ls d0 C hd hP hS hl)
theorem byt_w : ∀ i : Nat, i < 6 → ∀ j : Nat, j < lenS.getD i 0 → (bytS.getD i []).getD j 0 = Int32.ofInt ((wS.getD i []).getD j 0) := by
  intro i hi
  rcases (show i = 0 ∨ i = 1 ∨ i = 2 ∨ i = 3 ∨ i = 4 ∨ i = 5 by omega) with rfl | rfl | rfl | rfl | rfl | rfl <;> decide
theorem v_xbal {i : Nat} {z : Int} (hi : i < 6) (d : decode mi.cc pc = .ok (.baload, 1)) (h0 : 0 ≤ z) (h1 : z < (lenS.getD i 0 : Nat)) (h2 : lenS.getD i 0 < 10) (k : V E R mi fin K N M (pc + 1) L (iv ((wS.getD i []).getD z.toNat 0) :: st)) : V E R mi fin K N M pc L (iv z :: xr (E.aV i) :: st) := by
  intro p e s m args below meth c H locs ls d0 C hd hP hS hl
  have hin : vp_in (Int32.ofInt z) (lenS.getD i 0) := i_in h0 h1 (by omega)
  exact va_tb C.1 C.2.1 ((C.X d0).1.1 i hi).2.2.2 hS hin (v := iv ((wS.getD i []).getD z.toNat 0)) (by show Value.int ((bytS.getD i []).getD (Int32.ofInt z).toNatClampNeg 0) = _; rw [i_clamp h0 (by omega), byt_w i hi _ (by omega)]; rfl) d (k p e s m args below meth c H locs ls d0 C hd hP hS hl)
theorem v_gets1 {idx : Nat} (d : decode mi.cc pc = .ok (.getstatic idx, 3)) (hlink : Cond.fieldLink mi.y.cls idx "java/lang/String" "COMPACT_STRINGS" "Z" ∈ lw_tbl) (k : V E R mi fin K N M (pc + 3) L (iv 1 :: st)) : V E R mi fin K N M pc L st := by
  intro p e s m args below meth c H locs ls d0 C hd hP hS hl
  exact va_gets C.1 C.2.1 (C.X d0).2.2.2.2.2.1 hS (C.own d0) (C.word d0 hlink rfl) (fun x h => h) d (k p e s m args below meth c H locs ls d0 C hd hP hS hl)
theorem v_gets2 {idx : Nat} (d : decode mi.cc pc = .ok (.getstatic idx, 3)) (hlink : Cond.fieldLink mi.y.cls idx "jdk/internal/util/Preconditions" "SIOOBE_FORMATTER" "Ljava/util/function/BiFunction;" ∈ lw_tbl) (k : ∀ v : Value, (v = .null ∨ ∃ t, v = .ref t) → V E R mi fin K N M (pc + 3) L (v :: st)) : V E R mi fin K N M pc L st := by
  intro p e s m args below meth c H locs ls d0 C hd hP hS hl
  rcases (C.X d0).2.2.2.2.2.2 with h | ⟨t, h⟩
  · exact va_gets C.1 C.2.1 h hS (C.own d0) (C.word d0 hlink rfl) (fun x h => h) d (k _ (Or.inl rfl) p e s m args below meth c H locs ls d0 C hd hP hS hl)
  · exact va_gets C.1 C.2.1 h hS (C.own d0) (C.word d0 hlink rfl) (fun x h => h) d (k _ (Or.inr ⟨t, rfl⟩) p e s m args below meth c H locs ls d0 C hd hP hS hl)
theorem v_callX {q : MI} {Rq : Room} {i n idx : Nat} {As rest : List Value} (hi : i < 6) (d : decode mi.cc pc = .ok (.invokevirtual idx, 3)) (hc : q.y.cls = RJ0) (hlk : Cond.methodLink mi.y.cls idx q.y ∈ lw_tbl) (hq : MfV q n) (hn : As.length = n) (hR : Rq.frames + 1 ≤ R.frames ∧ 8 + (q.nL + 11) + Rq.locals ≤ R.locals) (hw : (rest.map fun v => v.category).sum ≤ 8) (hf : K + Rq.cells ≤ R.cells ∧ N + Rq.slots ≤ R.slots)
    (k : Cn E Rq q (xr (E.aK i) :: As) M (fun r M2 => V E R mi fin (K + Rq.cells) (N + Rq.slots) M2 (pc + 3) L (r.toList ++ rest))) : V E R mi fin K N M pc L (As.reverse ++ xr (E.aK i) :: rest) := by
  intro p e s m args below meth c H locs ls d0 C hd hP hS hl
  refine v_run (q := q) (Rq := Rq) (rest := rest) (a9 := (xr (E.aK i) :: As).toArray) C hd hS hl ?_
  refine va_runV_D (C := q.y.cls) (As := As) (rest := rest) ⟨C.1, C.2.1, C.2.2.2.2.1, C.own d0, C.tg d0⟩ k (cwV n (C.tg d0) (good_tg ?_) rfl rfl rfl ⟨rfl, hq.2.2.2.2⟩ hR) ⟨PC_blind, by rw [hc]; exact vk_recv (C.X d0).1 hi hS, fun U hU hW => PC_at C hP hS U hU hW⟩ rfl hn hl.1 rfl (lv_room hw) d hf
  intro w hw
  rcases List.mem_append.mp hw with hw | hw
  · simp only [List.mem_cons, List.not_mem_nil, or_false] at hw
    rcases hw with rfl | rfl | rfl | rfl
    · exact tg_of hlk rfl
    · exact tg_of hq.1 rfl
    · exact tg_of hq.2.1 rfl
    · exact tg_of hq.2.2.1 rfl
  · exact wsA_in hq.2.2.2.1 w hw
end EXT
