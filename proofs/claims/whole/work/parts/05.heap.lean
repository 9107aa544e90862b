section HEAP
variable {E : Ev} {R : Room} {mi : MI} {fin : Fin9} {K N : Nat} {M : Mem} {pc : Nat} {L : List (Option Value)} {st : List Value}
theorem in_lw (ws : List Cond) (ps : List Nat) (hp : ws = ps.filterMap (fun i => lw_tbl[i]?)) (h : ws.all goodWord = true) : ∀ w ∈ ws, w ∈ lw_tbl.filter goodWord := by
  intro w hw
  have h1 := List.all_eq_true.mp h w hw
  rw [hp] at hw
  obtain ⟨i, -, hi⟩ := List.mem_filterMap.mp hw
  exact List.mem_filter.mpr ⟨List.mem_of_getElem? hi, h1⟩
theorem Cx.tg {p : Program} {s : State} {m : MethodId} {args : Array Value} {meth : Method} {c : Code} (h : Cx E mi p s m args meth c) (d0 : Drawn) : ∀ w ∈ lw_tbl.filter goodWord, w.before args (s.setDrawn d0) = true := fun w hw => h.word d0 (List.mem_filter.mp hw).1 (List.mem_filter.mp hw).2
theorem PS.put {H H1 : Heap} {a : Nat} {e0 e1 : va_E} (hP : PS E M H) (hM : M[a]? = some e0) (he : va_at E.D vwCl (E.b + a, e1) H1) (z : H1.size = H.size) (oq : ∀ q : Nat, q ≠ E.b + a → H1[q]? = H[q]?) : PS E (M.set a e1) H1 := by
  refine ⟨?_, by rw [z, hP.2, List.length_set]⟩
  have h := va_P.set (e := e1) hP.1 (wl_D (β := E.b) (M := M)) (wl_get hM) he oq
  rw [wl_set] at h
  exact h
theorem v_getf {a ci n k idx : Nat} {fs : List Value} {v : Value} {Cq : String} {T : u_T} (d : decode mi.cc pc = .ok (.getfield idx, 3)) (hM : M[a]? = some (ob ci fs)) (hc : vwCl[ci]? = some (Cq, T, n)) (hin : ∀ w ∈ u_ws Cq T n, w ∈ lw_tbl.filter goodWord) (hk : k < n) (hlink : Cond.fieldLink mi.y.cls idx (T k).1 (T k).2.1 (T k).2.2.1 ∈ lw_tbl) (hv : fs[k]? = some v) (k9 : V E R mi fin K N M (pc + 3) L (v :: st)) : V E R mi fin K N M pc L (rr E a :: st) := by
  intro p e s m args below meth c H locs ls d0 C hd hP hS hl
  exact va_get C.1 C.2.1 (C.tg d0) hin (C.own d0) (C.K d0) hP.1 a (wl_get hM) hc k hk (C.word d0 hlink rfl) (fun x h => h) hv d (k9 p e s m args below meth c H locs ls d0 C hd hP hS hl)
theorem v_getn {a ci n k idx : Nat} {fs : List Value} {v : Value} {Cq host : String} {T : u_T} (d : decode mi.cc pc = .ok (.getfield idx, 3)) (hM : M[a]? = some (ob ci fs)) (hc : vwCl[ci]? = some (Cq, T, n)) (hin : ∀ w ∈ u_ws Cq T n, w ∈ lw_tbl.filter goodWord) (hk : k < n) (hlink : Cond.fieldLinkNest mi.y.cls idx (T k).1 (T k).2.1 (T k).2.2.1 host ∈ lw_tbl) (hv : fs[k]? = some v) (k9 : V E R mi fin K N M (pc + 3) L (v :: st)) : V E R mi fin K N M pc L (rr E a :: st) := by
  intro p e s m args below meth c H locs ls d0 C hd hP hS hl
  exact va_getN C.1 C.2.1 (C.tg d0) hin (C.own d0) (C.K d0) hP.1 a (wl_get hM) hc k hk (C.nest d0 hlink rfl) (fun x h => h) hv d (k9 p e s m args below meth c H locs ls d0 C hd hP hS hl)
theorem v_putf {a ci n k idx : Nat} {fs : List Value} {v : Value} {Cq : String} {T : u_T} {ty0 : Nat → FieldType} (d : decode mi.cc pc = .ok (.putfield idx, 3)) (hM : M[a]? = some (ob ci fs)) (hc : vwCl[ci]? = some (Cq, T, n)) (hin : ∀ w ∈ u_ws Cq T n, w ∈ lw_tbl.filter goodWord) (hty : ∀ k, k < n → parseFieldDescriptor (T k).2.2.1 = some (ty0 k)) (hnm : ∀ a, a < n → ∀ b, b < n → a ≠ b → (T a).2.1 ≠ (T b).2.1) (hk : k < n) (hlink : Cond.fieldLink mi.y.cls idx (T k).1 (T k).2.1 (T k).2.2.1 ∈ lw_tbl) (hfin : (T k).2.2.2 = false) (hn : narrow (ty0 k) v = v) (hfit : fits (ty0 k) v = true) (hl9 : k < fs.length) (k9 : V E R mi fin K N (M.set a (ob ci (fs.set k v))) (pc + 3) L st) : V E R mi fin K N M pc L (v :: rr E a :: st) := by
  intro p e s m args below meth c H locs ls d0 C hd hP hS0 hl
  have hts := C.tg d0
  have hK := C.K d0
  have hap := va_apart (own := mi.y.cls) hts hin ty0 hty hnm hK hc
  have he := wl_get (β := E.b) hM
  obtain ⟨r, h1, cell, q1, q2, q3, q4⟩ := hP.1 a _ he
  have hr : r = (Cq, T, n) := Option.some.inj (h1.symm.trans hc)
  subst hr
  obtain ⟨hS, hfc, kC, hkC, hkind⟩ := hK.1 ci _ hc
  obtain ⟨cf, kf, fi, f, hi, hsl⟩ := hS k hk
  have hlay := hts _ (hin _ (u_in_lay hk))
  unfold u_lay at hlay
  rw [if_neg (by rw [hfin]; decide)] at hlay
  have hst := (u_facts hfc hkC (u_lays hts hin hk) hi).1
  have h6 := u_store hfc hkC hkind hlay hi (hty k hk) hn hfit
  refine W.putK C.1 C.2.1 (f := f) ⟨C.own d0, C.word d0 hlink rfl, ⟨_, _, _, hi⟩, hst⟩ (by rw [q2]; exact h6) q1 q3 (by rw [hsl]; exact k2_hasslot (q4 k hk)) rfl rfl d fun H' e1 e2 e3 => ?_
  rw [hsl] at e1 ⊢
  exact k9 p e s m args below meth c H' _ ls d0 C hd (hP.put (e1 := ob ci (fs.set k v)) hM ⟨_, hc, t_OB.to (V := updV (vp_V fs) k v) ⟨_, e1, q2, q3, t_set q4 hap hk v⟩ (fun j _ => vp_updV_set hl9 v j)⟩ e2 e3) (hS0.put e2 e3 (show E.b ≤ E.b + a by omega)) hl
theorem v_putn {a ci n k idx : Nat} {fs : List Value} {v : Value} {Cq host : String} {T : u_T} {ty0 : Nat → FieldType} (d : decode mi.cc pc = .ok (.putfield idx, 3)) (hM : M[a]? = some (ob ci fs)) (hc : vwCl[ci]? = some (Cq, T, n)) (hin : ∀ w ∈ u_ws Cq T n, w ∈ lw_tbl.filter goodWord) (hty : ∀ k, k < n → parseFieldDescriptor (T k).2.2.1 = some (ty0 k)) (hnm : ∀ a, a < n → ∀ b, b < n → a ≠ b → (T a).2.1 ≠ (T b).2.1) (hk : k < n) (hlink : Cond.fieldLinkNest mi.y.cls idx (T k).1 (T k).2.1 (T k).2.2.1 host ∈ lw_tbl) (hfin : (T k).2.2.2 = false) (hn : narrow (ty0 k) v = v) (hfit : fits (ty0 k) v = true) (hl9 : k < fs.length) (k9 : V E R mi fin K N (M.set a (ob ci (fs.set k v))) (pc + 3) L st) : V E R mi fin K N M pc L (v :: rr E a :: st) := by
  intro p e s m args below meth c H locs ls d0 C hd hP hS0 hl
  have hts := C.tg d0
  have hK := C.K d0
  have hap := va_apart (own := mi.y.cls) hts hin ty0 hty hnm hK hc
  have he := wl_get (β := E.b) hM
  obtain ⟨r, h1, cell, q1, q2, q3, q4⟩ := hP.1 a _ he
  have hr : r = (Cq, T, n) := Option.some.inj (h1.symm.trans hc)
  subst hr
  obtain ⟨hS, hfc, kC, hkC, hkind⟩ := hK.1 ci _ hc
  obtain ⟨cf, kf, fi, f, hi, hsl⟩ := hS k hk
  have hlay := hts _ (hin _ (u_in_lay hk))
  unfold u_lay at hlay
  rw [if_neg (by rw [hfin]; decide)] at hlay
  have hst := (u_facts hfc hkC (u_lays hts hin hk) hi).1
  have h6 := u_store hfc hkC hkind hlay hi (hty k hk) hn hfit
  refine va_WputK C.1 C.2.1 (f := f) (C.own d0) (C.nest d0 hlink rfl) hi hst (by rw [q2]; exact h6) q1 q3 (by rw [hsl]; exact k2_hasslot (q4 k hk)) rfl rfl d fun H' e1 e2 e3 => ?_
  rw [hsl] at e1 ⊢
  exact k9 p e s m args below meth c H' _ ls d0 C hd (hP.put (e1 := ob ci (fs.set k v)) hM ⟨_, hc, t_OB.to (V := updV (vp_V fs) k v) ⟨_, e1, q2, q3, t_set q4 hap hk v⟩ (fun j _ => vp_updV_set hl9 v j)⟩ e2 e3) (hS0.put e2 e3 (show E.b ≤ E.b + a by omega)) hl
/-- a final field, in its class's constructor -/
theorem v_putF {a ci n k idx : Nat} {fs : List Value} {v : Value} {Cq : String} {T : u_T} {ty0 : Nat → FieldType} (d : decode mi.cc pc = .ok (.putfield idx, 3)) (hM : M[a]? = some (ob ci fs)) (hc : vwCl[ci]? = some (Cq, T, n)) (hin : ∀ w ∈ u_ws Cq T n, w ∈ lw_tbl.filter goodWord) (hty : ∀ k, k < n → parseFieldDescriptor (T k).2.2.1 = some (ty0 k)) (hnm : ∀ a, a < n → ∀ b, b < n → a ≠ b → (T a).2.1 ≠ (T b).2.1) (hk : k < n) (hlink : Cond.fieldLink mi.y.cls idx (T k).1 (T k).2.1 (T k).2.2.1 ∈ lw_tbl) (hfin : (T k).2.2.2 = true) (hin2 : mi.y.name = "<init>") (hdecl : (T k).1 = mi.y.cls) (hn : narrow (ty0 k) v = v) (hfit : fits (ty0 k) v = true) (hl9 : k < fs.length) (k9 : V E R mi fin K N (M.set a (ob ci (fs.set k v))) (pc + 3) L st) : V E R mi fin K N M pc L (v :: rr E a :: st) := by
  intro p e s m args below meth c H locs ls d0 C hd hP hS0 hl
  have hts := C.tg d0
  have hK := C.K d0
  have hown := C.own d0
  have hap := va_apart (own := mi.y.cls) hts hin ty0 hty hnm hK hc
  have he := wl_get (β := E.b) hM
  obtain ⟨r, h1, cell, q1, q2, q3, q4⟩ := hP.1 a _ he
  have hr : r = (Cq, T, n) := Option.some.inj (h1.symm.trans hc)
  subst hr
  obtain ⟨hS, hfc, kC, hkC, hkind⟩ := hK.1 ci _ hc
  obtain ⟨cf, kf, fi, f, hi, hsl⟩ := hS k hk
  have hlay := hts _ (hin _ (u_in_lay hk))
  unfold u_lay at hlay
  rw [if_pos hfin] at hlay
  have hst := (u_facts hfc hkC (u_lays hts hin hk) hi).1
  have hcf : m.cls = cf := by
    obtain ⟨_, _, c', _, _, _, -, -, hf', -, -, -, hown2, -⟩ := Cond.laysFinal_spec hlay
    have e1 : c' = cf := by have := hi.symm.trans hf'; simp at this; exact this.1.symm
    rw [hdecl] at hown2
    rw [← e1]; exact Option.some.inj (hown.symm.trans hown2)
  have h6 := u_fits hfc hkC hkind (Or.inr hlay) hi (hty k hk) hn hfit
  have hmn : meth.name = "<init>" := C.2.2.2.2.2.2.1.trans hin2
  refine W.putFinK C.1 C.2.1 hown (C.word d0 hlink rfl) hi hst hcf hmn (by rw [q2]; exact h6) q1 q3 (by rw [hsl]; exact k2_hasslot (q4 k hk)) rfl rfl d fun H' e1 e2 e3 => ?_
  rw [hsl] at e1 ⊢
  exact k9 p e s m args below meth c H' _ ls d0 C hd (hP.put (e1 := ob ci (fs.set k v)) hM ⟨_, hc, t_OB.to (V := updV (vp_V fs) k v) ⟨_, e1, q2, q3, t_set q4 hap hk v⟩ (fun j _ => vp_updV_set hl9 v j)⟩ e2 e3) (hS0.put e2 e3 (show E.b ≤ E.b + a by omega)) hl
def upI (f : Int → Int) (z x : Int) : Int → Int := fun j => if j = z then x else f j
def upR (f : Int → Option Nat) (z : Int) (x : Option Nat) : Int → Option Nat := fun j => if j = z then x else f j
theorem upI_s (f : Int → Int) (z x : Int) : upI f z x z = x := if_pos rfl
theorem upI_n (f : Int → Int) {z j : Int} (x : Int) (h : j ≠ z) : upI f z x j = f j := if_neg h
theorem toNat_cast {z : Int} (h : 0 ≤ z) : ((z.toNat : Nat) : Int) = z := Int.toNat_of_nonneg h
theorem v_iaload {a n : Nat} {f : Int → Int} {z : Int} (d : decode mi.cc pc = .ok (.iaload, 1)) (hM : M[a]? = some (ia E 0 n f)) (h0 : 0 ≤ z) (h1 : z < n) (h2 : n < 2147483648) (k : V E R mi fin K N M (pc + 1) L (iv (f z) :: st)) : V E R mi fin K N M pc L (iv z :: rr E a :: st) := by
  intro p e s m args below meth c H locs ls d0 C hd hP hS hl
  have k := k p e s m args below meth c H locs ls d0 C hd hP hS hl
  refine va_iald C.1 C.2.1 (C.K d0) hP.1 a 0 (wl_get hM) rfl (i_in h0 h1 h2) d ?_
  rw [i_clamp h0 (by omega), toNat_cast h0]
  exact k
theorem v_baload {a n : Nat} {f : Int → Int} {z : Int} (d : decode mi.cc pc = .ok (.baload, 1)) (hM : M[a]? = some (ia E 1 n f)) (h0 : 0 ≤ z) (h1 : z < n) (h2 : n < 2147483648) (k : V E R mi fin K N M (pc + 1) L (iv (f z) :: st)) : V E R mi fin K N M pc L (iv z :: rr E a :: st) := by
  intro p e s m args below meth c H locs ls d0 C hd hP hS hl
  have k := k p e s m args below meth c H locs ls d0 C hd hP hS hl
  refine va_bald C.1 C.2.1 (C.K d0) hP.1 a 1 (wl_get hM) rfl (i_in h0 h1 h2) d ?_
  rw [i_clamp h0 (by omega), toNat_cast h0]
  exact k
theorem up_cell (cA : ClassId) (n : Nat) (f : Int → Int) {z x : Int} (h0 : 0 ≤ z) : (arrV cA n (fun j => .int (Int32.ofInt (f j)))).setSlot z.toNat (.int (Int32.ofInt x)) = arrV cA n (fun j => .int (Int32.ofInt (upI f z x j))) := by
  rw [arrV_store]
  congr 1
  funext q
  by_cases hq : q = z.toNat
  · subst hq
    simp only [updV, upI, toNat_cast h0, if_true]
  · have h3 : ¬ ((q : Int) = z) := by omega
    simp [updV, upI, hq, h3]
theorem v_iastore {a n : Nat} {f : Int → Int} {z x : Int} (d : decode mi.cc pc = .ok (.iastore, 1)) (hM : M[a]? = some (ia E 0 n f)) (h0 : 0 ≤ z) (h1 : z < n) (h2 : n < 2147483648) (k : V E R mi fin K N (M.set a (ia E 0 n (upI f z x))) (pc + 1) L st) : V E R mi fin K N M pc L (iv x :: iv z :: rr E a :: st) := by
  intro p e s m args below meth c H locs ls d0 C hd hP hS hl
  refine W.iast C.1 C.2.1 (hP.1 a _ (wl_get hM)) (((C.K d0).2 0 _ rfl).1 n (fun j => .int (Int32.ofInt (f j)))) (fun q => by cases q) (by show ¬ (Int32.ofInt z < 0 ∨ (arrV _ _ _).slots.size ≤ _); rw [arrV_size]; exact i_in h0 h1 h2) rfl rfl d fun H1 e1 e2 e3 => ?_
  refine k p e s m args below meth c H1 _ ls d0 C hd (hP.put (e1 := ia E 0 n (upI f z x)) hM ?_ e2 e3) (hS.put e2 e3 (show E.b ≤ E.b + a by omega)) hl
  show H1[E.b + a]? = some (vp_cell (E.c 0) (n, .inl (fun j => Int32.ofInt (upI f z x j))))
  rw [e1, i_clamp h0 (by omega), vp_cell_i]
  exact congrArg some (up_cell (E.c 0) n f h0)
theorem v_bastore {a n : Nat} {f : Int → Int} {z x : Int} (d : decode mi.cc pc = .ok (.bastore, 1)) (hM : M[a]? = some (ia E 1 n f)) (h0 : 0 ≤ z) (h1 : z < n) (h2 : n < 2147483648) (hx : -128 ≤ x) (hx2 : x < 128) (k : V E R mi fin K N (M.set a (ia E 1 n (upI f z x))) (pc + 1) L st) : V E R mi fin K N M pc L (iv x :: iv z :: rr E a :: st) := by
  intro p e s m args below meth c H locs ls d0 C hd hP hS hl
  have hb : (Int32.ofInt x).toInt8.toInt32 = Int32.ofInt x := by
    rw [← Int32.toInt_inj, Int8.toInt_toInt32, Int32.toInt_toInt8, i_toInt ⟨by omega, by omega⟩]
    exact Int.bmod_eq_of_le (by omega) (by omega)
  refine W.bast C.1 C.2.1 (hP.1 a _ (wl_get hM)) (((C.K d0).2 1 _ rfl).1 n (fun j => .int (Int32.ofInt (f j)))) (fun q => by cases q) (by show ¬ (Int32.ofInt z < 0 ∨ (arrV _ _ _).slots.size ≤ _); rw [arrV_size]; exact i_in h0 h1 h2) rfl rfl d fun H1 e1 e2 e3 => ?_
  refine k p e s m args below meth c H1 _ ls d0 C hd (hP.put (e1 := ia E 1 n (upI f z x)) hM ?_ e2 e3) (hS.put e2 e3 (show E.b ≤ E.b + a by omega)) hl
  show H1[E.b + a]? = some (vp_cell (E.c 1) (n, .inl (fun j => Int32.ofInt (upI f z x j))))
  have hb2 : narrow .byte (.int (Int32.ofInt x)) = .int (Int32.ofInt x) := congrArg Value.int hb
  rw [e1, i_clamp h0 (by omega), hb2, vp_cell_i]
  exact congrArg some (up_cell (E.c 1) n f h0)
theorem v_aaload {a n t : Nat} {g : Int → Option Nat} {z : Int} {ty : FieldType} (d : decode mi.cc pc = .ok (.aaload, 1)) (hM : M[a]? = some (ra E t n g)) (ht : (tysE E)[t]? = some (E.c t, ty)) (hty : ty.isReference = true) (h0 : 0 ≤ z) (h1 : z < n) (h2 : n < 2147483648) (k : V E R mi fin K N M (pc + 1) L (ro E (g z) :: st)) : V E R mi fin K N M pc L (iv z :: rr E a :: st) := by
  intro p e s m args below meth c H locs ls d0 C hd hP hS hl
  have k := k p e s m args below meth c H locs ls d0 C hd hP hS hl
  have hin := i_in h0 h1 h2
  have hlt : (Int32.ofInt z).toNatClampNeg < n := Nat.not_le.mp fun q => hin (Or.inr q)
  refine W.aald (v := ro E (g z)) (ty := ty) C.1 C.2.1 (hP.1 a _ (wl_get hM)) (((C.K d0).2 t _ ht).1 n (fun j => va_rf ((g j).map (fun a => E.b + a)))) hty (fun q => by cases q) (by show ¬ (Int32.ofInt z < 0 ∨ (arrV _ _ _).slots.size ≤ _); rw [arrV_size]; exact hin) (by show (arrV _ _ _).slots[_]? = _; rw [arrV_read _ _ hlt, i_clamp h0 (by omega)]; show some (va_rf (Option.map (fun a => E.b + a) (g ((z.toNat : Nat) : Int)))) = _; rw [toNat_cast h0]; rfl) rfl rfl d k
theorem v_aastore {a n t ci b nn : Nat} {g : Int → Option Nat} {z : Int} {fs : List Value} {Cq : String} {T : u_T} (d : decode mi.cc pc = .ok (.aastore, 1)) (hM : M[a]? = some (ra E t n g)) (ht : (tysE E)[t]? = some (E.c t, .object Cq)) (hB : M[b]? = some (ob ci fs)) (hc : vwCl[ci]? = some (Cq, T, nn)) (h0 : 0 ≤ z) (h1 : z < n) (h2 : n < 2147483648) (k : V E R mi fin K N (M.set a (ra E t n (upR g z (some b)))) (pc + 1) L st) : V E R mi fin K N M pc L (rr E b :: iv z :: rr E a :: st) := by
  intro p e s m args below meth c H locs ls d0 C hd hP hS hl
  have hin := i_in h0 h1 h2
  have hlt : (Int32.ofInt z).toNatClampNeg < n := Nat.not_le.mp fun q => hin (Or.inr q)
  have h00 : ¬ Int32.ofInt z < 0 := fun q => hin (Or.inl q)
  obtain ⟨r', hr', cellV, g1, g2, g3, -⟩ := hP.1 b _ (wl_get hB)
  have hcls := ((C.K d0).1 ci _ hc).2
  obtain ⟨kA, comp, k1, k2, k3, -⟩ := ((C.K d0).2 t _ ht).2
  have hcomp : comp = E.D.1 ci := Option.some.inj (k3.symm.trans hcls.1)
  subst hcomp
  obtain ⟨kC, hkC, -⟩ := hcls.2
  refine W.aast C.1 C.2.1 (hP.1 a _ (wl_get hM)) (fun q h => by cases h) (fun h => by cases h) k1 k2 rfl hkC ⟨h00, by show _ < (arrV _ _ _).slots.size; rw [arrV_size]; exact hlt⟩ g1 (fun q h => by rw [g3] at h; cases h) (by rw [g2]; exact hkC) (by rw [g2]; exact va_assign hcls) rfl rfl d fun H1 e1 e2 e3 => ?_
  refine k p e s m args below meth c H1 _ ls d0 C hd (hP.put (e1 := ra E t n (upR g z (some b))) hM ?_ e2 e3) (hS.put e2 e3 (show E.b ≤ E.b + a by omega)) hl
  show H1[E.b + a]? = some (vp_cell (E.c t) (n, .inr (.inr (.inr (.inr (fun j => (upR g z (some b) j).map (fun a => E.b + a)))))))
  rw [e1]
  show some ((vp_cell (E.c t) (n, .inr (.inr (.inr (.inr (fun j => (g j).map (fun a => E.b + a))))))).setSlot _ _) = _
  rw [vp_cell_q, arrV_store, i_clamp h0 (by omega), vp_cell_q]
  congr 2
  funext q
  by_cases hq : q = z.toNat
  · subst hq
    simp only [updV, upR, toNat_cast h0, if_true]
    rfl
  · have h3 : ¬ ((q : Int) = z) := by omega
    simp only [updV, upR, hq, h3, if_false]
def MfV (q : MI) (n : Nat) : Prop := Cond.instanceMethod q.y ∈ lw_tbl ∧ Cond.selects q.y.cls q.y q.y ∈ lw_tbl ∧ Cond.initialized q.y.cls ∈ lw_tbl ∧ Cond.code q.y q.cc q.nL q.rt ∈ lw_tbl ∧ (q.y.cls ≠ "java/lang/invoke/MethodHandle" ∧ q.y.cls ≠ "java/lang/invoke/VarHandle" ∧ (parseMethodDescriptor q.y.desc).map (fun d => d.parameters.length) = some n)
def MfS (q : MI) (n : Nat) : Prop := Cond.static q.y ∈ lw_tbl ∧ Cond.initialized q.y.cls ∈ lw_tbl ∧ Cond.code q.y q.cc q.nL q.rt ∈ lw_tbl ∧ (q.y.cls ≠ "java/lang/invoke/MethodHandle" ∧ q.y.cls ≠ "java/lang/invoke/VarHandle" ∧ (parseMethodDescriptor q.y.desc).map (fun d => d.parameters.length) = some n)
def MfI (q : MI) (n : Nat) : Prop := q.y.name = "<init>" ∧ q.rt = none ∧ Cond.instanceMethod q.y ∈ lw_tbl ∧ Cond.initialized q.y.cls ∈ lw_tbl ∧ Cond.code q.y q.cc q.nL q.rt ∈ lw_tbl ∧ (q.y.cls ≠ "java/lang/invoke/MethodHandle" ∧ q.y.cls ≠ "java/lang/invoke/VarHandle" ∧ (parseMethodDescriptor q.y.desc).map (fun d => d.parameters.length) = some n)
theorem tg_of {w : Cond} (h : w ∈ lw_tbl) (hg : goodWord w = true) : w ∈ lw_tbl.filter goodWord := List.mem_filter.mpr ⟨h, hg⟩
theorem good_tg {ws : List Cond} (h : ∀ w ∈ ws, w ∈ lw_tbl.filter goodWord) : GoodIn (lw_tbl.filter goodWord) ws := fun w hw => ⟨h w hw, good_of_word (List.mem_filter.mp (h w hw)).2⟩
theorem wsA_in {q : MI} (h : Cond.code q.y q.cc q.nL q.rt ∈ lw_tbl) : ∀ w ∈ wsA q, w ∈ lw_tbl.filter goodWord := by
  intro w hw
  rcases List.mem_cons.mp hw with rfl | hw
  · exact tg_of h rfl
  · exact hw
theorem PC_blind {as : List Value} : FrameBlind (PC E as M) := fun _ U g mk h => ⟨h.1, h.2.1, h.2.2.1.same (V := U.calling g mk _) rfl h.2.2.2, h.2.2.2⟩
theorem PC_at {p : Program} {s : State} {m : MethodId} {args : Array Value} {meth : Method} {c : Code} {H : Heap} {locs : List Loc} {d0 : Drawn} {as : List Value} (C : Cx E mi p s m args meth c) (hP : PS E M H) (hS : va_S (AE E) s.heap H locs) (U : State) (hU : U.heap = H) (hW : (s.setDrawn d0).WarmedH U.vm) : PC E as M as.toArray U := by
  refine ⟨rfl, by rw [hU]; exact hP, ?_, by rw [hU]; exact Nat.le_trans C.2.2.2.2.2.2.2.2.2 hS.1⟩
  rw [hU]
  exact (C.2.2.2.2.2.2.2.2.1.same (V := s.setDrawn d0) rfl C.2.2.2.2.2.2.2.2.2).to hW (fun a h1 h2 => hS.2.1 a h1 h2) C.2.2.2.2.2.2.2.2.2
theorem v_run {q : MI} {Rq : Room} {rest st0 : List Value} {a9 : Array Value} {p : Program} {e : Env} {s : State} {m : MethodId} {args : Array Value} {below : List Frame} {meth : Method} {c : Code} {H : Heap} {locs : List Loc} {ls : Array Slot} {d0 : Drawn} (C : Cx E mi p s m args meth c) (hd : s.drawn.sameBut d0 lw_cs) (hS : va_S (AE E) s.heap H locs) (hl : lv_has ls mi.nL (asc 0 L))
    (hr : va_RunD lw_cs p E.l e R (s.setDrawn d0) m args below meth c H locs K N Rq.cells Rq.slots (F0 m pc ls st0) rest (QC E (fun r M2 => V E R mi fin (K + Rq.cells) (N + Rq.slots) M2 (pc + 3) L (r.toList ++ rest)) a9) (AE E)) : W p E.l e R (s.setDrawn d0) m args below meth c H locs K N (fin below args s) (F0 m pc ls st0) := by
  intro T hT X
  obtain ⟨v, st₀, t, T', Lc, d', hd', h0, X', hLl, e1, e2, ⟨⟨r, M', hv, hp, hP'⟩, hz, hk⟩, stp⟩ := hr T hT X
  cases hv
  have hS' : va_S (AE E) s.heap T'.heap (locs ++ Lc) := by
    rw [h0] at hz hk
    refine ⟨Nat.le_trans hS.1 (by rw [e1]; exact hz), fun q h1 h2 => ?_, fun q hq => ?_⟩
    · rw [e1, hk q (Nat.lt_of_lt_of_le h1 hS.1) h2]
      exact hS.2.1 q h1 h2
    · rcases List.mem_append.mp hq with h | h
      · exact hS.2.2 q h
      · exact hLl q h
  obtain ⟨t2, a1, b1⟩ := hp p e s m args below meth c T'.heap (locs ++ Lc) ls d' C (hd.trans hd') (by rw [e1]; exact hP') hS' hl T' rfl X'
  exact ⟨t2, stp t2 a1, b1⟩
theorem v_callV {q : MI} {Rq : Room} {b ci n idx nn : Nat} {fs As rest : List Value} {T : u_T} (d : decode mi.cc pc = .ok (.invokevirtual idx, 3)) (hM : M[b]? = some (ob ci fs)) (hc : vwCl[ci]? = some (q.y.cls, T, nn)) (hlk : Cond.methodLink mi.y.cls idx q.y ∈ lw_tbl) (hq : MfV q n) (hn : As.length = n) (hR : Rq.frames + 1 ≤ R.frames ∧ 8 + (q.nL + 11) + Rq.locals ≤ R.locals) (hw : (rest.map fun v => v.category).sum ≤ 8) (hf : K + Rq.cells ≤ R.cells ∧ N + Rq.slots ≤ R.slots)
    (k : Cn E Rq q (rr E b :: As) M (fun r M2 => V E R mi fin (K + Rq.cells) (N + Rq.slots) M2 (pc + 3) L (r.toList ++ rest))) : V E R mi fin K N M pc L (As.reverse ++ rr E b :: rest) := by
  intro p e s m args below meth c H locs ls d0 C hd hP hS hl
  refine v_run (q := q) (Rq := Rq) (rest := rest) (a9 := (rr E b :: As).toArray) C hd hS hl ?_
  refine va_runV_D (C := q.y.cls) (As := As) (rest := rest) ⟨C.1, C.2.1, C.2.2.2.2.1, C.own d0, C.tg d0⟩ k (cwV n (C.tg d0) (good_tg ?_) rfl rfl rfl ⟨rfl, hq.2.2.2.2⟩ hR) ⟨PC_blind, va_recv (C.K d0) hP.1 hc (wl_get hM), fun U hU hW => PC_at C hP hS U hU hW⟩ rfl hn hl.1 rfl (lv_room hw) d hf
  intro w hw
  rcases List.mem_append.mp hw with hw | hw
  · simp only [List.mem_cons, List.not_mem_nil, or_false] at hw
    rcases hw with rfl | rfl | rfl | rfl
    · exact tg_of hlk rfl
    · exact tg_of hq.1 rfl
    · exact tg_of hq.2.1 rfl
    · exact tg_of hq.2.2.1 rfl
  · exact wsA_in hq.2.2.2.1 w hw
theorem v_callS {q : MI} {Rq : Room} {n idx : Nat} {As rest : List Value} (d : decode mi.cc pc = .ok (.invokestatic idx, 3)) (hlk : Cond.methodLink mi.y.cls idx q.y ∈ lw_tbl) (hq : MfS q n) (hn : As.length = n) (hR : Rq.frames + 1 ≤ R.frames ∧ 8 + (q.nL + 11) + Rq.locals ≤ R.locals) (hw : (rest.map fun v => v.category).sum ≤ 8) (hf : K + Rq.cells ≤ R.cells ∧ N + Rq.slots ≤ R.slots)
    (k : Cn E Rq q As M (fun r M2 => V E R mi fin (K + Rq.cells) (N + Rq.slots) M2 (pc + 3) L (r.toList ++ rest))) : V E R mi fin K N M pc L (As.reverse ++ rest) := by
  intro p e s m args below meth c H locs ls d0 C hd hP hS hl
  refine v_run (q := q) (Rq := Rq) (rest := rest) (a9 := As.toArray) C hd hS hl ?_
  refine va_runS_D (As := As) (rest := rest) ⟨C.1, C.2.1, C.2.2.2.2.1, C.own d0, C.tg d0⟩ k ⟨callB_of n (C.tg d0) (good_tg (wsA_in hq.2.2.1)) rfl rfl rfl (C.word d0 hq.2.1 rfl) (C.word d0 hlk rfl) hq.2.2.2 hR, C.word d0 hq.1 rfl⟩ ⟨PC_blind, fun U hU hW => PC_at C hP hS U hU hW⟩ rfl hn hl.1 rfl (lv_room hw) d hf
theorem v_callI {q : MI} {Rq : Room} {b n idx : Nat} {As rest : List Value} (d : decode mi.cc pc = .ok (.invokespecial idx, 3)) (hlk : Cond.methodLink mi.y.cls idx q.y ∈ lw_tbl) (hq : MfI q n) (hn : As.length = n) (hR : Rq.frames + 1 ≤ R.frames ∧ 8 + (q.nL + 11) + Rq.locals ≤ R.locals) (hw : (rest.map fun v => v.category).sum ≤ 8) (hf : K + Rq.cells ≤ R.cells ∧ N + Rq.slots ≤ R.slots)
    (k : Cn E Rq q (rr E b :: As) M (fun r M2 => V E R mi fin (K + Rq.cells) (N + Rq.slots) M2 (pc + 3) L (r.toList ++ rest))) : V E R mi fin K N M pc L (As.reverse ++ rr E b :: rest) := by
  intro p e s m args below meth c H locs ls d0 C hd hP hS hl
  refine v_run (q := q) (Rq := Rq) (rest := rest) (a9 := (rr E b :: As).toArray) C hd hS hl ?_
  have hcb := callB_of n (C.tg d0) (good_tg (wsA_in hq.2.2.2.2.1)) (rm := Rq) rfl rfl rfl (C.word d0 hq.2.2.2.1 rfl) (C.word d0 hlk rfl) hq.2.2.2.2.2 hR
  rw [hq.2.1] at hcb
  exact va_runI_D (As := As) (rest := rest) ⟨C.1, C.2.1, C.2.2.2.2.1, C.own d0, C.tg d0⟩ k ⟨hcb, hq.1, C.word d0 hq.2.2.1 rfl⟩ ⟨PC_blind, fun U hU hW => PC_at C hP hS U hU hW⟩ rfl hn hl.1 rfl (lv_room hw) d hf
theorem v_callIN {q : MI} {Rq : Room} {b n idx : Nat} {host : String} {As rest : List Value} (d : decode mi.cc pc = .ok (.invokespecial idx, 3)) (hlk : Cond.methodLinkNest mi.y.cls idx q.y host ∈ lw_tbl) (hq : MfI q n) (hn : As.length = n) (hR : Rq.frames + 1 ≤ R.frames ∧ 8 + (q.nL + 11) + Rq.locals ≤ R.locals) (hw : (rest.map fun v => v.category).sum ≤ 8) (hf : K + Rq.cells ≤ R.cells ∧ N + Rq.slots ≤ R.slots)
    (k : Cn E Rq q (rr E b :: As) M (fun r M2 => V E R mi fin (K + Rq.cells) (N + Rq.slots) M2 (pc + 3) L (r.toList ++ rest))) : V E R mi fin K N M pc L (As.reverse ++ rr E b :: rest) := by
  intro p e s m args below meth c H locs ls d0 C hd hP hS hl
  refine v_run (q := q) (Rq := Rq) (rest := rest) (a9 := (rr E b :: As).toArray) C hd hS hl ?_
  have hcb := va_cnB (host := host) n (C.tg d0) (good_tg (wsA_in hq.2.2.2.2.1)) (rm := Rq) (R := R) (own := mi.y.cls) (index := idx) rfl rfl rfl (va_Nw.of (A := args) rfl (C.nest d0 hlk rfl)) (C.word d0 hq.2.2.2.1 rfl) hq.2.2.2.2.2 hR
  rw [hq.2.1] at hcb
  exact va_runIN_D (As := As) (rest := rest) ⟨C.1, C.2.1, C.2.2.2.2.1, C.own d0, C.tg d0⟩ k ⟨hcb, hq.1, C.word d0 hq.2.2.1 rfl⟩ ⟨PC_blind, fun U hU hW => PC_at C hP hS U hU hW⟩ rfl hn hl.1 rfl (lv_room hw) d hf
variable {Post : Option Value → Mem → Prop}
theorem v_iret {z : Int} (d : decode mi.cc pc = .ok (.ireturn, 1)) (hr : mi.rt = some .int) (hk : K ≤ R.cells) (hn : N ≤ R.slots) (hp : Post (some (iv z)) M) : V E R mi (finM E R Post) K N M pc L [iv z] := by
  intro p e s m args below meth c H locs ls d0 C hd hP hS hl
  refine W.widen hk hn ?_
  refine W.endD hd ?_
  exact W.iret C.1 C.2.1 (C.2.2.1.trans hr) (fun t ht hW => ⟨⟨_, M, rfl, hp, by rw [ht]; exact hP⟩, va_S.F (s := s.setDrawn d0) hS ht⟩) (fun q hq => hS.2.2 q hq) d C.2.2.2.1
theorem v_zret {z : Int} (d : decode mi.cc pc = .ok (.ireturn, 1)) (hr : mi.rt = some .boolean) (hk : K ≤ R.cells) (hn : N ≤ R.slots) (hz : z = 0 ∨ z = 1) (hp : Post (some (iv z)) M) : V E R mi (finM E R Post) K N M pc L [iv z] := by
  intro p e s m args below meth c H locs ls d0 C hd hP hS hl
  refine W.widen hk hn ?_
  refine W.endD hd ?_
  exact W.zret C.1 C.2.1 (C.2.2.1.trans hr) (by rcases hz with rfl | rfl <;> rfl) (fun t ht hW => ⟨⟨_, M, rfl, hp, by rw [ht]; exact hP⟩, va_S.F (s := s.setDrawn d0) hS ht⟩) (fun q hq => hS.2.2 q hq) d C.2.2.2.1
theorem v_cret {z : Int} (d : decode mi.cc pc = .ok (.ireturn, 1)) (hr : mi.rt = some .char) (hk : K ≤ R.cells) (hn : N ≤ R.slots) (hz : narrow .char (iv z) = iv z) (hp : Post (some (iv z)) M) : V E R mi (finM E R Post) K N M pc L [iv z] := by
  intro p e s m args below meth c H locs ls d0 C hd hP hS hl
  refine W.widen hk hn ?_
  refine W.endD hd ?_
  exact W.zret C.1 C.2.1 (C.2.2.1.trans hr) hz (fun t ht hW => ⟨⟨_, M, rfl, hp, by rw [ht]; exact hP⟩, va_S.F (s := s.setDrawn d0) hS ht⟩) (fun q hq => hS.2.2 q hq) d C.2.2.2.1
theorem v_bret {z : Int} (d : decode mi.cc pc = .ok (.ireturn, 1)) (hr : mi.rt = some .byte) (hk : K ≤ R.cells) (hn : N ≤ R.slots) (hz : narrow .byte (iv z) = iv z) (hp : Post (some (iv z)) M) : V E R mi (finM E R Post) K N M pc L [iv z] := by
  intro p e s m args below meth c H locs ls d0 C hd hP hS hl
  refine W.widen hk hn ?_
  refine W.endD hd ?_
  exact W.zret C.1 C.2.1 (C.2.2.1.trans hr) hz (fun t ht hW => ⟨⟨_, M, rfl, hp, by rw [ht]; exact hP⟩, va_S.F (s := s.setDrawn d0) hS ht⟩) (fun q hq => hS.2.2 q hq) d C.2.2.2.1
theorem v_lret {z : Int} (d : decode mi.cc pc = .ok (.lreturn, 1)) (hr : mi.rt = some .long) (hk : K ≤ R.cells) (hn : N ≤ R.slots) (hp : Post (some (jv z)) M) : V E R mi (finM E R Post) K N M pc L [jv z] := by
  intro p e s m args below meth c H locs ls d0 C hd hP hS hl
  refine W.widen hk hn ?_
  refine W.endD hd ?_
  exact W.lret C.1 C.2.1 (C.2.2.1.trans hr) (fun t ht hW => ⟨⟨_, M, rfl, hp, by rw [ht]; exact hP⟩, va_S.F (s := s.setDrawn d0) hS ht⟩) (fun q hq => hS.2.2 q hq) d C.2.2.2.1
theorem v_vret (d : decode mi.cc pc = .ok (.return_, 1)) (hr : mi.rt = none) (hk : K ≤ R.cells) (hn : N ≤ R.slots) (hp : Post none M) : V E R mi (finM E R Post) K N M pc L [] := by
  intro p e s m args below meth c H locs ls d0 C hd hP hS hl
  refine W.widen hk hn ?_
  refine W.endD hd ?_
  exact W.vret C.1 C.2.1 (C.2.2.1.trans hr) (fun t ht hW => ⟨⟨_, M, rfl, hp, by rw [ht]; exact hP⟩, va_S.F (s := s.setDrawn d0) hS ht⟩) (fun q hq => hS.2.2 q hq) d C.2.2.2.1
theorem v_aret {r : Option Nat} {nm : String} (d : decode mi.cc pc = .ok (.areturn, 1)) (hr : mi.rt = some (.object nm)) (hk : K ≤ R.cells) (hn : N ≤ R.slots) (hp : Post (some (ro E r)) M) : V E R mi (finM E R Post) K N M pc L [ro E r] := by
  intro p e s m args below meth c H locs ls d0 C hd hP hS hl
  refine W.widen hk hn ?_
  refine W.endD hd ?_
  exact W.aret C.1 C.2.1 (C.2.2.1.trans hr) (Or.inl ⟨_, rfl⟩) (by cases r with | none => exact Or.inl rfl | some a => exact Or.inr ⟨_, rfl⟩) (fun t ht hW => ⟨⟨_, M, rfl, hp, by rw [ht]; exact hP⟩, va_S.F (s := s.setDrawn d0) hS ht⟩) (fun q hq => hS.2.2 q hq) d C.2.2.2.1
theorem Cn.of {as : List Value} (hy : plainName mi.y.cls = true) (hl : (lg_sl as).length ≤ mi.nL) (hL : lv_args 0 as = asc 0 L) (k : V E R mi (finM E R Post) 0 0 M 0 L []) : Cn E R mi as M Post := by
  refine MetD.ofW (cc := mi.cc) (maxL := mi.nL) (ret := mi.rt) hy rfl ?_
  intro p e s m args below meth c s₁ B hml hv hd0
  obtain ⟨rfl, hP, hK, hb⟩ := hv
  rw [lg_entry_eq]
  have hlv := lv_entry as (n := mi.nL) hl
  have hts := atoms_spec (ws := wsA mi) B.pre
  exact k p e s m _ below meth c s.heap [] _ s.drawn ⟨B.exec, B.bytes, B.returns, B.notSynchronized, hml, findClass_of_methodNamed B.named, (name_of_methodNamed B.named B.method).1, fun w hw hg => hts w (List.mem_cons_of_mem _ (tg_of hw hg)), hK, hb⟩ hd0 hP va_S.rf (by rw [← hL]; exact hlv)
theorem v_max {x y : Int} {idx : Nat} (d : decode mi.cc pc = .ok (.invokestatic idx, 3)) (hlk : Cond.methodLink mi.y.cls idx Lib.Math.max.name ∈ lw_tbl) (h2 : Cond.static Lib.Math.max.name ∈ lw_tbl) (h3 : Cond.initialized "java/lang/Math" ∈ lw_tbl) (h4 : Cond.code Lib.Math.max.name Lib.Math.max.code 2 (some .int) ∈ lw_tbl) (hx : I32 x) (hy : I32 y) (hR : 1 ≤ R.frames) (hR2 : (st.map fun v => v.category).sum + 13 ≤ R.locals) (hk : K ≤ R.cells) (hn : N ≤ R.slots) (k : V E R mi fin K N M (pc + 3) L (iv (max x y) :: st)) : V E R mi fin K N M pc L (iv y :: iv x :: st) := by
  intro p e s m args below meth c H locs ls d0 C hd hP hS hl
  have k := k p e s m args below meth c H locs ls d0 C hd hP hS hl
  refine va_mmax C.1 C.2.1 (C.2.2.2.2.1.trans hl.1.symm) (C.own d0) (C.word d0 hlk rfl) (C.word d0 h2 rfl) (C.word d0 h3 rfl) (C.word d0 h4 rfl) hR hR2 hk hn d ?_
  have e1 : (if Int32.ofInt x < Int32.ofInt y then Int32.ofInt y else Int32.ofInt x) = Int32.ofInt (max x y) := by
    by_cases h : x < y
    · rw [if_pos ((i_lt hx hy).mpr h), Int.max_eq_right (Int.le_of_lt h)]
    · rw [if_neg (fun q => h ((i_lt hx hy).mp q)), Int.max_eq_left (by omega)]
  rw [e1]
  exact k
theorem v_min {x y : Int} {idx : Nat} (d : decode mi.cc pc = .ok (.invokestatic idx, 3)) (hlk : Cond.methodLink mi.y.cls idx Lib.Math.min.name ∈ lw_tbl) (h2 : Cond.static Lib.Math.min.name ∈ lw_tbl) (h3 : Cond.initialized "java/lang/Math" ∈ lw_tbl) (h4 : Cond.code Lib.Math.min.name Lib.Math.min.code 2 (some .int) ∈ lw_tbl) (hx : I32 x) (hy : I32 y) (hR : 1 ≤ R.frames) (hR2 : (st.map fun v => v.category).sum + 13 ≤ R.locals) (hk : K ≤ R.cells) (hn : N ≤ R.slots) (k : V E R mi fin K N M (pc + 3) L (iv (min x y) :: st)) : V E R mi fin K N M pc L (iv y :: iv x :: st) := by
  intro p e s m args below meth c H locs ls d0 C hd hP hS hl
  have k := k p e s m args below meth c H locs ls d0 C hd hP hS hl
  refine va_mmin C.1 C.2.1 (C.2.2.2.2.1.trans hl.1.symm) (C.own d0) (C.word d0 hlk rfl) (C.word d0 h2 rfl) (C.word d0 h3 rfl) (C.word d0 h4 rfl) hR hR2 hk hn d ?_
  first
  | (have e1 : (if Int32.ofInt x < Int32.ofInt y then Int32.ofInt x else Int32.ofInt y) = Int32.ofInt (min x y) := by
      by_cases h : x < y
      · rw [if_pos ((i_lt hx hy).mpr h), Int.min_eq_left (Int.le_of_lt h)]
      · rw [if_neg (fun q => h ((i_lt hx hy).mp q)), Int.min_eq_right (by omega)]
     rw [e1]
     exact k)
  | (have e1 : (if Int32.ofInt x ≤ Int32.ofInt y then Int32.ofInt x else Int32.ofInt y) = Int32.ofInt (min x y) := by
      by_cases h : x ≤ y
      · rw [if_pos ((i_le hx hy).mpr h), Int.min_eq_left h]
      · rw [if_neg (fun q => h ((i_le hx hy).mp q)), Int.min_eq_right (by omega)]
     rw [e1]
     exact k)
  | (have e1 : (if Int32.ofInt y < Int32.ofInt x then Int32.ofInt y else Int32.ofInt x) = Int32.ofInt (min x y) := by
      by_cases h : y < x
      · rw [if_pos ((i_lt hy hx).mpr h), Int.min_eq_right (Int.le_of_lt h)]
      · rw [if_neg (fun q => h ((i_lt hy hx).mp q)), Int.min_eq_left (by omega)]
     rw [e1]
     exact k)
end HEAP
