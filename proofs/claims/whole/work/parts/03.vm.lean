/-! ===== the logical machine: ints are integers, cells are numbered from the law's own heap size on ===== -/
def iv (z : Int) : Value := .int (Int32.ofInt z)
def jv (z : Int) : Value := .long (Int64.ofInt z)
def fv (u : UInt32) : Value := .float u
def xr (a : Nat) : Value := .ref a
/-- launch, first cell, class numbers and slots, array classes, the texts' cells and their bytes', the script (cell, length, ints) -/
abbrev Ev : Type := Launch × Nat × va_G × (Nat → ClassId) × (Nat → Nat) × (Nat → Nat) × Nat × Nat × (Nat → Int32)
abbrev Ev.l (E : Ev) : Launch := E.1
abbrev Ev.b (E : Ev) : Nat := E.2.1
abbrev Ev.D (E : Ev) : va_G := E.2.2.1
abbrev Ev.c (E : Ev) : Nat → ClassId := E.2.2.2.1
abbrev Ev.aK (E : Ev) : Nat → Nat := E.2.2.2.2.1
abbrev Ev.aV (E : Ev) : Nat → Nat := E.2.2.2.2.2.1
abbrev Ev.sb (E : Ev) : Nat := E.2.2.2.2.2.2.1
abbrev Ev.sL (E : Ev) : Nat := E.2.2.2.2.2.2.2.1
abbrev Ev.sx (E : Ev) : Nat → Int32 := E.2.2.2.2.2.2.2.2
/-- a logical reference, or null -/
def ro (E : Ev) (r : Option Nat) : Value := va_rf (r.map (fun a => E.b + a))
abbrev rr (E : Ev) (a : Nat) : Value := ro E (some a)
theorem rr_eq (E : Ev) (a : Nat) : rr E a = .ref (E.b + a) := rfl
def tysE (E : Ev) : List (ClassId × FieldType) := [(E.c 0, .int), (E.c 1, .byte), (E.c 2, .object RX0), (E.c 3, .object RX3), (E.c 4, .array .int)]
abbrev AE (E : Ev) : Nat → Prop := fun q => E.b ≤ q
abbrev Mem : Type := List va_E
def ob (k : Nat) (fs : List Value) : va_E := .inr (k, fs)
/-- an array of ints (t = 0) or bytes (t = 1) -/
def ia (E : Ev) (t n : Nat) (f : Int → Int) : va_E := .inl (E.c t, n, .inl (fun j => Int32.ofInt (f j)))
/-- an array of references: t = 2, 3, 4 -/
def ra (E : Ev) (t n : Nat) (g : Int → Option Nat) : va_E := .inl (E.c t, n, .inr (.inr (.inr (.inr (fun j => (g j).map (fun a => E.b + a))))))
def wl (β : Nat) (M : Mem) : va_W := M.mapIdx (fun i e => (β + i, e))
theorem wl_get {β : Nat} {M : Mem} {i : Nat} {e : va_E} (h : M[i]? = some e) : (wl β M)[i]? = some (β + i, e) := by
  unfold wl
  rw [List.getElem?_mapIdx, h]
  rfl
theorem wl_of {β : Nat} {M : Mem} {i : Nat} {q : Nat × va_E} (h : (wl β M)[i]? = some q) : q.1 = β + i ∧ M[i]? = some q.2 := by
  unfold wl at h
  rw [List.getElem?_mapIdx] at h
  cases hm : M[i]? with
  | none => rw [hm] at h; cases h
  | some e => rw [hm] at h; cases h; exact ⟨rfl, rfl⟩
theorem wl_set {β : Nat} {M : Mem} {i : Nat} {e : va_E} : (wl β M).set i (β + i, e) = wl β (M.set i e) := by
  unfold wl
  rw [List.mapIdx_set]
theorem wl_push {β : Nat} {M : Mem} {e : va_E} : wl β M ++ [(β + M.length, e)] = wl β (M ++ [e]) := by
  unfold wl
  rw [List.mapIdx_concat]
theorem wl_D {β : Nat} {M : Mem} : va_D (fun q => β ≤ q) (wl β M) := by
  refine ⟨fun i j p q hi hj h => ?_, fun k q hk => ?_⟩
  · have h1 := (wl_of hi).1
    have h2 := (wl_of hj).1
    omega
  · have h1 := (wl_of hk).1
    show β ≤ q.1
    omega
/-- the heap from the first cell on is the memory -/
def PS (E : Ev) (M : Mem) (H : Heap) : Prop := va_P E.D vwCl (wl E.b M) H ∧ H.size = E.b + M.length
def isNest : Cond → Bool
  | .fieldLinkNest .. => true
  | .methodLinkNest .. => true
  | _ => false
theorem nest_warm {w : Cond} (h : isNest w = true) {s U : State} (hW : s.WarmedH U.vm) (hZ : va_Nw w s) : va_Nw w U := by
  cases w <;> first | exact va_Nw.warmF hW hZ | exact va_Nw.warmM hW hZ | cases h
theorem nest_tab {w : Cond} (h : isNest w = true) : w.onTables = true := by
  cases w <;> first | rfl | cases h
def va_AOA (ty : FieldType) (U : State) : Prop := (Cond.arrayOver (.array ty)).before #[] U = true
theorem va_AOA.use {ty : FieldType} {A : Array Value} {U : State} (h : va_AOA ty U) : (Cond.arrayOver (.array ty)).before A U = true := h
theorem ao_spec {args : Array Value} {first s : State} {o : Option Outcome} {idx : List Nat} {t : FieldType} (h : (Cond.arrayOver (.array t)).holds args first o s idx = true) : ∃ comp c k, s.vm.findClass (FieldType.array t).toString = some comp ∧ (s.vm.classes.findIdx? fun (x : Class) => match x.kind with | .array component _ => component == comp | _ => false) = some c ∧ s.vm.classes[c]? = some k ∧ k.kind = .array comp (.array t) ∧ s.vm.findClass ("[" ++ (FieldType.array t).toString) = some c := by
  simp only [Cond.holds, Cond.value, beq_iff_eq] at h
  cases hc : s.vm.findClass (FieldType.array t).toString with
  | none => simp [hc] at h
  | some comp =>
    simp only [hc, Option.bind_some, Option.bind_eq_some_iff, Option.map_eq_some_iff] at h
    obtain ⟨c, hi, k, hk, hb⟩ := h
    obtain ⟨hlt, hp, -⟩ := Array.findIdx?_eq_some_iff_getElem.mp hi
    have hkk : s.vm.classes[c] = k := (Array.getElem?_eq_some_iff.mp hk).2
    rw [hkk] at hp
    cases hkind : k.kind with
    | array component ty =>
      rw [hkind] at hb hp
      simp at hb hp
      exact ⟨comp, c, k, rfl, hi, hk, by rw [hkind, hp, hb.1], hb.2⟩
    | _ => rw [hkind] at hb; simp at hb
theorem va_AOA.moved {ty : FieldType} {u U : State} (hvm : u.vm.Alike U.vm) (h : va_AOA ty u) : va_AOA ty U := by
  obtain ⟨comp, c, k, h1, h2, h3, h4, h5⟩ := ao_spec h
  obtain ⟨k', hk', he⟩ := hvm.2.2 _ _ h3
  have q1 := va_idx_bare U.vm comp
  have q2 := va_idx_bare u.vm comp
  first | rw [hvm.bare_eq] at q2 | rw [← hvm.bare_eq] at q2
  have hi : (U.vm.classes.findIdx? fun (x : Class) => match x.kind with | .array component _ => component == comp | _ => false) = some c := by
    refine Eq.trans q1.symm (Eq.trans q2 ?_)
    exact h2
  have hkind : k'.kind = .array comp (.array ty) := by rw [he]; exact h4
  have f1 : U.vm.findClass (FieldType.array ty).toString = some comp := by rw [hvm.findClass]; exact h1
  have f2 : U.vm.findClass ("[" ++ (FieldType.array ty).toString) = some c := by rw [hvm.findClass]; exact h5
  unfold va_AOA Cond.before Cond.holds
  simp only [Cond.value]
  rw [f1, Option.bind_some]
  refine (congrArg (fun o : Option Nat => (o.bind (fun c => (U.vm.classes[c]?).map fun (k : Class) => match k.kind with | .array _ t2 => decide (t2 = FieldType.array ty) && decide (U.vm.findClass ("[" ++ (FieldType.array ty).toString) = some c) | _ => false) == some true)) hi).trans ?_
  simp [hk', hkind, f2]
/-- the array classes that the constructors use -/
def Ov (U : State) : Prop := va_AO RX0 U ∧ va_AO RX3 U ∧ va_AOA .int U
theorem Ov.moved {u U : State} (hvm : u.vm.Alike U.vm) (h : Ov u) : Ov U := ⟨h.1.moved hvm, h.2.1.moved hvm, h.2.2.moved hvm⟩
def lenS : List Nat := [5, 6, 9, 7, 6, 1]
def bytS : List (List Int32) := [[98, 97, 110, 100, 115], [115, 109, 111, 111, 116, 104], [115, 117, 98, 115, 116, 97, 110, 99, 101], [115, 116, 97, 116, 105, 111, 110], [115, 101, 114, 105, 101, 115], [120]]
def ixS : List Nat := [36, 59, 64, 96, 105, 139]
def txS : List String := ["bands", "smooth", "substance", "station", "series", "x"]
/-- what lies outside the memory and never changes -/
def Xt (E : Ev) (U : State) (H : Heap) : Prop :=
  vk_S 6 lenS bytS E.aK E.aV (AE E) U H ∧ (∀ i, i < 6 → vk_R RX5 (ixS.getD i 0) (txS.getD i "") (E.aK i) U) ∧ va_X E.sb E.sL E.sx U H ∧ E.sb < E.b ∧ E.sL ≤ 3072 ∧
  va_Z "java/lang/String" "COMPACT_STRINGS" "Z" (.int 1) (AE E) U H ∧ va_Zq "jdk/internal/util/Preconditions" "SIOOBE_FORMATTER" "Ljava/util/function/BiFunction;" (AE E) U H
/-- what the tables say, and what lies outside -/
def KS (E : Ev) (U : State) (H : Heap) : Prop := va_K E.D vwCl (tysE E) U ∧ ((∀ w ∈ lw_tbl, isNest w = true → va_Nw w U) ∧ Ov U) ∧ Xt E U H
theorem KS.to {E : Ev} {s U : State} {H H1 : Heap} (h : KS E s H) (hW : s.WarmedH U.vm) (hk : ∀ a : Nat, a < H.size → ¬ AE E a → H1[a]? = H[a]?) (hsz : E.b ≤ H.size) : KS E U H1 := by
  obtain ⟨h1, ⟨h2, h2b⟩, h3, h4, h5, h6, h6b, h7, h8⟩ := h
  refine ⟨h1.moved hW.alike, ⟨fun w hw hn => nest_warm hn hW (h2 w hw hn), h2b.moved hW.alike⟩, (h3.moved hW.alike).kept hk, fun i hi => (h4 i hi).warm hW, (h5.moved hW.alike).kept (hk _ (Nat.lt_of_lt_of_le h6 hsz) (fun q => by have q' : E.b ≤ E.sb := q; omega)), h6, h6b, (h7.moved hW.alike).kept hk, (h8.moved hW.alike).kept hk⟩
theorem KS.same {E : Ev} {U V : State} {H : Heap} (h : KS E U H) (hv : V.vm = U.vm) (hsz : E.b ≤ H.size) : KS E V H := h.to (by rw [hv]; exact State.WarmedH.refl U) (fun _ _ _ => rfl) hsz
abbrev MI : Type := MethodName × ByteArray × Nat × Option FieldType
abbrev MI.y (q : MI) : MethodName := q.1
abbrev MI.cc (q : MI) : ByteArray := q.2.1
abbrev MI.nL (q : MI) : Nat := q.2.2.1
abbrev MI.rt (q : MI) : Option FieldType := q.2.2.2
/-- a method's standing: the machine, its code, the tables' words -/
def Cx (E : Ev) (mi : MI) (p : Program) (s : State) (m : MethodId) (args : Array Value) (meth : Method) (c : Code) : Prop :=
  p.tables.exec = Jvm.exec ∧ c.code = mi.cc ∧ meth.sig.returnType = mi.rt ∧ meth.locks = false ∧ c.maxLocals = mi.nL ∧ s.vm.findClass mi.y.cls = some m.cls ∧ meth.name = mi.y.name ∧ (∀ w ∈ lw_tbl, goodWord w = true → w.before args s = true) ∧ KS E s s.heap ∧ E.b ≤ s.heap.size
/-- locals: what is known of each -/
def asc : Nat → List (Option Value) → List (Nat × Value)
  | _, [] => []
  | i, none :: r => asc (i + 1) r
  | i, some v :: r => (i, v) :: asc (i + 1) r
theorem asc_mem {q : Nat × Value} : ∀ {L : List (Option Value)} {i : Nat}, q ∈ asc i L ↔ ∃ k, L[k]? = some (some q.2) ∧ q.1 = i + k
  | [], i => by simp [asc]
  | none :: r, i => by
    rw [asc, asc_mem (L := r)]
    constructor
    · rintro ⟨k, h1, h2⟩
      exact ⟨k + 1, by simpa using h1, by omega⟩
    · rintro ⟨k, h1, h2⟩
      cases k with
      | zero => simp at h1
      | succ k => exact ⟨k, by simpa using h1, by omega⟩
  | some v :: r, i => by
    rw [asc, List.mem_cons, asc_mem (L := r)]
    constructor
    · rintro (h | ⟨k, h1, h2⟩)
      · exact ⟨0, by simp [h], by simp [h]⟩
      · exact ⟨k + 1, by simpa using h1, by omega⟩
    · rintro ⟨k, h1, h2⟩
      cases k with
      | zero =>
        left
        simp at h1
        exact Prod.ext (by simpa using h2) h1.symm
      | succ k => exact Or.inr ⟨k, by simpa using h1, by omega⟩
theorem asc_at {ls : Array Slot} {nL i : Nat} {L : List (Option Value)} {v : Value} (h : lv_has ls nL (asc 0 L)) (hl : L[i]? = some (some v)) : ls[i]? = some (.val v) := by
  have := h.2.2 (i, v) (asc_mem.mpr ⟨i, hl, by simp⟩)
  exact this
/-- no double-word local -/
def c1 (L : List (Option Value)) : Bool := L.all (fun o => match o with | some v => v.category == 1 | none => true)
theorem c1_at {L : List (Option Value)} (h : c1 L = true) {k : Nat} {v : Value} (hk : L[k]? = some (some v)) : v.category = 1 := by
  have := List.all_eq_true.mp h (some v) (List.mem_of_getElem? hk)
  simpa using this
theorem asc_store {ls : Array Slot} {nL i : Nat} {L : List (Option Value)} {v : Value} (hc : c1 L = true) (h : lv_has ls nL ((i, v) :: (asc 0 L).filter (fun q => !(q.1 == i) && !(q.1 + 1 == i && q.2.category == 2)))) : lv_has ls nL (asc 0 (L.set i (some v))) := by
  refine ⟨h.1, h.2.1, fun q hq => ?_⟩
  obtain ⟨k, h1, h2⟩ := asc_mem.mp hq
  apply h.2.2
  by_cases e : k = i
  · subst e
    have hlt : k < L.length := by
      have := (List.getElem?_eq_some_iff.mp h1).1
      simpa using this
    rw [List.getElem?_set_self hlt] at h1
    have e2 : q = (k, v) := Prod.ext (by simpa using h2) (by simpa using h1.symm)
    rw [e2]
    exact List.mem_cons_self
  · rw [List.getElem?_set_ne (Ne.symm e)] at h1
    refine List.mem_cons_of_mem _ (List.mem_filter.mpr ⟨asc_mem.mpr ⟨k, h1, h2⟩, ?_⟩)
    have h3 : q.1 ≠ i := by omega
    have h4 := c1_at hc h1
    simp [h3, h4]
/-- what the end must say: of the frames below, the arguments, the start and the end -/
abbrev Fin9 : Type := List Frame → Array Value → State → State → Prop
/-- THE LOGICAL JUDGEMENT: from program counter pc, with locals L, stack st and memory M, the walk comes to its end -/
def V (E : Ev) (R : Room) (mi : MI) (fin : Fin9) (K N : Nat) (M : Mem) (pc : Nat) (L : List (Option Value)) (st : List Value) : Prop :=
  ∀ (p : Program) (e : Env) (s : State) (m : MethodId) (args : Array Value) (below : List Frame) (meth : Method) (c : Code) (H : Heap) (locs : List Loc) (ls : Array Slot) (d0 : Drawn),
    Cx E mi p s m args meth c → s.drawn.sameBut d0 lw_cs → PS E M H → va_S (AE E) s.heap H locs → lv_has ls mi.nL (asc 0 L) →
    W p E.l e R (s.setDrawn d0) m args below meth c H locs K N (fin below args s) (F0 m pc ls st)
def QC (E : Ev) (Post : Option Value → Mem → Prop) : Array Value → State → Outcome → State → Prop := fun _ st oc t => (∃ (r : Option Value) (M' : Mem), oc = .returned r ∧ Post r M' ∧ PS E M' t.heap) ∧ va_F (AE E) st t
def PC (E : Ev) (as : List Value) (M : Mem) : Array Value → State → Prop := fun v U => v = as.toArray ∧ PS E M U.heap ∧ KS E U U.heap ∧ E.b ≤ U.heap.size
def wsA (mi : MI) : List Cond := .code mi.y mi.cc mi.nL mi.rt :: lw_tbl.filter goodWord
/-- THE LOGICAL CONTRACT: a call of mi with these arguments in memory M returns r and leaves M' with Post r M' -/
def Cn (E : Ev) (R : Room) (mi : MI) (as : List Value) (M : Mem) (Post : Option Value → Mem → Prop) : Prop :=
  MetD lw_cs E.l mi.y (wsA mi) R (PC E as M) (QC E Post) R.cells R.slots (AE E)
def finM (E : Ev) (R : Room) (Post : Option Value → Mem → Prop) : Fin9 := fun below args s => MQD lw_cs below (QC E Post) args s R.cells R.slots (AE E)
theorem Cx.word {E : Ev} {mi : MI} {p : Program} {s : State} {m : MethodId} {args : Array Value} {meth : Method} {c : Code} (h : Cx E mi p s m args meth c) (d0 : Drawn) {w : Cond} (hw : w ∈ lw_tbl) (hg : goodWord w = true) : w.before args (s.setDrawn d0) = true :=
  (Cond.before_setDrawn args s d0 w).trans (h.2.2.2.2.2.2.2.1 w hw hg)
theorem Cx.nest {E : Ev} {mi : MI} {p : Program} {s : State} {m : MethodId} {args : Array Value} {meth : Method} {c : Code} (h : Cx E mi p s m args meth c) (d0 : Drawn) {w : Cond} (hw : w ∈ lw_tbl) (hg : isNest w = true) : w.before args (s.setDrawn d0) = true :=
  (Cond.before_setDrawn args s d0 w).trans (va_Nw.use (nest_tab hg) (h.2.2.2.2.2.2.2.2.1.2.1.1 w hw hg))
theorem Cx.O {E : Ev} {mi : MI} {p : Program} {s : State} {m : MethodId} {args : Array Value} {meth : Method} {c : Code} (h : Cx E mi p s m args meth c) (d0 : Drawn) : Ov (s.setDrawn d0) := h.2.2.2.2.2.2.2.2.1.2.1.2.moved (U := s.setDrawn d0) (Vm.Alike.refl s.vm)
theorem Cx.K {E : Ev} {mi : MI} {p : Program} {s : State} {m : MethodId} {args : Array Value} {meth : Method} {c : Code} (h : Cx E mi p s m args meth c) (d0 : Drawn) : va_K E.D vwCl (tysE E) (s.setDrawn d0) := h.2.2.2.2.2.2.2.2.1.1.moved (U := s.setDrawn d0) (Vm.Alike.refl s.vm)
theorem Cx.own {E : Ev} {mi : MI} {p : Program} {s : State} {m : MethodId} {args : Array Value} {meth : Method} {c : Code} (h : Cx E mi p s m args meth c) (d0 : Drawn) : (s.setDrawn d0).vm.findClass mi.y.cls = some m.cls := h.2.2.2.2.2.1
/-- an int of the machine -/
abbrev I32 (z : Int) : Prop := -2147483648 ≤ z ∧ z < 2147483648
theorem i_toInt {z : Int} (h : I32 z) : (Int32.ofInt z).toInt = z := Int32.toInt_ofInt_of_le (by have := h.1; omega) (by have := h.2; omega)
theorem i_lt {x y : Int} (hx : I32 x) (hy : I32 y) : Int32.ofInt x < Int32.ofInt y ↔ x < y := by rw [Int32.lt_iff_toInt_lt, i_toInt hx, i_toInt hy]
theorem i_le {x y : Int} (hx : I32 x) (hy : I32 y) : Int32.ofInt x ≤ Int32.ofInt y ↔ x ≤ y := by rw [Int32.le_iff_toInt_le, i_toInt hx, i_toInt hy]
theorem i_eq {x y : Int} (hx : I32 x) (hy : I32 y) : Int32.ofInt x = Int32.ofInt y ↔ x = y := by rw [← Int32.toInt_inj, i_toInt hx, i_toInt hy]
theorem i_zero : (0 : Int32) = Int32.ofInt 0 := rfl
theorem i_clamp {z : Int} (h0 : 0 ≤ z) (h : z < 2147483648) : (Int32.ofInt z).toNatClampNeg = z.toNat := by
  show (Int32.ofInt z).toInt.toNat = z.toNat
  rw [i_toInt ⟨by omega, h⟩]
theorem i_in {z : Int} {n : Nat} (h0 : 0 ≤ z) (h : z < n) (hn : n < 2147483648) : vp_in (Int32.ofInt z) n := by
  rw [vp_in_iff, i_toInt ⟨by omega, by omega⟩]
  exact ⟨h0, h⟩
theorem i_div {x y : Int} (hx : 0 ≤ x) (hx2 : x < 2147483648) (hy : 0 < y) (hy2 : y < 2147483648) : Int32.ofInt x / Int32.ofInt y = Int32.ofInt (x / y) := by
  have e : x.tdiv y = x / y := Int.tdiv_eq_ediv_of_nonneg hx
  have h1 : Int32.ofInt y ≠ -1 := by
    intro q
    have := congrArg Int32.toInt q
    rw [i_toInt ⟨by omega, hy2⟩] at this
    have h2 : (-1 : Int32).toInt = -1 := by decide
    omega
  have h3 : x / y ≤ x := Int.ediv_le_self y hx
  have h4 : 0 ≤ x / y := Int.ediv_nonneg hx (Int.le_of_lt hy)
  rw [← Int32.toInt_inj, Int32.toInt_div_of_ne_right _ _ h1, i_toInt ⟨by omega, hx2⟩, i_toInt ⟨by omega, hy2⟩, i_toInt ⟨by omega, by omega⟩, e]
theorem i_long {x : Int} (h : I32 x) : (Int32.ofInt x).toInt64 = Int64.ofInt x := by
  have e1 : Int32.minValue.toInt = -2147483648 := by decide
  have e2 : Int32.maxValue.toInt = 2147483647 := by decide
  exact Int32.toInt64_ofInt (by have := h.1; omega) (by have := h.2; omega)
