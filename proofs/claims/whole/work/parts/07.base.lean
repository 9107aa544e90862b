section BASE
variable {E : Ev} {R : Room} {mi : MI} {fin : Fin9} {K N : Nat} {M : Mem} {pc : Nat} {L : List (Option Value)} {st : List Value}
/-- less is known of the locals -/
def wk : List (Option Value) → List (Option Value) → Prop
  | [], _ => True
  | none :: r, _ :: t => wk r t
  | some v :: r, some u :: t => v = u ∧ wk r t
  | _ :: _, _ => False
theorem wk_at : ∀ {L2 L : List (Option Value)}, wk L2 L → ∀ {k : Nat} {v : Value}, L2[k]? = some (some v) → L[k]? = some (some v)
  | [], _, _, k, v, h => by simp at h
  | none :: r, [], h, k, v, hk => by simp [wk] at h
  | none :: r, a :: t, h, k, v, hk => by
    cases k with
    | zero => simp at hk
    | succ k => simpa using wk_at (L2 := r) (L := t) h (by simpa using hk)
  | some u :: r, [], h, k, v, hk => by simp [wk] at h
  | some u :: r, none :: t, h, k, v, hk => by simp [wk] at h
  | some u :: r, some u2 :: t, h, k, v, hk => by
    cases k with
    | zero => simp at hk ⊢; exact h.1 ▸ hk
    | succ k => simpa using wk_at (L2 := r) (L := t) h.2 (by simpa using hk)
theorem v_weak (L2 : List (Option Value)) (h : wk L2 L) (k : V E R mi fin K N M pc L2 st) : V E R mi fin K N M pc L st := by
  intro p e s m args below meth c H locs ls d0 C hd hP hS hl
  refine k p e s m args below meth c H locs ls d0 C hd hP hS ⟨hl.1, hl.2.1, fun q hq => ?_⟩
  obtain ⟨j, h1, h2⟩ := asc_mem.mp hq
  exact hl.2.2 q (asc_mem.mpr ⟨j, wk_at h h1, h2⟩)
theorem gs_ne {M : Mem} {a b : Nat} {c : va_E} {x : Option va_E} (h : a ≠ b) (hx : M[b]? = x) : (M.set a c)[b]? = x := by rw [List.getElem?_set_ne h]; exact hx
theorem gs_eq {M : Mem} {a : Nat} {c d : va_E} (h : M[a]? = some d) : (M.set a c)[a]? = some c := List.getElem?_set_self (List.getElem?_eq_some_iff.mp h).1
theorem gs_len {M : Mem} {a : Nat} {c : va_E} : (M.set a c).length = M.length := List.length_set
theorem gs_id {M : Mem} {a : Nat} {c : va_E} (h : M[a]? = some c) : M.set a c = M := by
  apply List.ext_getElem?
  intro i
  by_cases e : a = i
  · subst e; rw [gs_eq h, h]
  · rw [List.getElem?_set_ne e]
theorem gs_gs {M : Mem} {a : Nat} {c d : va_E} : (M.set a c).set a d = M.set a d := List.set_set ..
theorem v_set_id {a : Nat} {c : va_E} (h : M[a]? = some c) (k : V E R mi fin K N M pc L st) : V E R mi fin K N (M.set a c) pc L st := by rw [gs_id h]; exact k
end BASE
/-! sums over a stretch of hours -/
def sm (f : Int → Int) (a : Int) : Nat → Int
  | 0 => 0
  | n + 1 => sm f a n + f (a + n)
def mx (f : Int → Int) (a : Int) : Nat → Int
  | 0 => 0
  | n + 1 => max (mx f a n) (f (a + n))
theorem sm_pre (f : Int → Int) (a : Int) : ∀ n : Nat, sm f (a - 1) (n + 1) = f (a - 1) + sm f a n
  | 0 => by simp [sm]
  | n + 1 => by
    have h := sm_pre f a n
    rw [sm, h, sm]
    have e : a - 1 + ((n + 1 : Nat) : Int) = a + n := by omega
    rw [e]
    omega
theorem mx_pre (f : Int → Int) (a : Int) : ∀ n : Nat, mx f (a - 1) (n + 1) = max (f (a - 1)) (mx f a n)
  | 0 => by simp [mx]; omega
  | n + 1 => by
    have h := mx_pre f a n
    rw [mx, h, mx]
    have e : a - 1 + ((n + 1 : Nat) : Int) = a + n := by omega
    rw [e]
    omega
theorem sm_cong {f g : Int → Int} {a : Int} : ∀ n : Nat, (∀ i : Nat, i < n → f (a + i) = g (a + i)) → sm f a n = sm g a n
  | 0, _ => rfl
  | n + 1, h => by rw [sm, sm, sm_cong n (fun i hi => h i (by omega)), h n (by omega)]
theorem mx_cong {f g : Int → Int} {a : Int} : ∀ n : Nat, (∀ i : Nat, i < n → f (a + i) = g (a + i)) → mx f a n = mx g a n
  | 0, _ => rfl
  | n + 1, h => by rw [mx, mx, mx_cong n (fun i hi => h i (by omega)), h n (by omega)]
theorem sm_bd {f : Int → Int} {a lo hi : Int} : ∀ n : Nat, (∀ i : Nat, i < n → lo ≤ f (a + i) ∧ f (a + i) ≤ hi) → (n : Int) * lo ≤ sm f a n ∧ sm f a n ≤ n * hi
  | 0, _ => by simp [sm]
  | n + 1, h => by
    have h1 := sm_bd (lo := lo) (hi := hi) n (fun i hi => h i (by omega))
    have h2 := h n (by omega)
    have e1 : ((n + 1 : Nat) : Int) * lo = n * lo + lo := by rw [Int.natCast_succ, Int.add_mul, Int.one_mul]
    have e2 : ((n + 1 : Nat) : Int) * hi = n * hi + hi := by rw [Int.natCast_succ, Int.add_mul, Int.one_mul]
    rw [sm, e1, e2]
    omega
theorem mx_bd {f : Int → Int} {a hi : Int} (h0 : 0 ≤ hi) : ∀ n : Nat, (∀ i : Nat, i < n → f (a + i) ≤ hi) → 0 ≤ mx f a n ∧ mx f a n ≤ hi
  | 0, _ => by simp [mx]; exact h0
  | n + 1, h => by
    have h1 := mx_bd h0 n (fun i hi => h i (by omega))
    have h2 := h n (by omega)
    rw [mx]
    omega
