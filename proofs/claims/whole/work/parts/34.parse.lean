/-! ===== how a text is read ===== -/
abbrev isW (T : Int → Int) (L : Int) (cs : List Int) (p : Int) : Prop := tkK T L p = 1 ∧ tkB T L p - tkS T L p = (cs.length : Nat) ∧ ∀ i : Nat, i < cs.length → T (tkS T L p + i) = cs.getD i 0
def chF (cs : List Int) (i : Int) : Int := cs.getD i.toNat 0
def wdL (cs : List Int) : Int := wdF (chF cs) 0 cs.length
theorem wd_pos {T : Int → Int} {q : Int} : ∀ n : Nat, (∀ j, q ≤ j → j < q + n → Lt (T j)) → 0 ≤ wdF T q n ∧ wdF T q n < 27 ^ n
  | 0, _ => by simp [wdF]
  | n + 1, h => by
    have h1 := wd_pos n (fun j a b => h j a (by omega))
    have h2 := h (q + n) (by omega) (by omega)
    rw [wdF, Int.pow_succ]
    omega
theorem wd_inj {T S : Int → Int} {q r : Int} : ∀ n m : Nat, (∀ j, q ≤ j → j < q + n → Lt (T j)) → (∀ j, r ≤ j → j < r + m → Lt (S j)) → wdF T q n = wdF S r m → n = m ∧ ∀ i : Nat, i < n → T (q + i) = S (r + i)
  | 0, 0, _, _, _ => ⟨rfl, fun i hi => by omega⟩
  | 0, m + 1, _, hS, e => by
    have h1 := wd_pos m (fun j a b => hS j a (by omega))
    have h2 := hS (r + m) (by omega) (by omega)
    rw [wdF, wdF] at e
    omega
  | n + 1, 0, hT, _, e => by
    have h1 := wd_pos n (fun j a b => hT j a (by omega))
    have h2 := hT (q + n) (by omega) (by omega)
    rw [wdF, wdF] at e
    omega
  | n + 1, m + 1, hT, hS, e => by
    have h2 := hT (q + n) (by omega) (by omega)
    have h3 := hS (r + m) (by omega) (by omega)
    rw [wdF, wdF] at e
    obtain ⟨e1, e2⟩ := wd_inj n m (fun j a b => hT j a (by omega)) (fun j a b => hS j a (by omega)) (by omega)
    subst e1
    refine ⟨rfl, fun i hi => ?_⟩
    by_cases c : i = n
    · rw [c]; omega
    · exact e2 i (by omega)
theorem wd_cong {T S : Int → Int} {q r : Int} : ∀ n : Nat, (∀ i : Nat, i < n → T (q + i) = S (r + i)) → wdF T q n = wdF S r n
  | 0, _ => rfl
  | n + 1, h => by rw [wdF, wdF, wd_cong n (fun i hi => h i (by omega)), h n (by omega)]
/-- the reference knows a word by its number -/
theorem wd_isW {T : Int → Int} {L p : Int} (cs : List Int) (hcs : ∀ i : Nat, i < cs.length → Lt (cs.getD i 0)) (hl : cs.length ≤ 9) (k1 : tkK T L p = 1) : wdF T (tkS T L p) (min (tkB T L p - tkS T L p) 10).toNat = wdL cs ↔ isW T L cs p := by
  obtain ⟨w1, w2, w3, w4, w5⟩ := tk_word k1
  rw [← w5, ← w4] at w2 w3
  constructor
  · intro e
    obtain ⟨e1, e2⟩ := wd_inj _ _ (fun j a b => w2 j a (by omega)) (fun j a b => by unfold chF; exact hcs j.toNat (by omega)) e
    refine ⟨k1, by omega, fun i hi => ?_⟩
    have := e2 i (by omega)
    rw [this]
    unfold chF
    rw [show (0 + (i : Int)).toNat = i by omega]
  · rintro ⟨-, e1, e2⟩
    unfold wdL
    rw [show (min (tkB T L p - tkS T L p) 10).toNat = cs.length by omega]
    refine wd_cong _ (fun i hi => ?_)
    rw [e2 i hi]
    unfold chF
    rw [show (0 + (i : Int)).toNat = i by omega]
abbrev Rs (α : Type) : Type := (Int × Int) ⊕ α
def nmS {α : Type} (T : Int → Int) (L p lo hi : Int) (k : Int → Int → Rs α) : Rs α := if tkK T L p = 2 then (if lo ≤ tkN T L p ∧ tkN T L p ≤ hi then k (tkN T L p) (tkB T L p) else .inl (2, tkS T L p)) else .inl (1, tkS T L p)
def smS {α : Type} (T : Int → Int) (L p : Int) (k : Int → Rs α) : Rs α := if tkK T L p = 3 then k (tkB T L p) else .inl (1, tkS T L p)
def wdS {α : Type} (T : Int → Int) (L : Int) (cs : List Int) (p : Int) (k : Int → Rs α) : Rs α := if isW T L cs p then k (tkB T L p) else .inl (1, tkS T L p)
def bnS {α β : Type} (r : Rs α) (f : α → Rs β) : Rs β := match r with
  | .inl x => .inl x
  | .inr y => f y
abbrev nmOk (T : Int → Int) (L p lo hi : Int) : Prop := tkK T L p = 2 ∧ lo ≤ tkN T L p ∧ tkN T L p ≤ hi
abbrev nmNo (T : Int → Int) (L p lo hi f : Int) : Prop := (¬ tkK T L p = 2 ∧ f = 1) ∨ (tkK T L p = 2 ∧ ¬ (lo ≤ tkN T L p ∧ tkN T L p ≤ hi) ∧ f = 2)
theorem nm_ok {α : Type} {T : Int → Int} {L p lo hi : Int} (h : nmOk T L p lo hi) (k : Int → Int → Rs α) : nmS T L p lo hi k = k (tkN T L p) (tkB T L p) := by unfold nmS; rw [if_pos h.1, if_pos h.2]
theorem nm_no {α : Type} {T : Int → Int} {L p lo hi f : Int} (h : nmNo T L p lo hi f) (k : Int → Int → Rs α) : nmS T L p lo hi k = .inl (f, tkS T L p) := by
  unfold nmS
  rcases h with ⟨h, e⟩ | ⟨h, h2, e⟩
  · rw [if_neg h, e]
  · rw [if_pos h, if_neg h2, e]
theorem sm_ok {α : Type} {T : Int → Int} {L p : Int} (h : tkK T L p = 3) (k : Int → Rs α) : smS T L p k = k (tkB T L p) := if_pos h
theorem sm_no {α : Type} {T : Int → Int} {L p : Int} (h : ¬ tkK T L p = 3) (k : Int → Rs α) : smS T L p k = .inl (1, tkS T L p) := if_neg h
theorem wd_ok {α : Type} {T : Int → Int} {L p : Int} {cs : List Int} (h : isW T L cs p) (k : Int → Rs α) : wdS T L cs p k = k (tkB T L p) := if_pos h
theorem wd_no {α : Type} {T : Int → Int} {L p : Int} {cs : List Int} (h : ¬ isW T L cs p) (k : Int → Rs α) : wdS T L cs p k = .inl (1, tkS T L p) := if_neg h
def wBands : List Int := [98, 97, 110, 100, 115]
def wSmooth : List Int := [115, 109, 111, 111, 116, 104]
def wSubst : List Int := [115, 117, 98, 115, 116, 97, 110, 99, 101]
def wStat : List Int := [115, 116, 97, 116, 105, 111, 110]
def wSeries : List Int := [115, 101, 114, 105, 101, 115]
def wX : List Int := [120]
abbrev RW : Type := Int × (Int → Int)
def sBands (T : Int → Int) (L p : Int) (w : Int → Int) : Rs RW := wdS T L wBands p fun p => nmS T L p 1 500 fun a p => nmS T L p (a + 1) 500 fun b p => nmS T L p (b + 1) 500 fun c p => smS T L p fun p => .inr (p, upI (upI (upI w 4 a) 5 b) 6 c)
def sShare (T : Int → Int) (L p : Int) (w : Int → Int) : Rs RW := wdS T L wSmooth p fun p => nmS T L p 0 100 fun a p => smS T L p fun p => .inr (p, upI w 3 a)
def ptW (w : Int → Int) (k i a b : Int) : Int → Int := upI (upI (upI w (10 + 13 * k + 2 * i) a) (11 + 13 * k + 2 * i) b) (9 + 13 * k) (i + 1)
def sPts (T : Int → Int) (L k : Int) : Nat → Int → Int → Int → Int → (Int → Int) → Rs RW
  | 0, _, ll, _, p, w => if tkK T L p = 3 then .inr (p, w) else nmS T L p ll 999 fun _ _ => .inl (3, tkS T L p)
  | f + 1, i, ll, li, p, w => if 2 ≤ i ∧ tkK T L p = 3 then .inr (p, w) else nmS T L p ll 999 fun a p1 => nmS T L p1 li 500 fun b p2 => sPts T L k f (i + 1) (a + 1) b p2 (ptW w k i a b)
def sbR (w : Int → Int) (a b : Int) : Int → Int := upI (upI (upI (upI w 1 (w 1 + 1)) (7 + 13 * w 1) a) (8 + 13 * w 1) b) (9 + 13 * w 1) 0
def sSub (T : Int → Int) (L p : Int) (w : Int → Int) : Rs RW := wdS T L wSubst p fun p => nmS T L p 1 12 fun a p => nmS T L p 1 a fun b p => bnS (sPts T L (w 1) 5 0 0 0 p (sbR w a b)) fun r => smS T L r.1 fun p => .inr (p, r.2)
def sSubs (T : Int → Int) (L : Int) : Nat → Int → (Int → Int) → Int → Rs (RW × Int)
  | 0, p, w, n => if isW T L wSubst p then .inl (3, tkS T L p) else .inr ((p, w), n)
  | f + 1, p, w, n => bnS (sSub T L p w) fun r => if isW T L wSubst r.1 then sSubs T L f r.1 r.2 (n + 1) else .inr (r, n + 1)
def sSta (T : Int → Int) (L p : Int) (w : Int → Int) : Rs RW := wdS T L wStat p fun p => nmS T L p 0 2 fun d p => smS T L p fun p => .inr (p, upI (upI w (46 + w 2) d) 2 (w 2 + 1))
def sStas (T : Int → Int) (L : Int) : Nat → Int → (Int → Int) → Int → Rs (RW × Int)
  | 0, p, w, n => if isW T L wStat p then .inl (3, tkS T L p) else .inr ((p, w), n)
  | f + 1, p, w, n => bnS (sSta T L p w) fun r => if isW T L wStat r.1 then sStas T L f r.1 r.2 (n + 1) else .inr (r, n + 1)
def rdW (w : Int → Int) (s k h v : Int) : Int → Int := upI (upI w 0 (max (w 0) (h + 1))) (atW s k h) (v + 1)
def sRds (T : Int → Int) (L s k : Int) : Nat → Int → Int → (Int → Int) → Rs RW
  | 0, _, p, w => if tkK T L p = 3 then .inr (p, w) else if isW T L wX p then .inl (3, tkS T L p) else nmS T L p 0 999 fun _ _ => .inl (3, tkS T L p)
  | f + 1, h, p, w => if 0 < h ∧ tkK T L p = 3 then .inr (p, w) else if isW T L wX p then sRds T L s k f (h + 1) (tkB T L p) (rdW w s k h (-1)) else nmS T L p 0 999 fun v p => sRds T L s k f (h + 1) p (rdW w s k h v)
def upB (td : Int → Bool) (i : Int) : Int → Bool := fun j => if j = i then true else td j
def sSer (T : Int → Int) (L p : Int) (w : Int → Int) (td : Int → Bool) : Rs (RW × (Int → Bool)) := wdS T L wSeries p fun p => nmS T L p 0 (w 2 - 1) fun s p => nmS T L p 0 (w 1 - 1) fun k p1 => if td (3 * s + k) = true then .inl (2, tkS T L p) else bnS (sRds T L s k 24 0 p1 w) fun r => smS T L r.1 fun p => .inr ((p, r.2), upB td (3 * s + k))
def sAll (T : Int → Int) (L : Int) : Nat → Int → (Int → Int) → (Int → Bool) → Int → Rs ((Int → Int) × Int)
  | 0, p, w, td, n => if tkK T L p = 4 then .inr (w, n) else bnS (sSer T L p w td) fun _ => .inl (0, 0)
  | f + 1, p, w, td, n => if tkK T L p = 4 then .inr (w, n) else bnS (sSer T L p w td) fun r => sAll T L f r.1.1 r.1.2 r.2 (n + 1)
def sText (T : Int → Int) (L : Int) : Rs ((Int → Int) × Int) := bnS (sBands T L 0 (fun _ => 0)) fun r => bnS (sShare T L r.1 r.2) fun r => bnS (sSubs T L 3 r.1 r.2 2) fun r => bnS (sStas T L 4 r.1.1 r.1.2 r.2) fun r => sAll T L 12 r.1.1 r.1.2 (fun _ => false) r.2
