def RdS (E : Ev) (M : Mem) (r a : Nat) (fk : Int) : Prop := ∃ ln fp tk td k1 k2 k3 k4 : Int, M[r]? = some (ob 5 [rr E (r + 1), iv ln, iv fk, iv fp, iv tk, iv td]) ∧ M[r + 1]? = some (ob 6 [rr E a, iv k1, iv k2, iv k3, iv k4])
theorem CPn_mk {E : Ev} {r a b : Nat} {T : Int → Int} {L : Int} {o : Nat} {fk fp td : Int} {M : Mem} {Post : Option Value → Mem → Prop} {x : Rs (RW × Int)} (h : ∀ (z : Int) (M2 : Mem), FdR r o M M2 → ((z = 1 ∧ ∃ p w n tk, x = .inr ((p, w), n) ∧ CO E M2 r a b T L p n fk fp tk td ∧ OffAt E M2 o w) ∨ (z = 0 ∧ ∃ f pl, x = .inl (f, pl) ∧ CF E M2 r a b T L f pl ∧ ∃ w, OffAt E M2 o w)) → Post (some (iv z)) M2) : CPn E r a b T L o fk fp td M Post x := by
  rcases x with ⟨f, pl⟩ | ⟨⟨p, w⟩, n⟩
  · exact fun M2 h1 h2 h3 => h 0 M2 h3 (Or.inr ⟨rfl, f, pl, rfl, h1, h2⟩)
  · exact fun M2 tk h1 h2 h3 => h 1 M2 h3 (Or.inl ⟨rfl, p, w, n, tk, rfl, h1, h2⟩)
theorem CPw_mk {E : Ev} {r a b : Nat} {T : Int → Int} {L : Int} {o : Nat} {fk fp : Int} {M : Mem} {Post : Option Value → Mem → Prop} {x : Rs ((Int → Int) × Int)} (h : ∀ (z : Int) (M2 : Mem), FdR r o M M2 → ((z = 1 ∧ ∃ w n p tk td, x = .inr (w, n) ∧ CO E M2 r a b T L p n fk fp tk td ∧ OffAt E M2 o w) ∨ (z = 0 ∧ ∃ f pl, x = .inl (f, pl) ∧ CF E M2 r a b T L f pl ∧ ∃ w, OffAt E M2 o w)) → Post (some (iv z)) M2) : CPw E r a b T L o fk fp M Post x := by
  rcases x with ⟨f, pl⟩ | ⟨w, n⟩
  · exact fun M2 h1 h2 h3 => h 0 M2 h3 (Or.inr ⟨rfl, f, pl, rfl, h1, h2⟩)
  · exact fun M2 p tk td h1 h2 h3 => h 1 M2 h3 (Or.inl ⟨rfl, w, n, p, tk, td, rfl, h1, h2⟩)

set_option maxRecDepth 100000 in
theorem tf_text {E : Ev} {M : Mem} {Post : Option Value → Mem → Prop} {x r a b hs o d : Nat} {T : Int → Int} {L f pl : Int} (hX : M[x]? = some (ob 7 [rr E a, rr E r, rr E hs, rr E o, rr E d])) (hF : CF E M r a b T L f pl) (har : a < r ∨ r + 2 ≤ a) (hxa : x ≠ a) (hp : Post (some (iv (-1 - pl))) (M.set a (ob 4 [rr E b, iv 0]))) : V E rX7_text mX7_text (finM E rX7_text Post) 0 0  M 88 [some (rr E x), none, none] [] := by
  obtain ⟨ln, tk, td, p, hm, hk, hA⟩ := hF
  refine v_iconst dX7_text_88 ?_
  refine v_istore_1 dX7_text_89 (Nat.le_of_ble_eq_true rfl) rfl ?_
  refine v_aload_0 dX7_text_90 ?_
  refine g_X7_10 rfl dX7_text_91 hX ?_
  refine v_iconst dX7_text_94 ?_
  refine l_X7_57 rfl dX7_text_95 hA.1 ⟨Nat.le_of_ble_eq_true rfl, Nat.le_of_ble_eq_true rfl⟩ (Nat.le_of_ble_eq_true rfl) ⟨Nat.le_refl _, Nat.le_refl _⟩ (c_X4_cutTo hA.1 hA.2.2.2.1 hA.2.2.2.2 ⟨by decide, by decide⟩ (fun _ _ => ?_) (fun q => absurd ⟨Int.le_refl 0, hA.2.2.2.1⟩ q))
  refine v_popi dX7_text_98 ?_
  refine v_iload_1 dX7_text_99 ?_
  refine v_if_ne (tgt := 113) dX7_text_100 rfl ⟨by decide, by decide⟩ (fun c100 => absurd c100 (by decide)) (fun c100 => ?_)
  refine v_iconst dX7_text_103 ?_
  refine v_aload_0 dX7_text_104 ?_
  refine g_X7_21 rfl dX7_text_105 (gs_ne hxa.symm hX) ?_
  refine g_X7_82 rfl dX7_text_108 (gs_ne (by omega) hm) ?_
  refine v_isub dX7_text_111 ?_
  exact v_iret dX7_text_112 rfl (Nat.le_refl _) (Nat.le_refl _) hp

theorem tq_text {E : Ev} {M M1 : Mem} {Q : Mem → Prop} {x r a b d : Nat} {T : Int → Int} {L f pl : Int} {X : va_E} {w9 : Int → Int} (hF : CF E M1 r a b T L f pl) (hW : OffAt E M1 d w9) (hX : M1[x]? = some X) (hx : FdR r d M M1) (har : a < r ∨ r + 2 ≤ a) (had : a < d ∨ d + 26 ≤ a) (hxa : x ≠ a) (hq : ∀ M2, M2[x]? = some X → RdS E M2 r a f → M2[a]? = some (ob 4 [rr E b, iv 0]) → (∃ w, OffAt E M2 d w) → (∀ c : Nat, (c < r ∨ r + 2 ≤ c) → (c < d ∨ d + 26 ≤ c) → c ≠ a → M2[c]? = M[c]?) → M2.length = M.length → Q M2) : Q (M1.set a (ob 4 [rr E b, iv 0])) := by
  obtain ⟨ln, tk, td, p, hm, ⟨z, hk, -⟩, hA⟩ := hF
  exact hq _ (gs_ne hxa.symm hX) ⟨ln, pl, tk, td, _, _, _, _, gs_ne (by omega) hm, gs_ne (by omega) hk⟩ (gs_eq hA.1) ⟨w9, hW.fr (fun c c1 c2 => List.getElem?_set_ne (by omega))⟩ (fun c c1 c2 c3 => (List.getElem?_set_ne (fun q => c3 q.symm)).trans (hx.2 c c1 c2)) (gs_len.trans hx.1)

theorem rs_text {E : Ev} {M : Mem} {r a b x hs : Nat} {T : Int → Int} {L p ln fk fp tk td : Int} {X Y Z : va_E} (hC : CO E M r a b T L p ln fk fp tk td) (hxr : x < r ∨ r + 2 ≤ x) (har : a < r ∨ r + 2 ≤ a) (hhr : hs < r ∨ r + 2 ≤ hs) : RdS E (((M.set a X).set x Y).set hs Z) r a fk := by
  obtain ⟨hm, ⟨z, hk, -⟩, -⟩ := hC
  exact ⟨ln, fp, tk, td, _, _, _, _, gs_ne (by omega) (gs_ne (by omega) (gs_ne (by omega) hm)), gs_ne (by omega) (gs_ne (by omega) (gs_ne (by omega) hk))⟩

set_option maxRecDepth 100000 in
theorem c_X7_text {E : Ev} {M : Mem} {Post : Option Value → Mem → Prop} {x r a b hs o d : Nat} {T wd : Int → Int} {L ln fk fp tk td k1 k2 k3 k4 hn : Int} {h0 : Value} (hX : M[x]? = some (ob 7 [rr E a, rr E r, rr E hs, rr E o, rr E d])) (hm : M[r]? = some (ob 5 [rr E (r + 1), iv ln, iv fk, iv fp, iv tk, iv td])) (hK : M[r + 1]? = some (ob 6 [rr E a, iv k1, iv k2, iv k3, iv k4])) (hA : TA E M a b T L) (hD : OffAt E M d wd) (hH : M[hs]? = some (ob 1 [h0, iv hn])) (har : a < r ∨ r + 2 ≤ a) (hbr : b < r ∨ r + 2 ≤ b) (hxr : x < r ∨ r + 2 ≤ x) (hxd : x < d ∨ d + 26 ≤ x) (hrd : r + 2 ≤ d ∨ d + 26 ≤ r) (had : a < d ∨ d + 26 ≤ a) (hbd : b < d ∨ d + 26 ≤ b) (hxa : x ≠ a) (hhr : hs < r ∨ r + 2 ≤ hs) (hhd : hs < d ∨ d + 26 ≤ hs) (hha : hs ≠ a) (hhx : hs ≠ x) (hq : ∀ f pl, sText T L = .inl (f, pl) → ∀ M2, M2[x]? = some (ob 7 [rr E a, rr E r, rr E hs, rr E o, rr E d]) → RdS E M2 r a f → M2[a]? = some (ob 4 [rr E b, iv 0]) → (∃ w, OffAt E M2 d w) → (∀ c : Nat, (c < r ∨ r + 2 ≤ c) → (c < d ∨ d + 26 ≤ c) → c ≠ a → M2[c]? = M[c]?) → M2.length = M.length → Post (some (iv (-1 - pl))) M2) (hp : ∀ w2 n, sText T L = .inr (w2, n) → ∀ M2, M2[x]? = some (ob 7 [rr E a, rr E r, rr E hs, rr E d, rr E o]) → RdS E M2 r a 0 → M2[a]? = some (ob 4 [rr E b, iv 0]) → OffAt E M2 d w2 → M2[hs]? = some (ob 1 [h0, iv 0]) → (∀ c : Nat, (c < r ∨ r + 2 ≤ c) → (c < d ∨ d + 26 ≤ c) → c ≠ a → c ≠ x → c ≠ hs → M2[c]? = M[c]?) → M2.length = M.length → Post (some (iv n)) M2) : Cn E rX7_text mX7_text [rr E x] M Post := by
  refine Cn.of (L := [some (rr E x), none, none]) (by decide) (Nat.le_of_ble_eq_true rfl) rfl ?_
  refine v_aload_0 dX7_text_0 ?_
  refine g_X7_39 rfl dX7_text_1 hX ?_
  refine l_X7_60 rfl dX7_text_4 hD.1 ⟨Nat.le_of_ble_eq_true rfl, Nat.le_of_ble_eq_true rfl⟩ (Nat.le_of_ble_eq_true rfl) ⟨Nat.le_refl _, Nat.le_refl _⟩ (c_clear hD (fun M1 hO1 hf1 => ?_))
  have hx1 : FdR r d M M1 := hf1.dof
  have hX1 := (hx1.2 x hxr hxd).trans hX
  refine v_aload_0 dX7_text_7 ?_
  refine g_X7_21 rfl dX7_text_8 hX1 ?_
  refine l_X7_63 rfl dX7_text_11 (hf1.at hm (by omega)) ⟨Nat.le_of_ble_eq_true rfl, Nat.le_of_ble_eq_true rfl⟩ (Nat.le_of_ble_eq_true rfl) ⟨Nat.le_refl _, Nat.le_refl _⟩ (c_begin (hf1.at hm (by omega)) (hf1.at hK (by omega)) (hA.fr (hf1.2 _ (by omega)) (hf1.2 _ (by omega))) har hbr (fun M2 hC2 hf2 => ?_))
  have hx2 : FdR r d M M2 := hx1.tr hf2.dr
  have hO2 := hO1.fr (fun c c1 c2 => hf2.2 c (by omega))
  have hX2 := (hx2.2 x hxr hxd).trans hX
  refine v_aload_0 dX7_text_14 ?_
  refine g_X7_21 rfl dX7_text_15 hX2 ?_
  refine v_aload_0 dX7_text_18 ?_
  refine g_X7_39 rfl dX7_text_19 hX2 ?_
  refine l_X7_66 rfl dX7_text_22 hC2.1 ⟨Nat.le_of_ble_eq_true rfl, Nat.le_of_ble_eq_true rfl⟩ (Nat.le_of_ble_eq_true rfl) ⟨Nat.le_refl _, Nat.le_refl _⟩ (c_readsBands hC2 hO2 har hbr hrd had hbd (CP_mk (fun z3 M3 hf3 hz3 => ?_)))
  have hb3 : z3 = 0 ∨ z3 = 1 := by rcases hz3 with ⟨e, _⟩ | ⟨e, _⟩ <;> omega
  have hx3 : FdR r d M M3 := hx2.tr hf3
  have hX3 := (hx3.2 x hxr hxd).trans hX
  refine v_if_eq (tgt := 88) dX7_text_25 rfl ⟨by omega, by omega⟩ (fun c25 => ?_) (fun c25 => ?_)
  · obtain ⟨-, f9, pl9, e9, hF, w9, hW9⟩ := hz3.resolve_left (fun q => absurd q.1 (by omega))
    clear hz3
    exact v_weak [some (rr E x), none, none] ⟨rfl, trivial⟩ (tf_text hX3 hF har hxa (tq_text hF hW9 hX3 hx3 har had hxa (fun M2 q1 q2 q3 q4 q5 q6 => hq f9 pl9 (by unfold sText; rw [bands_cl] at e9; rw [e9]; rfl) M2 q1 q2 q3 q4 q5 q6)))
  · obtain ⟨-, p3, w3, tk3, e3, hC3, hO3⟩ := hz3.resolve_right (fun q => absurd q.1 (by omega))
    clear hz3
    rw [bands_cl] at e3
    obtain ⟨-, b3⟩ := bands_inv e3
    refine v_aload_0 dX7_text_28 ?_
    refine g_X7_21 rfl dX7_text_29 hX3 ?_
    refine v_aload_0 dX7_text_32 ?_
    refine g_X7_39 rfl dX7_text_33 hX3 ?_
    refine l_X7_70 rfl dX7_text_36 hC3.1 ⟨Nat.le_of_ble_eq_true rfl, Nat.le_of_ble_eq_true rfl⟩ (Nat.le_of_ble_eq_true rfl) ⟨Nat.le_refl _, Nat.le_refl _⟩ (c_readsShare hC3 hO3 har hbr hrd had hbd (fun k q0 q1 => by rw [b3 1 (by omega)] at q1; exact absurd q0 (by omega)) (CP_mk (fun z4 M4 hf4 hz4 => ?_)))
    have hb4 : z4 = 0 ∨ z4 = 1 := by rcases hz4 with ⟨e, _⟩ | ⟨e, _⟩ <;> omega
    have hx4 : FdR r d M M4 := hx3.tr hf4
    have hX4 := (hx4.2 x hxr hxd).trans hX
    refine v_if_eq (tgt := 88) dX7_text_39 rfl ⟨by omega, by omega⟩ (fun c39 => ?_) (fun c39 => ?_)
    · obtain ⟨-, f9, pl9, e9, hF, w9, hW9⟩ := hz4.resolve_left (fun q => absurd q.1 (by omega))
      clear hz4
      exact v_weak [some (rr E x), none, none] ⟨rfl, trivial⟩ (tf_text hX4 hF har hxa (tq_text hF hW9 hX4 hx4 har had hxa (fun M2 q1 q2 q3 q4 q5 q6 => hq f9 pl9 (by unfold sText; rw [e3]; show bnS (sShare T L p3 w3) _ = _; rw [e9]; rfl) M2 q1 q2 q3 q4 q5 q6)))
    · obtain ⟨-, p4, w4, tk4, e4, hC4, hO4⟩ := hz4.resolve_right (fun q => absurd q.1 (by omega))
      clear hz4
      obtain ⟨g1, g2, g3, g4⟩ := head_inv PW_0 (show bnS (sBands T L 0 (fun _ => 0)) (fun r => sShare T L r.1 r.2) = .inr (p4, w4) by rw [e3]; exact e4)
      refine v_aload_0 dX7_text_42 ?_
      refine g_X7_21 rfl dX7_text_43 hX4 ?_
      refine v_aload_0 dX7_text_46 ?_
      refine g_X7_39 rfl dX7_text_47 hX4 ?_
      refine l_X7_73 rfl dX7_text_50 hC4.1 ⟨Nat.le_of_ble_eq_true rfl, Nat.le_of_ble_eq_true rfl⟩ (Nat.le_of_ble_eq_true rfl) ⟨Nat.le_refl _, Nat.le_refl _⟩ (c_readsSubsts hC4 hO4 har hbr hrd had hbd g1 g3 (CPn_mk (fun z5 M5 hf5 hz5 => ?_)))
      have hb5 : z5 = 0 ∨ z5 = 1 := by rcases hz5 with ⟨e, _⟩ | ⟨e, _⟩ <;> omega
      have hx5 : FdR r d M M5 := hx4.tr hf5
      have hX5 := (hx5.2 x hxr hxd).trans hX
      refine v_if_eq (tgt := 88) dX7_text_53 rfl ⟨by omega, by omega⟩ (fun c53 => ?_) (fun c53 => ?_)
      · obtain ⟨-, f9, pl9, e9, hF, w9, hW9⟩ := hz5.resolve_left (fun q => absurd q.1 (by omega))
        clear hz5
        exact v_weak [some (rr E x), none, none] ⟨rfl, trivial⟩ (tf_text hX5 hF har hxa (tq_text hF hW9 hX5 hx5 har had hxa (fun M2 q1 q2 q3 q4 q5 q6 => hq f9 pl9 (by unfold sText; rw [e3]; show bnS (sShare T L p3 w3) _ = _; rw [e4]; show bnS (sSubs T L 3 p4 w4 (0 + 1 + 1)) _ = _; rw [e9]; rfl) M2 q1 q2 q3 q4 q5 q6)))
      · obtain ⟨-, p5, w5, n5, tk5, e5, hC5, hO5⟩ := hz5.resolve_right (fun q => absurd q.1 (by omega))
        clear hz5
        obtain ⟨j1, j2, j3, j4⟩ := subs_inv 3 p4 w4 (0 + 1 + 1) _ (by omega) (fun q => by omega) g1 g2 e5
        have j4 : w5 2 = w4 2 := j4
        refine v_aload_0 dX7_text_56 ?_
        refine g_X7_21 rfl dX7_text_57 hX5 ?_
        refine v_aload_0 dX7_text_60 ?_
        refine g_X7_39 rfl dX7_text_61 hX5 ?_
        refine l_X7_76 rfl dX7_text_64 hC5.1 ⟨Nat.le_of_ble_eq_true rfl, Nat.le_of_ble_eq_true rfl⟩ (Nat.le_of_ble_eq_true rfl) ⟨Nat.le_refl _, Nat.le_refl _⟩ (c_readsStats hC5 hO5 har hbr hrd had hbd j1 (j4.trans g4) (CPn_mk (fun z6 M6 hf6 hz6 => ?_)))
        have hb6 : z6 = 0 ∨ z6 = 1 := by rcases hz6 with ⟨e, _⟩ | ⟨e, _⟩ <;> omega
        have hx6 : FdR r d M M6 := hx5.tr hf6
        have hX6 := (hx6.2 x hxr hxd).trans hX
        refine v_if_eq (tgt := 88) dX7_text_67 rfl ⟨by omega, by omega⟩ (fun c67 => ?_) (fun c67 => ?_)
        · obtain ⟨-, f9, pl9, e9, hF, w9, hW9⟩ := hz6.resolve_left (fun q => absurd q.1 (by omega))
          clear hz6
          exact v_weak [some (rr E x), none, none] ⟨rfl, trivial⟩ (tf_text hX6 hF har hxa (tq_text hF hW9 hX6 hx6 har had hxa (fun M2 q1 q2 q3 q4 q5 q6 => hq f9 pl9 (by unfold sText; rw [e3]; show bnS (sShare T L p3 w3) _ = _; rw [e4]; show bnS (sSubs T L 3 p4 w4 (0 + 1 + 1)) _ = _; rw [e5]; show bnS (sStas T L 4 p5 w5 n5) _ = _; rw [e9]; rfl) M2 q1 q2 q3 q4 q5 q6)))
        · obtain ⟨-, p6, w6, n6, tk6, e6, hC6, hO6⟩ := hz6.resolve_right (fun q => absurd q.1 (by omega))
          clear hz6
          obtain ⟨l1, l2, l3, l4⟩ := stas_inv 4 p5 w5 n5 _ (by have := j4.trans g4; omega) (fun q => by omega) j1 j2 e6
          refine v_aload_0 dX7_text_70 ?_
          refine g_X7_21 rfl dX7_text_71 hX6 ?_
          refine v_aload_0 dX7_text_74 ?_
          refine g_X7_39 rfl dX7_text_75 hX6 ?_
          refine l_X7_79 rfl dX7_text_78 hC6.1 ⟨Nat.le_of_ble_eq_true rfl, Nat.le_of_ble_eq_true rfl⟩ (Nat.le_of_ble_eq_true rfl) ⟨Nat.le_refl _, Nat.le_refl _⟩ (c_readsAll hC6 hO6 har hbr hrd had hbd l1 l2 (CPw_mk (fun z7 M7 hf7 hz7 => ?_)))
          have hb7 : z7 = 0 ∨ z7 = 1 := by rcases hz7 with ⟨e, _⟩ | ⟨e, _⟩ <;> omega
          have hx7 : FdR r d M M7 := hx6.tr hf7
          have hX7 := (hx7.2 x hxr hxd).trans hX
          refine v_if_eq (tgt := 88) dX7_text_81 rfl ⟨by omega, by omega⟩ (fun c81 => ?_) (fun c81 => ?_)
          · obtain ⟨-, f9, pl9, e9, hF, w9, hW9⟩ := hz7.resolve_left (fun q => absurd q.1 (by omega))
            clear hz7
            exact v_weak [some (rr E x), none, none] ⟨rfl, trivial⟩ (tf_text hX7 hF har hxa (tq_text hF hW9 hX7 hx7 har had hxa (fun M2 q1 q2 q3 q4 q5 q6 => hq f9 pl9 (by unfold sText; rw [e3]; show bnS (sShare T L p3 w3) _ = _; rw [e4]; show bnS (sSubs T L 3 p4 w4 (0 + 1 + 1)) _ = _; rw [e5]; show bnS (sStas T L 4 p5 w5 n5) _ = _; rw [e6]; exact e9) M2 q1 q2 q3 q4 q5 q6)))
          · obtain ⟨-, w7, n7, p7, tk7, td7, e7, hC7, hO7⟩ := hz7.resolve_right (fun q => absurd q.1 (by omega))
            clear hz7
            refine v_iconst dX7_text_84 ?_
            refine v_goto (tgt := 89) dX7_text_85 rfl ?_
            refine v_istore_1 dX7_text_89 (Nat.le_of_ble_eq_true rfl) rfl ?_
            refine v_aload_0 dX7_text_90 ?_
            refine g_X7_10 rfl dX7_text_91 hX7 ?_
            refine v_iconst dX7_text_94 ?_
            refine l_X7_57 rfl dX7_text_95 hC7.2.2.1.1 ⟨Nat.le_of_ble_eq_true rfl, Nat.le_of_ble_eq_true rfl⟩ (Nat.le_of_ble_eq_true rfl) ⟨Nat.le_refl _, Nat.le_refl _⟩ (c_X4_cutTo hC7.2.2.1.1 hA.2.2.2.1 hA.2.2.2.2 ⟨by decide, by decide⟩ (fun _ _ => ?_) (fun q => absurd ⟨Int.le_refl 0, hA.2.2.2.1⟩ q))
            have hX8 := gs_ne (c := ob 4 [rr E b, iv 0]) hxa.symm hX7
            refine v_popi dX7_text_98 ?_
            refine v_iload_1 dX7_text_99 ?_
            refine v_if_ne (tgt := 113) dX7_text_100 rfl ⟨by decide, by decide⟩ (fun c100 => ?_) (fun c100 => absurd c100 (by decide))
            refine v_aload_0 dX7_text_113 ?_
            refine g_X7_39 rfl dX7_text_114 hX8 ?_
            refine v_astore_2 dX7_text_117 (Nat.le_of_ble_eq_true rfl) rfl ?_
            refine v_aload_0 dX7_text_118 ?_
            refine v_aload_0 dX7_text_119 ?_
            refine g_X7_35 rfl dX7_text_120 hX8 ?_
            refine p_X7_39 rfl dX7_text_123 hX8 ?_
            refine v_aload_0 dX7_text_126 ?_
            refine v_aload_2 dX7_text_127 ?_
            refine p_X7_35 rfl dX7_text_128 (gs_eq hX8) ?_
            rw [gs_gs]
            refine v_aload_0 dX7_text_131 ?_
            refine g_X7_28 rfl dX7_text_132 (gs_eq hX8) ?_
            refine l_X7_85 rfl dX7_text_135 (gs_ne hhx.symm (gs_ne hha.symm ((hx7.2 hs hhr hhd).trans hH))) ⟨Nat.le_of_ble_eq_true rfl, Nat.le_of_ble_eq_true rfl⟩ (Nat.le_of_ble_eq_true rfl) ⟨Nat.le_refl _, Nat.le_refl _⟩ (c_X1_forgetAll (gs_ne hhx.symm (gs_ne hha.symm ((hx7.2 hs hhr hhd).trans hH))) ?_)
            refine v_aload_0 dX7_text_138 ?_
            refine g_X7_21 rfl dX7_text_139 (gs_ne hhx (gs_eq hX8)) ?_
            refine g_X7_88 rfl dX7_text_142 (gs_ne (by omega) (gs_ne (by omega) (gs_ne (by omega) hC7.1))) ?_
            exact v_iret dX7_text_145 rfl (Nat.le_refl _) (Nat.le_refl _) (hp w7 n7 (by unfold sText; rw [e3]; show bnS (sShare T L p3 w3) _ = _; rw [e4]; show bnS (sSubs T L 3 p4 w4 (0 + 1 + 1)) _ = _; rw [e5]; show bnS (sStas T L 4 p5 w5 n5) _ = _; rw [e6]; exact e7) _ (gs_ne hhx (gs_eq hX8)) (rs_text hC7 hxr har hhr) (gs_ne hha (gs_ne hxa (gs_eq hC7.2.2.1.1))) (hO7.fr (fun c c1 c2 => ((List.getElem?_set_ne (by omega)).trans (List.getElem?_set_ne (by omega))).trans (List.getElem?_set_ne (by omega)))) (gs_eq (gs_ne hhx.symm (gs_ne hha.symm ((hx7.2 hs hhr hhd).trans hH)))) (fun c c1 c2 c3 c4 c5 => (((List.getElem?_set_ne (fun q => c5 q.symm)).trans (List.getElem?_set_ne (fun q => c4 q.symm))).trans (List.getElem?_set_ne (fun q => c3 q.symm))).trans (hx7.2 c c1 c2)) (((gs_len.trans gs_len).trans gs_len).trans hx7.1))
