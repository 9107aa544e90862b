abbrev mL : MI := (yL_law, cL_law, 4, ret)
/-- the law's end: said of a start whose heap is what lies below the first cell -/
def finL (E : Ev) : Fin9 := fun below args s t => (s.heap.size = E.b ∧ args = #[Value.ref E.sb]) → lw_Z below args s t
section LAW
variable {E : Ev} {R : Room} {mi : MI} {fin : Fin9} {K N : Nat} {M : Mem} {pc : Nat} {L : List (Option Value)} {st : List Value}
theorem v_law_ret (d : decode code pc = .ok (.ireturn, 1)) (hK : K ≤ 600000) (hN : N ≤ 7302250) : V E room_1 mL (finL E) K N M pc L [iv 1] := by
  intro p e s m args below meth c H locs ls d0 C hd hP hS hl
  by_cases hc : s.heap.size = E.b ∧ args = #[Value.ref E.sb]
  · obtain ⟨h1, h2⟩ := hc
    subst h2
    have h := va_forget (g := F0 m pc ls [iv 1]) (locs := locs) (cells := K) (slots := N) (H := H) (fun q hq => by have q1 : E.b ≤ q.base := hS.2.2 q hq; show s.heap.size ≤ q.base; omega) (W.widen hK hN (lw_ret (p := p) (l := E.l) (e := e) (s := s) (m := m) (below := below) (meth := meth) (c := c) (b := E.sb) (d0 := d0) hd C.1 C.2.1 C.2.2.1 C.2.2.2.1 (H := H) (ls := ls) d))
    intro T hT X
    obtain ⟨t, a1, b1⟩ := h T hT X
    exact ⟨t, a1, fun _ => b1⟩
  · intro T hT X
    exact ⟨_, Steps.refl _, fun q => absurd q hc⟩
theorem v_slen (d : decode mi.cc pc = .ok (.arraylength, 1)) (k : V E R mi fin K N M (pc + 1) L (iv ((E.sL : Nat) : Int) :: st)) : V E R mi fin K N M pc L (xr E.sb :: st) := by
  intro p e s m args below meth c H locs ls d0 C hd hP hS hl
  have k := k p e s m args below meth c H locs ls d0 C hd hP hS hl
  have hX := C.X d0
  refine va_slen (A := AE E) C.1 C.2.1 hX.2.2.1 (Nat.lt_of_lt_of_le hX.2.2.2.1 C.2.2.2.2.2.2.2.2.2) (fun q => by have q1 : E.b ≤ E.sb := q; have := hX.2.2.2.1; omega) hS d ?_
  rw [← Int32.ofInt_eq_ofNat]
  exact k
theorem v_sld {z : Int} (d : decode mi.cc pc = .ok (.iaload, 1)) (h0 : 0 ≤ z) (h1 : z < (E.sL : Nat)) (h2 : E.sL ≤ 3072) (k : V E R mi fin K N M (pc + 1) L (iv (E.sx z.toNat).toInt :: st)) : V E R mi fin K N M pc L (iv z :: xr E.sb :: st) := by
  intro p e s m args below meth c H locs ls d0 C hd hP hS hl
  have k := k p e s m args below meth c H locs ls d0 C hd hP hS hl
  have hX := C.X d0
  refine va_sld (A := AE E) C.1 C.2.1 hX.2.2.1 (Nat.lt_of_lt_of_le hX.2.2.2.1 C.2.2.2.2.2.2.2.2.2) (fun q => by have q1 : E.b ≤ E.sb := q; have := hX.2.2.2.1; omega) hS (i := Int32.ofInt z) (i_in h0 h1 (by omega)) d ?_
  rw [i_clamp h0 (by omega)]
  have e : (Value.int (E.sx z.toNat)) = iv (E.sx z.toNat).toInt := by unfold iv; rw [Int32.ofInt_toInt]
  rw [e]
  exact k
theorem sx_bd (x : Int32) : I32 x.toInt := by
  have h1 := Int32.le_toInt x
  have h2 := Int32.toInt_lt x
  constructor <;> omega
theorem and31 (x : Int) : Int32.ofInt x &&& Int32.ofInt 31 = Int32.ofInt (x % 32) := by
  have h := pk_and (Int32.ofInt x) (m := Int32.ofInt 31) 5 (by decide)
  rw [h]
  have e1 : (Int32.ofInt x).toBitVec.toNat = (x % 4294967296).toNat := by
    rw [Int32.toBitVec_ofInt, BitVec.toNat_ofInt]
    rfl
  rw [e1]
  show Int32.ofNat ((x % 4294967296).toNat % 2 ^ 5) = Int32.ofInt (x % 32)
  rw [← Int32.ofInt_eq_ofNat]
  congr 1
  have : (2 : Nat) ^ 5 = 32 := rfl
  rw [this]
  omega
theorem v_tin {z dflt lo hi off : Int} {offs : Array Int} {len tgt : Nat} (d : decode mi.cc pc = .ok (.tableswitch dflt lo hi offs, len)) (hz : I32 z) (h1 : ¬ z < lo) (h2 : ¬ hi < z) (ho : offs[(z - lo).toNat]? = some off) (ht : (pc : Int) + off = (tgt : Int)) (k : V E R mi fin K N M tgt L st) : V E R mi fin K N M pc L (iv z :: st) := by
  intro p e s m args below meth c H locs ls d0 C hd hP hS hl
  exact lv_tableIn C.1 C.2.1 d (x := Int32.ofInt z) (by rw [i_toInt hz]; exact h1) (by rw [i_toInt hz]; exact h2) (by rw [i_toInt hz]; exact ho) ht (k p e s m args below meth c H locs ls d0 C hd hP hS hl)
theorem v_tout {z dflt lo hi : Int} {offs : Array Int} {len tgt : Nat} (d : decode mi.cc pc = .ok (.tableswitch dflt lo hi offs, len)) (hz : I32 z) (h1 : z < lo ∨ hi < z) (ht : (pc : Int) + dflt = (tgt : Int)) (k : V E R mi fin K N M tgt L st) : V E R mi fin K N M pc L (iv z :: st) := by
  intro p e s m args below meth c H locs ls d0 C hd hP hS hl
  exact lv_tableOut C.1 C.2.1 d (x := Int32.ofInt z) (by rw [i_toInt hz]; exact h1) ht (k p e s m args below meth c H locs ls d0 C hd hP hS hl)
theorem v_same {z off : Int} {tgt : Nat} (d : decode mi.cc pc = .ok (.if_icmp .eq off, 3)) (ht : (pc : Int) + off = (tgt : Int)) (kt : V E R mi fin K N M tgt L st) : V E R mi fin K N M pc L (iv z :: iv z :: st) := by
  intro p e s m args below meth c H locs ls d0 C hd hP hS hl
  exact lv_icmp_eq C.1 C.2.1 d ht (fun q => kt p e s m args below meth c H locs ls d0 C hd hP hS hl) (fun q => absurd rfl q)
end LAW
theorem LI.x {E : Ev} {M : Mem} (h : LI E M) : ∃ fs, M[0]? = some (ob 7 fs) := by
  obtain ⟨o, d, w, n, rows, T, L, fk, hod, hC, -⟩ := h
  exact ⟨_, hC.1⟩
theorem w0_hi {j : Int} (h : 13 < j) : w0F j = 0 := by
  unfold w0F upI
  repeat rw [if_neg (by omega)]
theorem w0_wf : WF w0F := by
  have e1 : w0F 1 = 1 := rfl
  have e2 : w0F 2 = 1 := rfl
  refine ⟨by decide, by decide, by decide, by decide, by decide, fun k k0 k1 => ?_, fun k i k0 k1 i0 i1 => ?_, fun k i k0 k1 i0 i1 => ?_, fun s s0 s1 => ?_, fun r h r0 r1 h0 h1 => ?_, fun r h r0 r1 h0 h1 => w0_hi (by have e : w0F 0 = 0 := rfl; omega)⟩
  · have e : k = 0 := by omega
    subst e
    decide
  · have e : k = 0 := by omega
    subst e
    have e9 : w0F (9 + 13 * 0) = 2 := rfl
    rcases (show i = 0 ∨ i = 1 by omega) with rfl | rfl <;> decide
  · have e : k = 0 := by omega
    subst e
    have e9 : w0F (9 + 13 * 0) = 2 := rfl
    have e : i = 0 := by omega
    subst e
    decide
  · have e : s = 0 := by omega
    subst e
    decide
  · rw [w0_hi (by omega)]
    decide
set_option maxRecDepth 100000 in
theorem lw_case_feed {E : Ev} {M : Mem} {i : Int} (hL : E.sL ≤ 3072) (hI : LI E M) (i0 : 0 ≤ i) (i1 : i + 6 ≤ (E.sL : Nat)) (kx : ∀ M2, LI E M2 → V E room_1 mL (finL E) 75 12278 M2 932 [some (xr E.sb), some (rr E 0), some (rr E 69), some (iv i)] []) : V E room_1 mL (finL E) 75 12278 M 136 [some (xr E.sb), some (rr E 0), some (rr E 69), some (iv i)] [] := by
  obtain ⟨fs0, hX⟩ := hI.x
  refine v_aload_1 dL_law_136 ?_
  refine v_axload_0 dL_law_137 ?_
  refine v_iload_3 dL_law_138 ?_
  refine v_iconst dL_law_139 ?_
  refine v_iadd dL_law_140 ?_
  refine v_sld dL_law_141 (by omega) (by omega) hL ?_
  refine v_axload_0 dL_law_142 ?_
  refine v_iload_3 dL_law_143 ?_
  refine v_iconst dL_law_144 ?_
  refine v_iadd dL_law_145 ?_
  refine v_sld dL_law_146 (by omega) (by omega) hL ?_
  refine v_axload_0 dL_law_147 ?_
  refine v_iload_3 dL_law_148 ?_
  refine v_iconst dL_law_149 ?_
  refine v_iadd dL_law_150 ?_
  refine v_sld dL_law_151 (by omega) (by omega) hL ?_
  refine v_axload_0 dL_law_152 ?_
  refine v_iload_3 dL_law_153 ?_
  refine v_iconst dL_law_154 ?_
  refine v_iadd dL_law_155 ?_
  refine v_sld dL_law_156 (by omega) (by omega) hL ?_
  refine v_axload_0 dL_law_157 ?_
  refine v_iload_3 dL_law_158 ?_
  refine v_iconst dL_law_159 ?_
  refine v_iadd dL_law_160 ?_
  refine v_sld dL_law_161 (by omega) (by omega) hL ?_
  refine l_L_13 rfl dL_law_162 hX ⟨(Nat.le_of_ble_eq_true rfl), (Nat.le_of_ble_eq_true rfl)⟩ (Nat.le_of_ble_eq_true rfl) ⟨(Nat.le_of_ble_eq_true rfl), (Nat.le_of_ble_eq_true rfl)⟩ (pr_feed hI (sx_bd _) (sx_bd _) (sx_bd _) (sx_bd _) (sx_bd _) (fun z M1 hm1 hc1 => ?_))
  obtain ⟨fs1, hm1⟩ := hm1
  refine v_aload_2 dL_law_165 ?_
  refine v_axload_0 dL_law_166 ?_
  refine v_iload_3 dL_law_167 ?_
  refine v_iconst dL_law_168 ?_
  refine v_iadd dL_law_169 ?_
  refine v_sld dL_law_170 (by omega) (by omega) hL ?_
  refine v_axload_0 dL_law_171 ?_
  refine v_iload_3 dL_law_172 ?_
  refine v_iconst dL_law_173 ?_
  refine v_iadd dL_law_174 ?_
  refine v_sld dL_law_175 (by omega) (by omega) hL ?_
  refine v_axload_0 dL_law_176 ?_
  refine v_iload_3 dL_law_177 ?_
  refine v_iconst dL_law_178 ?_
  refine v_iadd dL_law_179 ?_
  refine v_sld dL_law_180 (by omega) (by omega) hL ?_
  refine v_axload_0 dL_law_181 ?_
  refine v_iload_3 dL_law_182 ?_
  refine v_iconst dL_law_183 ?_
  refine v_iadd dL_law_184 ?_
  refine v_sld dL_law_185 (by omega) (by omega) hL ?_
  refine v_axload_0 dL_law_186 ?_
  refine v_iload_3 dL_law_187 ?_
  refine v_iconst dL_law_188 ?_
  refine v_iadd dL_law_189 ?_
  refine v_sld dL_law_190 (by omega) (by omega) hL ?_
  refine l_L_17 rfl dL_law_191 hm1 ⟨(Nat.le_of_ble_eq_true rfl), (Nat.le_of_ble_eq_true rfl)⟩ (Nat.le_of_ble_eq_true rfl) ⟨(Nat.le_of_ble_eq_true rfl), (Nat.le_of_ble_eq_true rfl)⟩ (hc1 _ (fun M2 hI2 => ?_))
  refine v_same (tgt := 932) dL_law_194 rfl ?_
  exact kx M2 hI2
set_option maxRecDepth 100000 in
theorem lw_case_end {E : Ev} {M : Mem} {i : Int} (hL : E.sL ≤ 3072) (hI : LI E M) (i0 : 0 ≤ i) (i1 : i + 6 ≤ (E.sL : Nat)) (kx : ∀ M2, LI E M2 → V E room_1 mL (finL E) 75 12278 M2 932 [some (xr E.sb), some (rr E 0), some (rr E 69), some (iv i)] []) : V E room_1 mL (finL E) 75 12278 M 199 [some (xr E.sb), some (rr E 0), some (rr E 69), some (iv i)] [] := by
  obtain ⟨fs0, hX⟩ := hI.x
  refine v_aload_1 dL_law_199 ?_
  refine v_axload_0 dL_law_200 ?_
  refine v_iload_3 dL_law_201 ?_
  refine v_iconst dL_law_202 ?_
  refine v_iadd dL_law_203 ?_
  refine v_sld dL_law_204 (by omega) (by omega) hL ?_
  refine l_L_18 rfl dL_law_205 hX ⟨(Nat.le_of_ble_eq_true rfl), (Nat.le_of_ble_eq_true rfl)⟩ (Nat.le_of_ble_eq_true rfl) ⟨(Nat.le_of_ble_eq_true rfl), (Nat.le_of_ble_eq_true rfl)⟩ (pr_end hI (sx_bd _) (fun z M1 hm1 hc1 => ?_))
  obtain ⟨fs1, hm1⟩ := hm1
  refine v_aload_2 dL_law_208 ?_
  refine v_axload_0 dL_law_209 ?_
  refine v_iload_3 dL_law_210 ?_
  refine v_iconst dL_law_211 ?_
  refine v_iadd dL_law_212 ?_
  refine v_sld dL_law_213 (by omega) (by omega) hL ?_
  refine l_L_22 rfl dL_law_214 hm1 ⟨(Nat.le_of_ble_eq_true rfl), (Nat.le_of_ble_eq_true rfl)⟩ (Nat.le_of_ble_eq_true rfl) ⟨(Nat.le_of_ble_eq_true rfl), (Nat.le_of_ble_eq_true rfl)⟩ (hc1 _ (fun M2 hI2 => ?_))
  refine v_same (tgt := 932) dL_law_217 rfl ?_
  exact kx M2 hI2
set_option maxRecDepth 100000 in
theorem lw_case_text {E : Ev} {M : Mem} {i : Int} (hL : E.sL ≤ 3072) (hI : LI E M) (i0 : 0 ≤ i) (i1 : i + 6 ≤ (E.sL : Nat)) (kx : ∀ M2, LI E M2 → V E room_1 mL (finL E) 75 12278 M2 932 [some (xr E.sb), some (rr E 0), some (rr E 69), some (iv i)] []) : V E room_1 mL (finL E) 75 12278 M 222 [some (xr E.sb), some (rr E 0), some (rr E 69), some (iv i)] [] := by
  obtain ⟨fs0, hX⟩ := hI.x
  refine v_aload_1 dL_law_222 ?_
  refine l_L_23 rfl dL_law_223 hX ⟨(Nat.le_of_ble_eq_true rfl), (Nat.le_of_ble_eq_true rfl)⟩ (Nat.le_of_ble_eq_true rfl) ⟨(Nat.le_of_ble_eq_true rfl), (Nat.le_of_ble_eq_true rfl)⟩ (pr_text hI  (fun z M1 hm1 hc1 => ?_))
  obtain ⟨fs1, hm1⟩ := hm1
  refine v_aload_2 dL_law_226 ?_
  refine l_L_27 rfl dL_law_227 hm1 ⟨(Nat.le_of_ble_eq_true rfl), (Nat.le_of_ble_eq_true rfl)⟩ (Nat.le_of_ble_eq_true rfl) ⟨(Nat.le_of_ble_eq_true rfl), (Nat.le_of_ble_eq_true rfl)⟩ (hc1 _ (fun M2 hI2 => ?_))
  refine v_same (tgt := 932) dL_law_230 rfl ?_
  exact kx M2 hI2
set_option maxRecDepth 100000 in
theorem lw_case_fault {E : Ev} {M : Mem} {i : Int} (hL : E.sL ≤ 3072) (hI : LI E M) (i0 : 0 ≤ i) (i1 : i + 6 ≤ (E.sL : Nat)) (kx : ∀ M2, LI E M2 → V E room_1 mL (finL E) 75 12278 M2 932 [some (xr E.sb), some (rr E 0), some (rr E 69), some (iv i)] []) : V E room_1 mL (finL E) 75 12278 M 235 [some (xr E.sb), some (rr E 0), some (rr E 69), some (iv i)] [] := by
  obtain ⟨fs0, hX⟩ := hI.x
  refine v_aload_1 dL_law_235 ?_
  refine l_L_28 rfl dL_law_236 hX ⟨(Nat.le_of_ble_eq_true rfl), (Nat.le_of_ble_eq_true rfl)⟩ (Nat.le_of_ble_eq_true rfl) ⟨(Nat.le_of_ble_eq_true rfl), (Nat.le_of_ble_eq_true rfl)⟩ (pr_fault hI  (fun z M1 hm1 hc1 => ?_))
  obtain ⟨fs1, hm1⟩ := hm1
  refine v_aload_2 dL_law_239 ?_
  refine l_L_31 rfl dL_law_240 hm1 ⟨(Nat.le_of_ble_eq_true rfl), (Nat.le_of_ble_eq_true rfl)⟩ (Nat.le_of_ble_eq_true rfl) ⟨(Nat.le_of_ble_eq_true rfl), (Nat.le_of_ble_eq_true rfl)⟩ (hc1 _ (fun M2 hI2 => ?_))
  refine v_same (tgt := 932) dL_law_243 rfl ?_
  exact kx M2 hI2
set_option maxRecDepth 100000 in
theorem lw_case_now {E : Ev} {M : Mem} {i : Int} (hL : E.sL ≤ 3072) (hI : LI E M) (i0 : 0 ≤ i) (i1 : i + 6 ≤ (E.sL : Nat)) (kx : ∀ M2, LI E M2 → V E room_1 mL (finL E) 75 12278 M2 932 [some (xr E.sb), some (rr E 0), some (rr E 69), some (iv i)] []) : V E room_1 mL (finL E) 75 12278 M 248 [some (xr E.sb), some (rr E 0), some (rr E 69), some (iv i)] [] := by
  obtain ⟨fs0, hX⟩ := hI.x
  refine v_aload_1 dL_law_248 ?_
  refine v_axload_0 dL_law_249 ?_
  refine v_iload_3 dL_law_250 ?_
  refine v_iconst dL_law_251 ?_
  refine v_iadd dL_law_252 ?_
  refine v_sld dL_law_253 (by omega) (by omega) hL ?_
  refine l_L_32 rfl dL_law_254 hX ⟨(Nat.le_of_ble_eq_true rfl), (Nat.le_of_ble_eq_true rfl)⟩ (Nat.le_of_ble_eq_true rfl) ⟨(Nat.le_of_ble_eq_true rfl), (Nat.le_of_ble_eq_true rfl)⟩ (pr_now hI (sx_bd _) (fun z M1 hm1 hc1 => ?_))
  obtain ⟨fs1, hm1⟩ := hm1
  refine v_aload_2 dL_law_257 ?_
  refine v_axload_0 dL_law_258 ?_
  refine v_iload_3 dL_law_259 ?_
  refine v_iconst dL_law_260 ?_
  refine v_iadd dL_law_261 ?_
  refine v_sld dL_law_262 (by omega) (by omega) hL ?_
  refine l_L_36 rfl dL_law_263 hm1 ⟨(Nat.le_of_ble_eq_true rfl), (Nat.le_of_ble_eq_true rfl)⟩ (Nat.le_of_ble_eq_true rfl) ⟨(Nat.le_of_ble_eq_true rfl), (Nat.le_of_ble_eq_true rfl)⟩ (hc1 _ (fun M2 hI2 => ?_))
  refine v_same (tgt := 932) dL_law_266 rfl ?_
  exact kx M2 hI2
set_option maxRecDepth 100000 in
theorem lw_case_read {E : Ev} {M : Mem} {i : Int} (hL : E.sL ≤ 3072) (hI : LI E M) (i0 : 0 ≤ i) (i1 : i + 6 ≤ (E.sL : Nat)) (kx : ∀ M2, LI E M2 → V E room_1 mL (finL E) 75 12278 M2 932 [some (xr E.sb), some (rr E 0), some (rr E 69), some (iv i)] []) : V E room_1 mL (finL E) 75 12278 M 271 [some (xr E.sb), some (rr E 0), some (rr E 69), some (iv i)] [] := by
  obtain ⟨fs0, hX⟩ := hI.x
  refine v_aload_1 dL_law_271 ?_
  refine v_axload_0 dL_law_272 ?_
  refine v_iload_3 dL_law_273 ?_
  refine v_iconst dL_law_274 ?_
  refine v_iadd dL_law_275 ?_
  refine v_sld dL_law_276 (by omega) (by omega) hL ?_
  refine v_axload_0 dL_law_277 ?_
  refine v_iload_3 dL_law_278 ?_
  refine v_iconst dL_law_279 ?_
  refine v_iadd dL_law_280 ?_
  refine v_sld dL_law_281 (by omega) (by omega) hL ?_
  refine v_axload_0 dL_law_282 ?_
  refine v_iload_3 dL_law_283 ?_
  refine v_iconst dL_law_284 ?_
  refine v_iadd dL_law_285 ?_
  refine v_sld dL_law_286 (by omega) (by omega) hL ?_
  refine l_L_37 rfl dL_law_287 hX ⟨(Nat.le_of_ble_eq_true rfl), (Nat.le_of_ble_eq_true rfl)⟩ (Nat.le_of_ble_eq_true rfl) ⟨(Nat.le_of_ble_eq_true rfl), (Nat.le_of_ble_eq_true rfl)⟩ (pr_read hI (sx_bd _) (sx_bd _) (sx_bd _) (fun z M1 hm1 hc1 => ?_))
  obtain ⟨fs1, hm1⟩ := hm1
  refine v_aload_2 dL_law_290 ?_
  refine v_axload_0 dL_law_291 ?_
  refine v_iload_3 dL_law_292 ?_
  refine v_iconst dL_law_293 ?_
  refine v_iadd dL_law_294 ?_
  refine v_sld dL_law_295 (by omega) (by omega) hL ?_
  refine v_axload_0 dL_law_296 ?_
  refine v_iload_3 dL_law_297 ?_
  refine v_iconst dL_law_298 ?_
  refine v_iadd dL_law_299 ?_
  refine v_sld dL_law_300 (by omega) (by omega) hL ?_
  refine v_axload_0 dL_law_301 ?_
  refine v_iload_3 dL_law_302 ?_
  refine v_iconst dL_law_303 ?_
  refine v_iadd dL_law_304 ?_
  refine v_sld dL_law_305 (by omega) (by omega) hL ?_
  refine l_L_41 rfl dL_law_306 hm1 ⟨(Nat.le_of_ble_eq_true rfl), (Nat.le_of_ble_eq_true rfl)⟩ (Nat.le_of_ble_eq_true rfl) ⟨(Nat.le_of_ble_eq_true rfl), (Nat.le_of_ble_eq_true rfl)⟩ (hc1 _ (fun M2 hI2 => ?_))
  refine v_same (tgt := 932) dL_law_309 rfl ?_
  exact kx M2 hI2
set_option maxRecDepth 100000 in
theorem lw_case_mean {E : Ev} {M : Mem} {i : Int} (hL : E.sL ≤ 3072) (hI : LI E M) (i0 : 0 ≤ i) (i1 : i + 6 ≤ (E.sL : Nat)) (kx : ∀ M2, LI E M2 → V E room_1 mL (finL E) 75 12278 M2 932 [some (xr E.sb), some (rr E 0), some (rr E 69), some (iv i)] []) : V E room_1 mL (finL E) 75 12278 M 314 [some (xr E.sb), some (rr E 0), some (rr E 69), some (iv i)] [] := by
  obtain ⟨fs0, hX⟩ := hI.x
  refine v_aload_1 dL_law_314 ?_
  refine v_axload_0 dL_law_315 ?_
  refine v_iload_3 dL_law_316 ?_
  refine v_iconst dL_law_317 ?_
  refine v_iadd dL_law_318 ?_
  refine v_sld dL_law_319 (by omega) (by omega) hL ?_
  refine v_axload_0 dL_law_320 ?_
  refine v_iload_3 dL_law_321 ?_
  refine v_iconst dL_law_322 ?_
  refine v_iadd dL_law_323 ?_
  refine v_sld dL_law_324 (by omega) (by omega) hL ?_
  refine v_axload_0 dL_law_325 ?_
  refine v_iload_3 dL_law_326 ?_
  refine v_iconst dL_law_327 ?_
  refine v_iadd dL_law_328 ?_
  refine v_sld dL_law_329 (by omega) (by omega) hL ?_
  refine l_L_42 rfl dL_law_330 hX ⟨(Nat.le_of_ble_eq_true rfl), (Nat.le_of_ble_eq_true rfl)⟩ (Nat.le_of_ble_eq_true rfl) ⟨(Nat.le_of_ble_eq_true rfl), (Nat.le_of_ble_eq_true rfl)⟩ (pr_mean hI (sx_bd _) (sx_bd _) (sx_bd _) (fun z M1 hm1 hc1 => ?_))
  obtain ⟨fs1, hm1⟩ := hm1
  refine v_aload_2 dL_law_333 ?_
  refine v_axload_0 dL_law_334 ?_
  refine v_iload_3 dL_law_335 ?_
  refine v_iconst dL_law_336 ?_
  refine v_iadd dL_law_337 ?_
  refine v_sld dL_law_338 (by omega) (by omega) hL ?_
  refine v_axload_0 dL_law_339 ?_
  refine v_iload_3 dL_law_340 ?_
  refine v_iconst dL_law_341 ?_
  refine v_iadd dL_law_342 ?_
  refine v_sld dL_law_343 (by omega) (by omega) hL ?_
  refine v_axload_0 dL_law_344 ?_
  refine v_iload_3 dL_law_345 ?_
  refine v_iconst dL_law_346 ?_
  refine v_iadd dL_law_347 ?_
  refine v_sld dL_law_348 (by omega) (by omega) hL ?_
  refine l_L_45 rfl dL_law_349 hm1 ⟨(Nat.le_of_ble_eq_true rfl), (Nat.le_of_ble_eq_true rfl)⟩ (Nat.le_of_ble_eq_true rfl) ⟨(Nat.le_of_ble_eq_true rfl), (Nat.le_of_ble_eq_true rfl)⟩ (hc1 _ (fun M2 hI2 => ?_))
  refine v_same (tgt := 932) dL_law_352 rfl ?_
  exact kx M2 hI2
set_option maxRecDepth 100000 in
theorem lw_case_scale {E : Ev} {M : Mem} {i : Int} (hL : E.sL ≤ 3072) (hI : LI E M) (i0 : 0 ≤ i) (i1 : i + 6 ≤ (E.sL : Nat)) (kx : ∀ M2, LI E M2 → V E room_1 mL (finL E) 75 12278 M2 932 [some (xr E.sb), some (rr E 0), some (rr E 69), some (iv i)] []) : V E room_1 mL (finL E) 75 12278 M 357 [some (xr E.sb), some (rr E 0), some (rr E 69), some (iv i)] [] := by
  obtain ⟨fs0, hX⟩ := hI.x
  refine v_aload_1 dL_law_357 ?_
  refine v_axload_0 dL_law_358 ?_
  refine v_iload_3 dL_law_359 ?_
  refine v_iconst dL_law_360 ?_
  refine v_iadd dL_law_361 ?_
  refine v_sld dL_law_362 (by omega) (by omega) hL ?_
  refine v_axload_0 dL_law_363 ?_
  refine v_iload_3 dL_law_364 ?_
  refine v_iconst dL_law_365 ?_
  refine v_iadd dL_law_366 ?_
  refine v_sld dL_law_367 (by omega) (by omega) hL ?_
  refine l_L_46 rfl dL_law_368 hX ⟨(Nat.le_of_ble_eq_true rfl), (Nat.le_of_ble_eq_true rfl)⟩ (Nat.le_of_ble_eq_true rfl) ⟨(Nat.le_of_ble_eq_true rfl), (Nat.le_of_ble_eq_true rfl)⟩ (pr_scale hI (sx_bd _) (sx_bd _) (fun z M1 hm1 hc1 => ?_))
  obtain ⟨fs1, hm1⟩ := hm1
  refine v_aload_2 dL_law_371 ?_
  refine v_axload_0 dL_law_372 ?_
  refine v_iload_3 dL_law_373 ?_
  refine v_iconst dL_law_374 ?_
  refine v_iadd dL_law_375 ?_
  refine v_sld dL_law_376 (by omega) (by omega) hL ?_
  refine v_axload_0 dL_law_377 ?_
  refine v_iload_3 dL_law_378 ?_
  refine v_iconst dL_law_379 ?_
  refine v_iadd dL_law_380 ?_
  refine v_sld dL_law_381 (by omega) (by omega) hL ?_
  refine l_L_50 rfl dL_law_382 hm1 ⟨(Nat.le_of_ble_eq_true rfl), (Nat.le_of_ble_eq_true rfl)⟩ (Nat.le_of_ble_eq_true rfl) ⟨(Nat.le_of_ble_eq_true rfl), (Nat.le_of_ble_eq_true rfl)⟩ (hc1 _ (fun M2 hI2 => ?_))
  refine v_same (tgt := 932) dL_law_385 rfl ?_
  exact kx M2 hI2
set_option maxRecDepth 100000 in
theorem lw_case_back {E : Ev} {M : Mem} {i : Int} (hL : E.sL ≤ 3072) (hI : LI E M) (i0 : 0 ≤ i) (i1 : i + 6 ≤ (E.sL : Nat)) (kx : ∀ M2, LI E M2 → V E room_1 mL (finL E) 75 12278 M2 932 [some (xr E.sb), some (rr E 0), some (rr E 69), some (iv i)] []) : V E room_1 mL (finL E) 75 12278 M 390 [some (xr E.sb), some (rr E 0), some (rr E 69), some (iv i)] [] := by
  obtain ⟨fs0, hX⟩ := hI.x
  refine v_aload_1 dL_law_390 ?_
  refine v_axload_0 dL_law_391 ?_
  refine v_iload_3 dL_law_392 ?_
  refine v_iconst dL_law_393 ?_
  refine v_iadd dL_law_394 ?_
  refine v_sld dL_law_395 (by omega) (by omega) hL ?_
  refine v_axload_0 dL_law_396 ?_
  refine v_iload_3 dL_law_397 ?_
  refine v_iconst dL_law_398 ?_
  refine v_iadd dL_law_399 ?_
  refine v_sld dL_law_400 (by omega) (by omega) hL ?_
  refine l_L_51 rfl dL_law_401 hX ⟨(Nat.le_of_ble_eq_true rfl), (Nat.le_of_ble_eq_true rfl)⟩ (Nat.le_of_ble_eq_true rfl) ⟨(Nat.le_of_ble_eq_true rfl), (Nat.le_of_ble_eq_true rfl)⟩ (pr_back hI (sx_bd _) (sx_bd _) (fun z M1 hm1 hc1 => ?_))
  obtain ⟨fs1, hm1⟩ := hm1
  refine v_aload_2 dL_law_404 ?_
  refine v_axload_0 dL_law_405 ?_
  refine v_iload_3 dL_law_406 ?_
  refine v_iconst dL_law_407 ?_
  refine v_iadd dL_law_408 ?_
  refine v_sld dL_law_409 (by omega) (by omega) hL ?_
  refine v_axload_0 dL_law_410 ?_
  refine v_iload_3 dL_law_411 ?_
  refine v_iconst dL_law_412 ?_
  refine v_iadd dL_law_413 ?_
  refine v_sld dL_law_414 (by omega) (by omega) hL ?_
  refine l_L_54 rfl dL_law_415 hm1 ⟨(Nat.le_of_ble_eq_true rfl), (Nat.le_of_ble_eq_true rfl)⟩ (Nat.le_of_ble_eq_true rfl) ⟨(Nat.le_of_ble_eq_true rfl), (Nat.le_of_ble_eq_true rfl)⟩ (hc1 _ (fun M2 hI2 => ?_))
  refine v_same (tgt := 932) dL_law_418 rfl ?_
  exact kx M2 hI2
set_option maxRecDepth 100000 in
theorem lw_case_sub {E : Ev} {M : Mem} {i : Int} (hL : E.sL ≤ 3072) (hI : LI E M) (i0 : 0 ≤ i) (i1 : i + 6 ≤ (E.sL : Nat)) (kx : ∀ M2, LI E M2 → V E room_1 mL (finL E) 75 12278 M2 932 [some (xr E.sb), some (rr E 0), some (rr E 69), some (iv i)] []) : V E room_1 mL (finL E) 75 12278 M 423 [some (xr E.sb), some (rr E 0), some (rr E 69), some (iv i)] [] := by
  obtain ⟨fs0, hX⟩ := hI.x
  refine v_aload_1 dL_law_423 ?_
  refine v_axload_0 dL_law_424 ?_
  refine v_iload_3 dL_law_425 ?_
  refine v_iconst dL_law_426 ?_
  refine v_iadd dL_law_427 ?_
  refine v_sld dL_law_428 (by omega) (by omega) hL ?_
  refine v_axload_0 dL_law_429 ?_
  refine v_iload_3 dL_law_430 ?_
  refine v_iconst dL_law_431 ?_
  refine v_iadd dL_law_432 ?_
  refine v_sld dL_law_433 (by omega) (by omega) hL ?_
  refine v_axload_0 dL_law_434 ?_
  refine v_iload_3 dL_law_435 ?_
  refine v_iconst dL_law_436 ?_
  refine v_iadd dL_law_437 ?_
  refine v_sld dL_law_438 (by omega) (by omega) hL ?_
  refine l_L_55 rfl dL_law_439 hX ⟨(Nat.le_of_ble_eq_true rfl), (Nat.le_of_ble_eq_true rfl)⟩ (Nat.le_of_ble_eq_true rfl) ⟨(Nat.le_of_ble_eq_true rfl), (Nat.le_of_ble_eq_true rfl)⟩ (pr_sub hI (sx_bd _) (sx_bd _) (sx_bd _) (fun z M1 hm1 hc1 => ?_))
  obtain ⟨fs1, hm1⟩ := hm1
  refine v_aload_2 dL_law_442 ?_
  refine v_axload_0 dL_law_443 ?_
  refine v_iload_3 dL_law_444 ?_
  refine v_iconst dL_law_445 ?_
  refine v_iadd dL_law_446 ?_
  refine v_sld dL_law_447 (by omega) (by omega) hL ?_
  refine v_axload_0 dL_law_448 ?_
  refine v_iload_3 dL_law_449 ?_
  refine v_iconst dL_law_450 ?_
  refine v_iadd dL_law_451 ?_
  refine v_sld dL_law_452 (by omega) (by omega) hL ?_
  refine v_axload_0 dL_law_453 ?_
  refine v_iload_3 dL_law_454 ?_
  refine v_iconst dL_law_455 ?_
  refine v_iadd dL_law_456 ?_
  refine v_sld dL_law_457 (by omega) (by omega) hL ?_
  refine l_L_58 rfl dL_law_458 hm1 ⟨(Nat.le_of_ble_eq_true rfl), (Nat.le_of_ble_eq_true rfl)⟩ (Nat.le_of_ble_eq_true rfl) ⟨(Nat.le_of_ble_eq_true rfl), (Nat.le_of_ble_eq_true rfl)⟩ (hc1 _ (fun M2 hI2 => ?_))
  refine v_same (tgt := 932) dL_law_461 rfl ?_
  exact kx M2 hI2
set_option maxRecDepth 100000 in
theorem lw_case_index {E : Ev} {M : Mem} {i : Int} (hL : E.sL ≤ 3072) (hI : LI E M) (i0 : 0 ≤ i) (i1 : i + 6 ≤ (E.sL : Nat)) (kx : ∀ M2, LI E M2 → V E room_1 mL (finL E) 75 12278 M2 932 [some (xr E.sb), some (rr E 0), some (rr E 69), some (iv i)] []) : V E room_1 mL (finL E) 75 12278 M 466 [some (xr E.sb), some (rr E 0), some (rr E 69), some (iv i)] [] := by
  obtain ⟨fs0, hX⟩ := hI.x
  refine v_aload_1 dL_law_466 ?_
  refine v_axload_0 dL_law_467 ?_
  refine v_iload_3 dL_law_468 ?_
  refine v_iconst dL_law_469 ?_
  refine v_iadd dL_law_470 ?_
  refine v_sld dL_law_471 (by omega) (by omega) hL ?_
  refine v_axload_0 dL_law_472 ?_
  refine v_iload_3 dL_law_473 ?_
  refine v_iconst dL_law_474 ?_
  refine v_iadd dL_law_475 ?_
  refine v_sld dL_law_476 (by omega) (by omega) hL ?_
  refine v_axload_0 dL_law_477 ?_
  refine v_iload_3 dL_law_478 ?_
  refine v_iconst dL_law_479 ?_
  refine v_iadd dL_law_480 ?_
  refine v_sld dL_law_481 (by omega) (by omega) hL ?_
  refine l_L_59 rfl dL_law_482 hX ⟨(Nat.le_of_ble_eq_true rfl), (Nat.le_of_ble_eq_true rfl)⟩ (Nat.le_of_ble_eq_true rfl) ⟨(Nat.le_of_ble_eq_true rfl), (Nat.le_of_ble_eq_true rfl)⟩ (pr_index hI (sx_bd _) (sx_bd _) (sx_bd _) (fun z M1 hm1 hc1 => ?_))
  obtain ⟨fs1, hm1⟩ := hm1
  refine v_aload_2 dL_law_485 ?_
  refine v_axload_0 dL_law_486 ?_
  refine v_iload_3 dL_law_487 ?_
  refine v_iconst dL_law_488 ?_
  refine v_iadd dL_law_489 ?_
  refine v_sld dL_law_490 (by omega) (by omega) hL ?_
  refine v_axload_0 dL_law_491 ?_
  refine v_iload_3 dL_law_492 ?_
  refine v_iconst dL_law_493 ?_
  refine v_iadd dL_law_494 ?_
  refine v_sld dL_law_495 (by omega) (by omega) hL ?_
  refine v_axload_0 dL_law_496 ?_
  refine v_iload_3 dL_law_497 ?_
  refine v_iconst dL_law_498 ?_
  refine v_iadd dL_law_499 ?_
  refine v_sld dL_law_500 (by omega) (by omega) hL ?_
  refine l_L_62 rfl dL_law_501 hm1 ⟨(Nat.le_of_ble_eq_true rfl), (Nat.le_of_ble_eq_true rfl)⟩ (Nat.le_of_ble_eq_true rfl) ⟨(Nat.le_of_ble_eq_true rfl), (Nat.le_of_ble_eq_true rfl)⟩ (hc1 _ (fun M2 hI2 => ?_))
  refine v_same (tgt := 932) dL_law_504 rfl ?_
  exact kx M2 hI2
set_option maxRecDepth 100000 in
theorem lw_case_district {E : Ev} {M : Mem} {i : Int} (hL : E.sL ≤ 3072) (hI : LI E M) (i0 : 0 ≤ i) (i1 : i + 6 ≤ (E.sL : Nat)) (kx : ∀ M2, LI E M2 → V E room_1 mL (finL E) 75 12278 M2 932 [some (xr E.sb), some (rr E 0), some (rr E 69), some (iv i)] []) : V E room_1 mL (finL E) 75 12278 M 509 [some (xr E.sb), some (rr E 0), some (rr E 69), some (iv i)] [] := by
  obtain ⟨fs0, hX⟩ := hI.x
  refine v_aload_1 dL_law_509 ?_
  refine v_axload_0 dL_law_510 ?_
  refine v_iload_3 dL_law_511 ?_
  refine v_iconst dL_law_512 ?_
  refine v_iadd dL_law_513 ?_
  refine v_sld dL_law_514 (by omega) (by omega) hL ?_
  refine v_axload_0 dL_law_515 ?_
  refine v_iload_3 dL_law_516 ?_
  refine v_iconst dL_law_517 ?_
  refine v_iadd dL_law_518 ?_
  refine v_sld dL_law_519 (by omega) (by omega) hL ?_
  refine v_axload_0 dL_law_520 ?_
  refine v_iload_3 dL_law_521 ?_
  refine v_iconst dL_law_522 ?_
  refine v_iadd dL_law_523 ?_
  refine v_sld dL_law_524 (by omega) (by omega) hL ?_
  refine l_L_63 rfl dL_law_525 hX ⟨(Nat.le_of_ble_eq_true rfl), (Nat.le_of_ble_eq_true rfl)⟩ (Nat.le_of_ble_eq_true rfl) ⟨(Nat.le_of_ble_eq_true rfl), (Nat.le_of_ble_eq_true rfl)⟩ (pr_district hI (sx_bd _) (sx_bd _) (sx_bd _) (fun z M1 hm1 hc1 => ?_))
  obtain ⟨fs1, hm1⟩ := hm1
  refine v_aload_2 dL_law_528 ?_
  refine v_axload_0 dL_law_529 ?_
  refine v_iload_3 dL_law_530 ?_
  refine v_iconst dL_law_531 ?_
  refine v_iadd dL_law_532 ?_
  refine v_sld dL_law_533 (by omega) (by omega) hL ?_
  refine v_axload_0 dL_law_534 ?_
  refine v_iload_3 dL_law_535 ?_
  refine v_iconst dL_law_536 ?_
  refine v_iadd dL_law_537 ?_
  refine v_sld dL_law_538 (by omega) (by omega) hL ?_
  refine v_axload_0 dL_law_539 ?_
  refine v_iload_3 dL_law_540 ?_
  refine v_iconst dL_law_541 ?_
  refine v_iadd dL_law_542 ?_
  refine v_sld dL_law_543 (by omega) (by omega) hL ?_
  refine l_L_66 rfl dL_law_544 hm1 ⟨(Nat.le_of_ble_eq_true rfl), (Nat.le_of_ble_eq_true rfl)⟩ (Nat.le_of_ble_eq_true rfl) ⟨(Nat.le_of_ble_eq_true rfl), (Nat.le_of_ble_eq_true rfl)⟩ (hc1 _ (fun M2 hI2 => ?_))
  refine v_same (tgt := 932) dL_law_547 rfl ?_
  exact kx M2 hI2
set_option maxRecDepth 100000 in
theorem lw_case_lasts {E : Ev} {M : Mem} {i : Int} (hL : E.sL ≤ 3072) (hI : LI E M) (i0 : 0 ≤ i) (i1 : i + 6 ≤ (E.sL : Nat)) (kx : ∀ M2, LI E M2 → V E room_1 mL (finL E) 75 12278 M2 932 [some (xr E.sb), some (rr E 0), some (rr E 69), some (iv i)] []) : V E room_1 mL (finL E) 75 12278 M 552 [some (xr E.sb), some (rr E 0), some (rr E 69), some (iv i)] [] := by
  obtain ⟨fs0, hX⟩ := hI.x
  refine v_aload_1 dL_law_552 ?_
  refine v_axload_0 dL_law_553 ?_
  refine v_iload_3 dL_law_554 ?_
  refine v_iconst dL_law_555 ?_
  refine v_iadd dL_law_556 ?_
  refine v_sld dL_law_557 (by omega) (by omega) hL ?_
  refine v_axload_0 dL_law_558 ?_
  refine v_iload_3 dL_law_559 ?_
  refine v_iconst dL_law_560 ?_
  refine v_iadd dL_law_561 ?_
  refine v_sld dL_law_562 (by omega) (by omega) hL ?_
  refine v_axload_0 dL_law_563 ?_
  refine v_iload_3 dL_law_564 ?_
  refine v_iconst dL_law_565 ?_
  refine v_iadd dL_law_566 ?_
  refine v_sld dL_law_567 (by omega) (by omega) hL ?_
  refine l_L_67 rfl dL_law_568 hX ⟨(Nat.le_of_ble_eq_true rfl), (Nat.le_of_ble_eq_true rfl)⟩ (Nat.le_of_ble_eq_true rfl) ⟨(Nat.le_of_ble_eq_true rfl), (Nat.le_of_ble_eq_true rfl)⟩ (pr_lasts hI (sx_bd _) (sx_bd _) (sx_bd _) (fun z M1 hm1 hc1 => ?_))
  obtain ⟨fs1, hm1⟩ := hm1
  refine v_aload_2 dL_law_571 ?_
  refine v_axload_0 dL_law_572 ?_
  refine v_iload_3 dL_law_573 ?_
  refine v_iconst dL_law_574 ?_
  refine v_iadd dL_law_575 ?_
  refine v_sld dL_law_576 (by omega) (by omega) hL ?_
  refine v_axload_0 dL_law_577 ?_
  refine v_iload_3 dL_law_578 ?_
  refine v_iconst dL_law_579 ?_
  refine v_iadd dL_law_580 ?_
  refine v_sld dL_law_581 (by omega) (by omega) hL ?_
  refine v_axload_0 dL_law_582 ?_
  refine v_iload_3 dL_law_583 ?_
  refine v_iconst dL_law_584 ?_
  refine v_iadd dL_law_585 ?_
  refine v_sld dL_law_586 (by omega) (by omega) hL ?_
  refine l_L_70 rfl dL_law_587 hm1 ⟨(Nat.le_of_ble_eq_true rfl), (Nat.le_of_ble_eq_true rfl)⟩ (Nat.le_of_ble_eq_true rfl) ⟨(Nat.le_of_ble_eq_true rfl), (Nat.le_of_ble_eq_true rfl)⟩ (hc1 _ (fun M2 hI2 => ?_))
  refine v_same (tgt := 932) dL_law_590 rfl ?_
  exact kx M2 hI2
set_option maxRecDepth 100000 in
theorem lw_case_worst {E : Ev} {M : Mem} {i : Int} (hL : E.sL ≤ 3072) (hI : LI E M) (i0 : 0 ≤ i) (i1 : i + 6 ≤ (E.sL : Nat)) (kx : ∀ M2, LI E M2 → V E room_1 mL (finL E) 75 12278 M2 932 [some (xr E.sb), some (rr E 0), some (rr E 69), some (iv i)] []) : V E room_1 mL (finL E) 75 12278 M 595 [some (xr E.sb), some (rr E 0), some (rr E 69), some (iv i)] [] := by
  obtain ⟨fs0, hX⟩ := hI.x
  refine v_aload_1 dL_law_595 ?_
  refine v_axload_0 dL_law_596 ?_
  refine v_iload_3 dL_law_597 ?_
  refine v_iconst dL_law_598 ?_
  refine v_iadd dL_law_599 ?_
  refine v_sld dL_law_600 (by omega) (by omega) hL ?_
  refine v_axload_0 dL_law_601 ?_
  refine v_iload_3 dL_law_602 ?_
  refine v_iconst dL_law_603 ?_
  refine v_iadd dL_law_604 ?_
  refine v_sld dL_law_605 (by omega) (by omega) hL ?_
  refine v_axload_0 dL_law_606 ?_
  refine v_iload_3 dL_law_607 ?_
  refine v_iconst dL_law_608 ?_
  refine v_iadd dL_law_609 ?_
  refine v_sld dL_law_610 (by omega) (by omega) hL ?_
  refine l_L_71 rfl dL_law_611 hX ⟨(Nat.le_of_ble_eq_true rfl), (Nat.le_of_ble_eq_true rfl)⟩ (Nat.le_of_ble_eq_true rfl) ⟨(Nat.le_of_ble_eq_true rfl), (Nat.le_of_ble_eq_true rfl)⟩ (pr_worst hI (sx_bd _) (sx_bd _) (sx_bd _) (fun z M1 hm1 hc1 => ?_))
  obtain ⟨fs1, hm1⟩ := hm1
  refine v_aload_2 dL_law_614 ?_
  refine v_axload_0 dL_law_615 ?_
  refine v_iload_3 dL_law_616 ?_
  refine v_iconst dL_law_617 ?_
  refine v_iadd dL_law_618 ?_
  refine v_sld dL_law_619 (by omega) (by omega) hL ?_
  refine v_axload_0 dL_law_620 ?_
  refine v_iload_3 dL_law_621 ?_
  refine v_iconst dL_law_622 ?_
  refine v_iadd dL_law_623 ?_
  refine v_sld dL_law_624 (by omega) (by omega) hL ?_
  refine v_axload_0 dL_law_625 ?_
  refine v_iload_3 dL_law_626 ?_
  refine v_iconst dL_law_627 ?_
  refine v_iadd dL_law_628 ?_
  refine v_sld dL_law_629 (by omega) (by omega) hL ?_
  refine l_L_74 rfl dL_law_630 hm1 ⟨(Nat.le_of_ble_eq_true rfl), (Nat.le_of_ble_eq_true rfl)⟩ (Nat.le_of_ble_eq_true rfl) ⟨(Nat.le_of_ble_eq_true rfl), (Nat.le_of_ble_eq_true rfl)⟩ (hc1 _ (fun M2 hI2 => ?_))
  refine v_same (tgt := 932) dL_law_633 rfl ?_
  exact kx M2 hI2
set_option maxRecDepth 100000 in
theorem lw_case_forecast {E : Ev} {M : Mem} {i : Int} (hL : E.sL ≤ 3072) (hI : LI E M) (i0 : 0 ≤ i) (i1 : i + 6 ≤ (E.sL : Nat)) (kx : ∀ M2, LI E M2 → V E room_1 mL (finL E) 75 12278 M2 932 [some (xr E.sb), some (rr E 0), some (rr E 69), some (iv i)] []) : V E room_1 mL (finL E) 75 12278 M 638 [some (xr E.sb), some (rr E 0), some (rr E 69), some (iv i)] [] := by
  obtain ⟨fs0, hX⟩ := hI.x
  refine v_aload_1 dL_law_638 ?_
  refine v_axload_0 dL_law_639 ?_
  refine v_iload_3 dL_law_640 ?_
  refine v_iconst dL_law_641 ?_
  refine v_iadd dL_law_642 ?_
  refine v_sld dL_law_643 (by omega) (by omega) hL ?_
  refine v_axload_0 dL_law_644 ?_
  refine v_iload_3 dL_law_645 ?_
  refine v_iconst dL_law_646 ?_
  refine v_iadd dL_law_647 ?_
  refine v_sld dL_law_648 (by omega) (by omega) hL ?_
  refine v_axload_0 dL_law_649 ?_
  refine v_iload_3 dL_law_650 ?_
  refine v_iconst dL_law_651 ?_
  refine v_iadd dL_law_652 ?_
  refine v_sld dL_law_653 (by omega) (by omega) hL ?_
  refine l_L_75 rfl dL_law_654 hX ⟨(Nat.le_of_ble_eq_true rfl), (Nat.le_of_ble_eq_true rfl)⟩ (Nat.le_of_ble_eq_true rfl) ⟨(Nat.le_of_ble_eq_true rfl), (Nat.le_of_ble_eq_true rfl)⟩ (pr_forecast hI (sx_bd _) (sx_bd _) (sx_bd _) (fun z M1 hm1 hc1 => ?_))
  obtain ⟨fs1, hm1⟩ := hm1
  refine v_aload_2 dL_law_657 ?_
  refine v_axload_0 dL_law_658 ?_
  refine v_iload_3 dL_law_659 ?_
  refine v_iconst dL_law_660 ?_
  refine v_iadd dL_law_661 ?_
  refine v_sld dL_law_662 (by omega) (by omega) hL ?_
  refine v_axload_0 dL_law_663 ?_
  refine v_iload_3 dL_law_664 ?_
  refine v_iconst dL_law_665 ?_
  refine v_iadd dL_law_666 ?_
  refine v_sld dL_law_667 (by omega) (by omega) hL ?_
  refine v_axload_0 dL_law_668 ?_
  refine v_iload_3 dL_law_669 ?_
  refine v_iconst dL_law_670 ?_
  refine v_iadd dL_law_671 ?_
  refine v_sld dL_law_672 (by omega) (by omega) hL ?_
  refine l_L_78 rfl dL_law_673 hm1 ⟨(Nat.le_of_ble_eq_true rfl), (Nat.le_of_ble_eq_true rfl)⟩ (Nat.le_of_ble_eq_true rfl) ⟨(Nat.le_of_ble_eq_true rfl), (Nat.le_of_ble_eq_true rfl)⟩ (hc1 _ (fun M2 hI2 => ?_))
  refine v_same (tgt := 932) dL_law_676 rfl ?_
  exact kx M2 hI2
set_option maxRecDepth 100000 in
theorem lw_case_keeps {E : Ev} {M : Mem} {i : Int} (hL : E.sL ≤ 3072) (hI : LI E M) (i0 : 0 ≤ i) (i1 : i + 6 ≤ (E.sL : Nat)) (kx : ∀ M2, LI E M2 → V E room_1 mL (finL E) 75 12278 M2 932 [some (xr E.sb), some (rr E 0), some (rr E 69), some (iv i)] []) : V E room_1 mL (finL E) 75 12278 M 681 [some (xr E.sb), some (rr E 0), some (rr E 69), some (iv i)] [] := by
  obtain ⟨fs0, hX⟩ := hI.x
  refine v_aload_1 dL_law_681 ?_
  refine v_axload_0 dL_law_682 ?_
  refine v_iload_3 dL_law_683 ?_
  refine v_iconst dL_law_684 ?_
  refine v_iadd dL_law_685 ?_
  refine v_sld dL_law_686 (by omega) (by omega) hL ?_
  refine v_axload_0 dL_law_687 ?_
  refine v_iload_3 dL_law_688 ?_
  refine v_iconst dL_law_689 ?_
  refine v_iadd dL_law_690 ?_
  refine v_sld dL_law_691 (by omega) (by omega) hL ?_
  refine v_axload_0 dL_law_692 ?_
  refine v_iload_3 dL_law_693 ?_
  refine v_iconst dL_law_694 ?_
  refine v_iadd dL_law_695 ?_
  refine v_sld dL_law_696 (by omega) (by omega) hL ?_
  refine l_L_79 rfl dL_law_697 hX ⟨(Nat.le_of_ble_eq_true rfl), (Nat.le_of_ble_eq_true rfl)⟩ (Nat.le_of_ble_eq_true rfl) ⟨(Nat.le_of_ble_eq_true rfl), (Nat.le_of_ble_eq_true rfl)⟩ (pr_keeps hI (sx_bd _) (sx_bd _) (sx_bd _) (fun z M1 hm1 hc1 => ?_))
  obtain ⟨fs1, hm1⟩ := hm1
  refine v_aload_2 dL_law_700 ?_
  refine v_axload_0 dL_law_701 ?_
  refine v_iload_3 dL_law_702 ?_
  refine v_iconst dL_law_703 ?_
  refine v_iadd dL_law_704 ?_
  refine v_sld dL_law_705 (by omega) (by omega) hL ?_
  refine v_axload_0 dL_law_706 ?_
  refine v_iload_3 dL_law_707 ?_
  refine v_iconst dL_law_708 ?_
  refine v_iadd dL_law_709 ?_
  refine v_sld dL_law_710 (by omega) (by omega) hL ?_
  refine v_axload_0 dL_law_711 ?_
  refine v_iload_3 dL_law_712 ?_
  refine v_iconst dL_law_713 ?_
  refine v_iadd dL_law_714 ?_
  refine v_sld dL_law_715 (by omega) (by omega) hL ?_
  refine l_L_82 rfl dL_law_716 hm1 ⟨(Nat.le_of_ble_eq_true rfl), (Nat.le_of_ble_eq_true rfl)⟩ (Nat.le_of_ble_eq_true rfl) ⟨(Nat.le_of_ble_eq_true rfl), (Nat.le_of_ble_eq_true rfl)⟩ (hc1 _ (fun M2 hI2 => ?_))
  refine v_same (tgt := 932) dL_law_719 rfl ?_
  exact kx M2 hI2
set_option maxRecDepth 100000 in
theorem lw_case_touches {E : Ev} {M : Mem} {i : Int} (hL : E.sL ≤ 3072) (hI : LI E M) (i0 : 0 ≤ i) (i1 : i + 6 ≤ (E.sL : Nat)) (kx : ∀ M2, LI E M2 → V E room_1 mL (finL E) 75 12278 M2 932 [some (xr E.sb), some (rr E 0), some (rr E 69), some (iv i)] []) : V E room_1 mL (finL E) 75 12278 M 724 [some (xr E.sb), some (rr E 0), some (rr E 69), some (iv i)] [] := by
  obtain ⟨fs0, hX⟩ := hI.x
  refine v_aload_1 dL_law_724 ?_
  refine v_axload_0 dL_law_725 ?_
  refine v_iload_3 dL_law_726 ?_
  refine v_iconst dL_law_727 ?_
  refine v_iadd dL_law_728 ?_
  refine v_sld dL_law_729 (by omega) (by omega) hL ?_
  refine v_axload_0 dL_law_730 ?_
  refine v_iload_3 dL_law_731 ?_
  refine v_iconst dL_law_732 ?_
  refine v_iadd dL_law_733 ?_
  refine v_sld dL_law_734 (by omega) (by omega) hL ?_
  refine v_axload_0 dL_law_735 ?_
  refine v_iload_3 dL_law_736 ?_
  refine v_iconst dL_law_737 ?_
  refine v_iadd dL_law_738 ?_
  refine v_sld dL_law_739 (by omega) (by omega) hL ?_
  refine v_axload_0 dL_law_740 ?_
  refine v_iload_3 dL_law_741 ?_
  refine v_iconst dL_law_742 ?_
  refine v_iadd dL_law_743 ?_
  refine v_sld dL_law_744 (by omega) (by omega) hL ?_
  refine l_L_83 rfl dL_law_745 hX ⟨(Nat.le_of_ble_eq_true rfl), (Nat.le_of_ble_eq_true rfl)⟩ (Nat.le_of_ble_eq_true rfl) ⟨(Nat.le_of_ble_eq_true rfl), (Nat.le_of_ble_eq_true rfl)⟩ (pr_touches hI (sx_bd _) (sx_bd _) (sx_bd _) (sx_bd _) (fun z M1 hm1 hc1 => ?_))
  obtain ⟨fs1, hm1⟩ := hm1
  refine v_aload_2 dL_law_748 ?_
  refine v_axload_0 dL_law_749 ?_
  refine v_iload_3 dL_law_750 ?_
  refine v_iconst dL_law_751 ?_
  refine v_iadd dL_law_752 ?_
  refine v_sld dL_law_753 (by omega) (by omega) hL ?_
  refine v_axload_0 dL_law_754 ?_
  refine v_iload_3 dL_law_755 ?_
  refine v_iconst dL_law_756 ?_
  refine v_iadd dL_law_757 ?_
  refine v_sld dL_law_758 (by omega) (by omega) hL ?_
  refine v_axload_0 dL_law_759 ?_
  refine v_iload_3 dL_law_760 ?_
  refine v_iconst dL_law_761 ?_
  refine v_iadd dL_law_762 ?_
  refine v_sld dL_law_763 (by omega) (by omega) hL ?_
  refine v_axload_0 dL_law_764 ?_
  refine v_iload_3 dL_law_765 ?_
  refine v_iconst dL_law_766 ?_
  refine v_iadd dL_law_767 ?_
  refine v_sld dL_law_768 (by omega) (by omega) hL ?_
  refine l_L_87 rfl dL_law_769 hm1 ⟨(Nat.le_of_ble_eq_true rfl), (Nat.le_of_ble_eq_true rfl)⟩ (Nat.le_of_ble_eq_true rfl) ⟨(Nat.le_of_ble_eq_true rfl), (Nat.le_of_ble_eq_true rfl)⟩ (hc1 _ (fun M2 hI2 => ?_))
  refine v_same (tgt := 932) dL_law_772 rfl ?_
  exact kx M2 hI2
set_option maxRecDepth 100000 in
theorem lw_case_correct {E : Ev} {M : Mem} {i : Int} (hL : E.sL ≤ 3072) (hI : LI E M) (i0 : 0 ≤ i) (i1 : i + 6 ≤ (E.sL : Nat)) (kx : ∀ M2, LI E M2 → V E room_1 mL (finL E) 75 12278 M2 932 [some (xr E.sb), some (rr E 0), some (rr E 69), some (iv i)] []) : V E room_1 mL (finL E) 75 12278 M 777 [some (xr E.sb), some (rr E 0), some (rr E 69), some (iv i)] [] := by
  obtain ⟨fs0, hX⟩ := hI.x
  refine v_aload_1 dL_law_777 ?_
  refine v_axload_0 dL_law_778 ?_
  refine v_iload_3 dL_law_779 ?_
  refine v_iconst dL_law_780 ?_
  refine v_iadd dL_law_781 ?_
  refine v_sld dL_law_782 (by omega) (by omega) hL ?_
  refine v_axload_0 dL_law_783 ?_
  refine v_iload_3 dL_law_784 ?_
  refine v_iconst dL_law_785 ?_
  refine v_iadd dL_law_786 ?_
  refine v_sld dL_law_787 (by omega) (by omega) hL ?_
  refine v_axload_0 dL_law_788 ?_
  refine v_iload_3 dL_law_789 ?_
  refine v_iconst dL_law_790 ?_
  refine v_iadd dL_law_791 ?_
  refine v_sld dL_law_792 (by omega) (by omega) hL ?_
  refine v_axload_0 dL_law_793 ?_
  refine v_iload_3 dL_law_794 ?_
  refine v_iconst dL_law_795 ?_
  refine v_iadd dL_law_796 ?_
  refine v_sld dL_law_797 (by omega) (by omega) hL ?_
  refine l_L_88 rfl dL_law_798 hX ⟨(Nat.le_of_ble_eq_true rfl), (Nat.le_of_ble_eq_true rfl)⟩ (Nat.le_of_ble_eq_true rfl) ⟨(Nat.le_of_ble_eq_true rfl), (Nat.le_of_ble_eq_true rfl)⟩ (pr_correct hI (sx_bd _) (sx_bd _) (sx_bd _) (sx_bd _) (fun z M1 hm1 hc1 => ?_))
  obtain ⟨fs1, hm1⟩ := hm1
  refine v_aload_2 dL_law_801 ?_
  refine v_axload_0 dL_law_802 ?_
  refine v_iload_3 dL_law_803 ?_
  refine v_iconst dL_law_804 ?_
  refine v_iadd dL_law_805 ?_
  refine v_sld dL_law_806 (by omega) (by omega) hL ?_
  refine v_axload_0 dL_law_807 ?_
  refine v_iload_3 dL_law_808 ?_
  refine v_iconst dL_law_809 ?_
  refine v_iadd dL_law_810 ?_
  refine v_sld dL_law_811 (by omega) (by omega) hL ?_
  refine v_axload_0 dL_law_812 ?_
  refine v_iload_3 dL_law_813 ?_
  refine v_iconst dL_law_814 ?_
  refine v_iadd dL_law_815 ?_
  refine v_sld dL_law_816 (by omega) (by omega) hL ?_
  refine v_axload_0 dL_law_817 ?_
  refine v_iload_3 dL_law_818 ?_
  refine v_iconst dL_law_819 ?_
  refine v_iadd dL_law_820 ?_
  refine v_sld dL_law_821 (by omega) (by omega) hL ?_
  refine l_L_91 rfl dL_law_822 hm1 ⟨(Nat.le_of_ble_eq_true rfl), (Nat.le_of_ble_eq_true rfl)⟩ (Nat.le_of_ble_eq_true rfl) ⟨(Nat.le_of_ble_eq_true rfl), (Nat.le_of_ble_eq_true rfl)⟩ (hc1 _ (fun M2 hI2 => ?_))
  refine v_same (tgt := 932) dL_law_825 rfl ?_
  exact kx M2 hI2
set_option maxRecDepth 100000 in
theorem lw_case_pass {E : Ev} {M : Mem} {i : Int} (hL : E.sL ≤ 3072) (hI : LI E M) (i0 : 0 ≤ i) (i1 : i + 6 ≤ (E.sL : Nat)) (kx : ∀ M2, LI E M2 → V E room_1 mL (finL E) 75 12278 M2 932 [some (xr E.sb), some (rr E 0), some (rr E 69), some (iv i)] []) : V E room_1 mL (finL E) 75 12278 M 830 [some (xr E.sb), some (rr E 0), some (rr E 69), some (iv i)] [] := by
  obtain ⟨fs0, hX⟩ := hI.x
  refine v_aload_1 dL_law_830 ?_
  refine v_axload_0 dL_law_831 ?_
  refine v_iload_3 dL_law_832 ?_
  refine v_iconst dL_law_833 ?_
  refine v_iadd dL_law_834 ?_
  refine v_sld dL_law_835 (by omega) (by omega) hL ?_
  refine l_L_92 rfl dL_law_836 hX ⟨(Nat.le_of_ble_eq_true rfl), (Nat.le_of_ble_eq_true rfl)⟩ (Nat.le_of_ble_eq_true rfl) ⟨(Nat.le_of_ble_eq_true rfl), (Nat.le_of_ble_eq_true rfl)⟩ (pr_pass hI (sx_bd _) (fun z M1 hm1 hc1 => ?_))
  obtain ⟨fs1, hm1⟩ := hm1
  refine v_aload_2 dL_law_839 ?_
  refine v_axload_0 dL_law_840 ?_
  refine v_iload_3 dL_law_841 ?_
  refine v_iconst dL_law_842 ?_
  refine v_iadd dL_law_843 ?_
  refine v_sld dL_law_844 (by omega) (by omega) hL ?_
  refine l_L_95 rfl dL_law_845 hm1 ⟨(Nat.le_of_ble_eq_true rfl), (Nat.le_of_ble_eq_true rfl)⟩ (Nat.le_of_ble_eq_true rfl) ⟨(Nat.le_of_ble_eq_true rfl), (Nat.le_of_ble_eq_true rfl)⟩ (hc1 _ (fun M2 hI2 => ?_))
  refine v_same (tgt := 932) dL_law_848 rfl ?_
  exact kx M2 hI2
set_option maxRecDepth 100000 in
theorem lw_case_smooth {E : Ev} {M : Mem} {i : Int} (hL : E.sL ≤ 3072) (hI : LI E M) (i0 : 0 ≤ i) (i1 : i + 6 ≤ (E.sL : Nat)) (kx : ∀ M2, LI E M2 → V E room_1 mL (finL E) 75 12278 M2 932 [some (xr E.sb), some (rr E 0), some (rr E 69), some (iv i)] []) : V E room_1 mL (finL E) 75 12278 M 853 [some (xr E.sb), some (rr E 0), some (rr E 69), some (iv i)] [] := by
  obtain ⟨fs0, hX⟩ := hI.x
  refine v_aload_1 dL_law_853 ?_
  refine v_axload_0 dL_law_854 ?_
  refine v_iload_3 dL_law_855 ?_
  refine v_iconst dL_law_856 ?_
  refine v_iadd dL_law_857 ?_
  refine v_sld dL_law_858 (by omega) (by omega) hL ?_
  refine l_L_96 rfl dL_law_859 hX ⟨(Nat.le_of_ble_eq_true rfl), (Nat.le_of_ble_eq_true rfl)⟩ (Nat.le_of_ble_eq_true rfl) ⟨(Nat.le_of_ble_eq_true rfl), (Nat.le_of_ble_eq_true rfl)⟩ (pr_smooth hI (sx_bd _) (fun z M1 hm1 hc1 => ?_))
  obtain ⟨fs1, hm1⟩ := hm1
  refine v_aload_2 dL_law_862 ?_
  refine v_axload_0 dL_law_863 ?_
  refine v_iload_3 dL_law_864 ?_
  refine v_iconst dL_law_865 ?_
  refine v_iadd dL_law_866 ?_
  refine v_sld dL_law_867 (by omega) (by omega) hL ?_
  refine l_L_99 rfl dL_law_868 hm1 ⟨(Nat.le_of_ble_eq_true rfl), (Nat.le_of_ble_eq_true rfl)⟩ (Nat.le_of_ble_eq_true rfl) ⟨(Nat.le_of_ble_eq_true rfl), (Nat.le_of_ble_eq_true rfl)⟩ (hc1 _ (fun M2 hI2 => ?_))
  refine v_same (tgt := 932) dL_law_871 rfl ?_
  exact kx M2 hI2
set_option maxRecDepth 100000 in
theorem lw_case_window {E : Ev} {M : Mem} {i : Int} (hL : E.sL ≤ 3072) (hI : LI E M) (i0 : 0 ≤ i) (i1 : i + 6 ≤ (E.sL : Nat)) (kx : ∀ M2, LI E M2 → V E room_1 mL (finL E) 75 12278 M2 932 [some (xr E.sb), some (rr E 0), some (rr E 69), some (iv i)] []) : V E room_1 mL (finL E) 75 12278 M 876 [some (xr E.sb), some (rr E 0), some (rr E 69), some (iv i)] [] := by
  obtain ⟨fs0, hX⟩ := hI.x
  refine v_aload_1 dL_law_876 ?_
  refine v_axload_0 dL_law_877 ?_
  refine v_iload_3 dL_law_878 ?_
  refine v_iconst dL_law_879 ?_
  refine v_iadd dL_law_880 ?_
  refine v_sld dL_law_881 (by omega) (by omega) hL ?_
  refine v_axload_0 dL_law_882 ?_
  refine v_iload_3 dL_law_883 ?_
  refine v_iconst dL_law_884 ?_
  refine v_iadd dL_law_885 ?_
  refine v_sld dL_law_886 (by omega) (by omega) hL ?_
  refine v_axload_0 dL_law_887 ?_
  refine v_iload_3 dL_law_888 ?_
  refine v_iconst dL_law_889 ?_
  refine v_iadd dL_law_890 ?_
  refine v_sld dL_law_891 (by omega) (by omega) hL ?_
  refine l_L_100 rfl dL_law_892 hX ⟨(Nat.le_of_ble_eq_true rfl), (Nat.le_of_ble_eq_true rfl)⟩ (Nat.le_of_ble_eq_true rfl) ⟨(Nat.le_of_ble_eq_true rfl), (Nat.le_of_ble_eq_true rfl)⟩ (pr_window hI (sx_bd _) (sx_bd _) (sx_bd _) (fun z M1 hm1 hc1 => ?_))
  obtain ⟨fs1, hm1⟩ := hm1
  refine v_aload_2 dL_law_895 ?_
  refine v_axload_0 dL_law_896 ?_
  refine v_iload_3 dL_law_897 ?_
  refine v_iconst dL_law_898 ?_
  refine v_iadd dL_law_899 ?_
  refine v_sld dL_law_900 (by omega) (by omega) hL ?_
  refine v_axload_0 dL_law_901 ?_
  refine v_iload_3 dL_law_902 ?_
  refine v_iconst dL_law_903 ?_
  refine v_iadd dL_law_904 ?_
  refine v_sld dL_law_905 (by omega) (by omega) hL ?_
  refine v_axload_0 dL_law_906 ?_
  refine v_iload_3 dL_law_907 ?_
  refine v_iconst dL_law_908 ?_
  refine v_iadd dL_law_909 ?_
  refine v_sld dL_law_910 (by omega) (by omega) hL ?_
  refine l_L_104 rfl dL_law_911 hm1 ⟨(Nat.le_of_ble_eq_true rfl), (Nat.le_of_ble_eq_true rfl)⟩ (Nat.le_of_ble_eq_true rfl) ⟨(Nat.le_of_ble_eq_true rfl), (Nat.le_of_ble_eq_true rfl)⟩ (hc1 _ (fun M2 hI2 => ?_))
  refine v_same (tgt := 932) dL_law_914 rfl ?_
  exact kx M2 hI2
set_option maxRecDepth 100000 in
theorem lw_case_undo {E : Ev} {M : Mem} {i : Int} (hL : E.sL ≤ 3072) (hI : LI E M) (i0 : 0 ≤ i) (i1 : i + 6 ≤ (E.sL : Nat)) (kx : ∀ M2, LI E M2 → V E room_1 mL (finL E) 75 12278 M2 932 [some (xr E.sb), some (rr E 0), some (rr E 69), some (iv i)] []) : V E room_1 mL (finL E) 75 12278 M 919 [some (xr E.sb), some (rr E 0), some (rr E 69), some (iv i)] [] := by
  obtain ⟨fs0, hX⟩ := hI.x
  refine v_aload_1 dL_law_919 ?_
  refine l_L_105 rfl dL_law_920 hX ⟨(Nat.le_of_ble_eq_true rfl), (Nat.le_of_ble_eq_true rfl)⟩ (Nat.le_of_ble_eq_true rfl) ⟨(Nat.le_of_ble_eq_true rfl), (Nat.le_of_ble_eq_true rfl)⟩ (pr_undo hI  (fun z M1 hm1 hc1 => ?_))
  obtain ⟨fs1, hm1⟩ := hm1
  refine v_aload_2 dL_law_923 ?_
  refine l_L_108 rfl dL_law_924 hm1 ⟨(Nat.le_of_ble_eq_true rfl), (Nat.le_of_ble_eq_true rfl)⟩ (Nat.le_of_ble_eq_true rfl) ⟨(Nat.le_of_ble_eq_true rfl), (Nat.le_of_ble_eq_true rfl)⟩ (hc1 _ (fun M2 hI2 => ?_))
  refine v_same (tgt := 932) dL_law_927 rfl ?_
  exact kx M2 hI2
set_option maxRecDepth 100000 in
theorem lw_loop {E : Ev} (hL : E.sL ≤ 3072) : ∀ (cq : Nat) (M : Mem) (i : Int), LI E M → 0 ≤ i → i ≤ 4000 → 4000 - i < (cq : Int) → V E room_1 mL (finL E) 75 12278 M 18 [some (xr E.sb), some (rr E 0), some (rr E 69), some (iv i)] [] := by
  intro cq
  induction cq with
  | zero => intro M i hI i0 i1 hz; exact absurd hz (by omega)
  | succ cq ih =>
    intro M i hI i0 i1 hz
    refine v_iload_3 dL_law_18 ?_
    refine v_axload_0 dL_law_19 ?_
    refine v_slen dL_law_20 ?_
    refine v_bipush dL_law_21 (by decide) ?_
    refine v_isub dL_law_23 ?_
    refine v_icmp_gt (tgt := 938) dL_law_24 rfl ⟨by omega, by omega⟩ ⟨by omega, by omega⟩ (fun c24 => ?_) (fun c24 => ?_)
    · refine v_iconst dL_law_938 ?_
      exact v_law_ret dL_law_939 (Nat.le_of_ble_eq_true rfl) (Nat.le_of_ble_eq_true rfl)
    have kx : ∀ M2, LI E M2 → V E room_1 mL (finL E) 75 12278 M2 932 [some (xr E.sb), some (rr E 0), some (rr E 69), some (iv i)] [] := by
      intro M2 hI2
      refine v_iinc_3 dL_law_932 (Nat.le_of_ble_eq_true rfl) rfl ?_
      refine v_goto (tgt := 18) dL_law_935 rfl ?_
      exact ih M2 (i + 6) hI2 (by omega) (by omega) (by omega)
    refine v_axload_0 dL_law_27 ?_
    refine v_iload_3 dL_law_28 ?_
    refine v_sld dL_law_29 (by omega) (by omega) hL ?_
    refine v_bipush dL_law_30 (by decide) ?_
    refine v_iand dL_law_32 (and31 _) ?_
    obtain ⟨z, hz0⟩ : ∃ z : Int, z = (E.sx i.toNat).toInt % 32 := ⟨_, rfl⟩
    rw [← hz0]
    rcases (show z = 0 ∨ z = 1 ∨ z = 2 ∨ z = 3 ∨ z = 4 ∨ z = 5 ∨ z = 6 ∨ z = 7 ∨ z = 8 ∨ z = 9 ∨ z = 10 ∨ z = 11 ∨ z = 12 ∨ z = 13 ∨ z = 14 ∨ z = 15 ∨ z = 16 ∨ z = 17 ∨ z = 18 ∨ z = 19 ∨ z = 20 ∨ z = 21 ∨ 22 ≤ z by omega) with e | e | e | e | e | e | e | e | e | e | e | e | e | e | e | e | e | e | e | e | e | e | e
    · refine v_tin (tgt := 136) (off := 103) dL_law_33 (by rw [e]; decide) (by rw [e]; decide) (by rw [e]; decide) (by rw [e]; rfl) rfl ?_
      exact lw_case_feed hL hI i0 (by omega) kx
    · refine v_tin (tgt := 199) (off := 166) dL_law_33 (by rw [e]; decide) (by rw [e]; decide) (by rw [e]; decide) (by rw [e]; rfl) rfl ?_
      exact lw_case_end hL hI i0 (by omega) kx
    · refine v_tin (tgt := 222) (off := 189) dL_law_33 (by rw [e]; decide) (by rw [e]; decide) (by rw [e]; decide) (by rw [e]; rfl) rfl ?_
      exact lw_case_text hL hI i0 (by omega) kx
    · refine v_tin (tgt := 235) (off := 202) dL_law_33 (by rw [e]; decide) (by rw [e]; decide) (by rw [e]; decide) (by rw [e]; rfl) rfl ?_
      exact lw_case_fault hL hI i0 (by omega) kx
    · refine v_tin (tgt := 248) (off := 215) dL_law_33 (by rw [e]; decide) (by rw [e]; decide) (by rw [e]; decide) (by rw [e]; rfl) rfl ?_
      exact lw_case_now hL hI i0 (by omega) kx
    · refine v_tin (tgt := 271) (off := 238) dL_law_33 (by rw [e]; decide) (by rw [e]; decide) (by rw [e]; decide) (by rw [e]; rfl) rfl ?_
      exact lw_case_read hL hI i0 (by omega) kx
    · refine v_tin (tgt := 314) (off := 281) dL_law_33 (by rw [e]; decide) (by rw [e]; decide) (by rw [e]; decide) (by rw [e]; rfl) rfl ?_
      exact lw_case_mean hL hI i0 (by omega) kx
    · refine v_tin (tgt := 357) (off := 324) dL_law_33 (by rw [e]; decide) (by rw [e]; decide) (by rw [e]; decide) (by rw [e]; rfl) rfl ?_
      exact lw_case_scale hL hI i0 (by omega) kx
    · refine v_tin (tgt := 390) (off := 357) dL_law_33 (by rw [e]; decide) (by rw [e]; decide) (by rw [e]; decide) (by rw [e]; rfl) rfl ?_
      exact lw_case_back hL hI i0 (by omega) kx
    · refine v_tin (tgt := 423) (off := 390) dL_law_33 (by rw [e]; decide) (by rw [e]; decide) (by rw [e]; decide) (by rw [e]; rfl) rfl ?_
      exact lw_case_sub hL hI i0 (by omega) kx
    · refine v_tin (tgt := 466) (off := 433) dL_law_33 (by rw [e]; decide) (by rw [e]; decide) (by rw [e]; decide) (by rw [e]; rfl) rfl ?_
      exact lw_case_index hL hI i0 (by omega) kx
    · refine v_tin (tgt := 509) (off := 476) dL_law_33 (by rw [e]; decide) (by rw [e]; decide) (by rw [e]; decide) (by rw [e]; rfl) rfl ?_
      exact lw_case_district hL hI i0 (by omega) kx
    · refine v_tin (tgt := 552) (off := 519) dL_law_33 (by rw [e]; decide) (by rw [e]; decide) (by rw [e]; decide) (by rw [e]; rfl) rfl ?_
      exact lw_case_lasts hL hI i0 (by omega) kx
    · refine v_tin (tgt := 595) (off := 562) dL_law_33 (by rw [e]; decide) (by rw [e]; decide) (by rw [e]; decide) (by rw [e]; rfl) rfl ?_
      exact lw_case_worst hL hI i0 (by omega) kx
    · refine v_tin (tgt := 638) (off := 605) dL_law_33 (by rw [e]; decide) (by rw [e]; decide) (by rw [e]; decide) (by rw [e]; rfl) rfl ?_
      exact lw_case_forecast hL hI i0 (by omega) kx
    · refine v_tin (tgt := 681) (off := 648) dL_law_33 (by rw [e]; decide) (by rw [e]; decide) (by rw [e]; decide) (by rw [e]; rfl) rfl ?_
      exact lw_case_keeps hL hI i0 (by omega) kx
    · refine v_tin (tgt := 724) (off := 691) dL_law_33 (by rw [e]; decide) (by rw [e]; decide) (by rw [e]; decide) (by rw [e]; rfl) rfl ?_
      exact lw_case_touches hL hI i0 (by omega) kx
    · refine v_tin (tgt := 777) (off := 744) dL_law_33 (by rw [e]; decide) (by rw [e]; decide) (by rw [e]; decide) (by rw [e]; rfl) rfl ?_
      exact lw_case_correct hL hI i0 (by omega) kx
    · refine v_tin (tgt := 830) (off := 797) dL_law_33 (by rw [e]; decide) (by rw [e]; decide) (by rw [e]; decide) (by rw [e]; rfl) rfl ?_
      exact lw_case_pass hL hI i0 (by omega) kx
    · refine v_tin (tgt := 853) (off := 820) dL_law_33 (by rw [e]; decide) (by rw [e]; decide) (by rw [e]; decide) (by rw [e]; rfl) rfl ?_
      exact lw_case_smooth hL hI i0 (by omega) kx
    · refine v_tin (tgt := 876) (off := 843) dL_law_33 (by rw [e]; decide) (by rw [e]; decide) (by rw [e]; decide) (by rw [e]; rfl) rfl ?_
      exact lw_case_window hL hI i0 (by omega) kx
    · refine v_tin (tgt := 919) (off := 886) dL_law_33 (by rw [e]; decide) (by rw [e]; decide) (by rw [e]; decide) (by rw [e]; rfl) rfl ?_
      exact lw_case_undo hL hI i0 (by omega) kx
    · refine v_tout (tgt := 932) dL_law_33 ⟨by omega, by omega⟩ (Or.inr (by omega)) rfl ?_
      exact kx M hI
set_option maxRecDepth 100000 in
theorem lw_body {E : Ev} (hL : E.sL ≤ 3072) : V E room_1 mL (finL E) 0 0 [] 0 [some (xr E.sb), none, none, none] [] := by
  refine v_mem (M2 := [] ++ []) rfl ?_
  refine v_new (ci := 7) (n := 5) (T := TX7) (Cq := RX7) (ty0 := tyX7) (fs := [ro E none, ro E none, ro E none, ro E none, ro E none]) dL_law_0 rfl inX7 tyX7_ok (pl 63 (by decide +kernel)) (pl 64 (by decide +kernel)) (pl 48 (by decide +kernel)) (dvX7 (E := E)) (Nat.le_of_ble_eq_true rfl) (Nat.le_of_ble_eq_true rfl) ?_
  rw [show ([] ++ [] : Mem).length = 0 from rfl]
  refine v_dupr dL_law_3 ?_
  refine i_L_9 rfl dL_law_4 ⟨(Nat.le_of_ble_eq_true rfl), (Nat.le_of_ble_eq_true rfl)⟩ (Nat.le_of_ble_eq_true rfl) ⟨(Nat.le_of_ble_eq_true rfl), (Nat.le_of_ble_eq_true rfl)⟩ (c_X7_init (fun M2 hC h69 => ?_))
  refine v_astore_1 dL_law_7 (Nat.le_of_ble_eq_true rfl) rfl ?_
  refine v_new (ci := 8) (n := 18) (T := TX8) (Cq := RX8) (ty0 := tyX8) (fs := [iv 0, ro E none, iv 0, iv 0, iv 0, iv 0, iv 0, iv 0, iv 0, iv 0, jv 0, ro E none, ro E none, ro E none, iv 0, iv 0, iv 0, ro E none]) dL_law_8 rfl inX8 tyX8_ok (pl 668 (by decide +kernel)) (pl 662 (by decide +kernel)) (pl 56 (by decide +kernel)) (dvX8 (E := E)) (Nat.le_of_ble_eq_true rfl) (Nat.le_of_ble_eq_true rfl) ?_
  rw [h69]
  refine v_dupr dL_law_11 ?_
  refine i_L_12 rfl dL_law_12 ⟨(Nat.le_of_ble_eq_true rfl), (Nat.le_of_ble_eq_true rfl)⟩ (Nat.le_of_ble_eq_true rfl) ⟨(Nat.le_of_ble_eq_true rfl), (Nat.le_of_ble_eq_true rfl)⟩ (c_X8_init h69 ?_)
  refine v_astore_2 dL_law_15 (Nat.le_of_ble_eq_true rfl) rfl ?_
  refine v_iconst dL_law_16 ?_
  refine v_istore_3 dL_law_17 (Nat.le_of_ble_eq_true rfl) rfl ?_
  refine v_mm (K2 := 75) (N2 := 12278) rfl rfl rfl ?_
  refine lw_loop hL 5000 _ 0 ⟨17, 43, w0F, 0, fun _ => w0F, fun _ => 0, 0, 0, Or.inl ⟨rfl, rfl⟩, hC.fr (Or.inl ⟨rfl, rfl⟩) (fun b hb => a_old h69 hb), ⟨⟨iv 0, 0, 0, 0, 0, 0, 0, 0, 0, 0, (a_get0 h69).trans rfl⟩, (a_get (k := 1) h69).trans rfl, (a_get (k := 2) h69).trans rfl, ⟨_, (a_get (k := 3) h69).trans rfl⟩, ⟨_, (a_get (k := 4) h69).trans rfl, fun i hi => by omega⟩, _, (a_get (k := 5) h69).trans rfl⟩, by decide, rfl, fun i hi => w0_wf⟩ (by decide) (by decide) (by decide)
