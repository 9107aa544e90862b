set_option maxRecDepth 100000 in
theorem c_X7_fault {E : Ev} {M : Mem} {Post : Option Value → Mem → Prop} {x r a : Nat} {f0 f2 f3 f4 : Value} {fk : Int} (hX : M[x]? = some (ob 7 [f0, rr E r, f2, f3, f4])) (hR : RdS E M r a fk) (hp : Post (some (iv fk)) M) : Cn E rX7_fault mX7_fault [rr E x] M Post := by
  obtain ⟨ln, fp, tk, td, k1, k2, k3, k4, hm, hK⟩ := hR
  refine Cn.of (L := [some (rr E x)]) (by decide) (Nat.le_of_ble_eq_true rfl) rfl ?_
  refine v_aload_0 dX7_fault_0 ?_
  refine g_X7_21 rfl dX7_fault_1 hX ?_
  refine g_X7_91 rfl dX7_fault_4 hm ?_
  exact v_iret dX7_fault_7 rfl (Nat.le_refl _) (Nat.le_refl _) hp
