section
-- ===== PART A: goes FIRST, ahead of the names: the tables' words, and 'selects' of the private methods out of them =====
/-- a private method of a class that the tables say can be made, by its rows of tables_1 -/
def lw_okq (q : MethodName × Nat) : Prop := (q.1.cls ≠ "java/lang/invoke/MethodHandle" ∧ q.1.cls ≠ "java/lang/invoke/VarHandle") ∧ Cond.instantiable q.1.cls q.2 ∈ tables_1 ∧ Cond.privateMethod q.1 ∈ tables_1 ∧ Cond.instanceMethod q.1 ∈ tables_1
theorem lw_p0 : lw_okq (⟨"AirIndex$Token", "skipBlanks", "()V"⟩, 5) := ⟨⟨by decide +kernel, by decide +kernel⟩, List.mem_of_getElem? (i := 48) (by decide +kernel), List.mem_of_getElem? (i := 277) (by decide +kernel), List.mem_of_getElem? (i := 278) (by decide +kernel)⟩
theorem lw_p1 : lw_okq (⟨"AirIndex$Token", "scanRun", "()V"⟩, 5) := ⟨⟨by decide +kernel, by decide +kernel⟩, List.mem_of_getElem? (i := 48) (by decide +kernel), List.mem_of_getElem? (i := 288) (by decide +kernel), List.mem_of_getElem? (i := 289) (by decide +kernel)⟩
theorem lw_p2 : lw_okq (⟨"AirIndex$TextReader", "takesWord", "(Ljava/lang/String;)Z"⟩, 6) := ⟨⟨by decide +kernel, by decide +kernel⟩, List.mem_of_getElem? (i := 42) (by decide +kernel), List.mem_of_getElem? (i := 297) (by decide +kernel), List.mem_of_getElem? (i := 298) (by decide +kernel)⟩
theorem lw_p3 : lw_okq (⟨"AirIndex$TextReader", "refuses", "(I)Z"⟩, 6) := ⟨⟨by decide +kernel, by decide +kernel⟩, List.mem_of_getElem? (i := 42) (by decide +kernel), List.mem_of_getElem? (i := 353) (by decide +kernel), List.mem_of_getElem? (i := 354) (by decide +kernel)⟩
theorem lw_p4 : lw_okq (⟨"AirIndex$TextReader", "takesNumber", "(II)Z"⟩, 6) := ⟨⟨by decide +kernel, by decide +kernel⟩, List.mem_of_getElem? (i := 42) (by decide +kernel), List.mem_of_getElem? (i := 358) (by decide +kernel), List.mem_of_getElem? (i := 359) (by decide +kernel)⟩
theorem lw_p5 : lw_okq (⟨"AirIndex$TextReader", "isNumberWithin", "(II)Z"⟩, 6) := ⟨⟨by decide +kernel, by decide +kernel⟩, List.mem_of_getElem? (i := 42) (by decide +kernel), List.mem_of_getElem? (i := 362) (by decide +kernel), List.mem_of_getElem? (i := 363) (by decide +kernel)⟩
theorem lw_p6 : lw_okq (⟨"AirIndex$TextReader", "takesSemicolon", "()Z"⟩, 6) := ⟨⟨by decide +kernel, by decide +kernel⟩, List.mem_of_getElem? (i := 42) (by decide +kernel), List.mem_of_getElem? (i := 370) (by decide +kernel), List.mem_of_getElem? (i := 371) (by decide +kernel)⟩
theorem lw_p7 : lw_okq (⟨"AirIndex$TextReader", "readsSubstance", "(LAirIndex$Office;)Z"⟩, 6) := ⟨⟨by decide +kernel, by decide +kernel⟩, List.mem_of_getElem? (i := 42) (by decide +kernel), List.mem_of_getElem? (i := 384) (by decide +kernel), List.mem_of_getElem? (i := 385) (by decide +kernel)⟩
theorem lw_p8 : lw_okq (⟨"AirIndex$TextReader", "readsPoints", "(LAirIndex$Substance;)Z"⟩, 6) := ⟨⟨by decide +kernel, by decide +kernel⟩, List.mem_of_getElem? (i := 42) (by decide +kernel), List.mem_of_getElem? (i := 389) (by decide +kernel), List.mem_of_getElem? (i := 390) (by decide +kernel)⟩
theorem lw_p9 : lw_okq (⟨"AirIndex$TextReader", "readsSeries", "(LAirIndex$Office;)Z"⟩, 6) := ⟨⟨by decide +kernel, by decide +kernel⟩, List.mem_of_getElem? (i := 42) (by decide +kernel), List.mem_of_getElem? (i := 404) (by decide +kernel), List.mem_of_getElem? (i := 405) (by decide +kernel)⟩
theorem lw_p10 : lw_okq (⟨"AirIndex$TextReader", "readsReads", "(LAirIndex$Office;II)Z"⟩, 6) := ⟨⟨by decide +kernel, by decide +kernel⟩, List.mem_of_getElem? (i := 42) (by decide +kernel), List.mem_of_getElem? (i := 409) (by decide +kernel), List.mem_of_getElem? (i := 410) (by decide +kernel)⟩
theorem lw_p11 : lw_okq (⟨"AirIndex$TextReader", "isRead", "()Z"⟩, 6) := ⟨⟨by decide +kernel, by decide +kernel⟩, List.mem_of_getElem? (i := 42) (by decide +kernel), List.mem_of_getElem? (i := 413) (by decide +kernel), List.mem_of_getElem? (i := 414) (by decide +kernel)⟩
theorem lw_p12 : lw_okq (⟨"AirIndex", "canCorrect", "(IIII)Z"⟩, 5) := ⟨⟨by decide +kernel, by decide +kernel⟩, List.mem_of_getElem? (i := 17) (by decide +kernel), List.mem_of_getElem? (i := 559) (by decide +kernel), List.mem_of_getElem? (i := 560) (by decide +kernel)⟩
theorem lw_p13 : lw_okq (⟨"AirIndex", "touchedHours", "(IIII)I"⟩, 5) := ⟨⟨by decide +kernel, by decide +kernel⟩, List.mem_of_getElem? (i := 17) (by decide +kernel), List.mem_of_getElem? (i := 563) (by decide +kernel), List.mem_of_getElem? (i := 564) (by decide +kernel)⟩
theorem lw_p14 : lw_okq (⟨"AirIndex$History", "forgetOldest", "()V"⟩, 2) := ⟨⟨by decide +kernel, by decide +kernel⟩, List.mem_of_getElem? (i := 95) (by decide +kernel), List.mem_of_getElem? (i := 575) (by decide +kernel), List.mem_of_getElem? (i := 576) (by decide +kernel)⟩
theorem lw_p15 : lw_okq (⟨"AirIndex", "takeBack", "(LAirIndex$Act;)V"⟩, 5) := ⟨⟨by decide +kernel, by decide +kernel⟩, List.mem_of_getElem? (i := 17) (by decide +kernel), List.mem_of_getElem? (i := 605) (by decide +kernel), List.mem_of_getElem? (i := 606) (by decide +kernel)⟩
def lw_privs_1 : List (MethodName × Nat) := [(⟨"AirIndex$Token", "skipBlanks", "()V"⟩, 5), (⟨"AirIndex$Token", "scanRun", "()V"⟩, 5), (⟨"AirIndex$TextReader", "takesWord", "(Ljava/lang/String;)Z"⟩, 6), (⟨"AirIndex$TextReader", "refuses", "(I)Z"⟩, 6), (⟨"AirIndex$TextReader", "takesNumber", "(II)Z"⟩, 6), (⟨"AirIndex$TextReader", "isNumberWithin", "(II)Z"⟩, 6), (⟨"AirIndex$TextReader", "takesSemicolon", "()Z"⟩, 6), (⟨"AirIndex$TextReader", "readsSubstance", "(LAirIndex$Office;)Z"⟩, 6), (⟨"AirIndex$TextReader", "readsPoints", "(LAirIndex$Substance;)Z"⟩, 6), (⟨"AirIndex$TextReader", "readsSeries", "(LAirIndex$Office;)Z"⟩, 6), (⟨"AirIndex$TextReader", "readsReads", "(LAirIndex$Office;II)Z"⟩, 6), (⟨"AirIndex$TextReader", "isRead", "()Z"⟩, 6), (⟨"AirIndex", "canCorrect", "(IIII)Z"⟩, 5), (⟨"AirIndex", "touchedHours", "(IIII)I"⟩, 5), (⟨"AirIndex$History", "forgetOldest", "()V"⟩, 2), (⟨"AirIndex", "takeBack", "(LAirIndex$Act;)V"⟩, 5)]
theorem lw_r1 : ∀ q ∈ lw_privs_1, lw_okq q := List.forall_mem_cons.mpr ⟨lw_p0, List.forall_mem_cons.mpr ⟨lw_p1, List.forall_mem_cons.mpr ⟨lw_p2, List.forall_mem_cons.mpr ⟨lw_p3, List.forall_mem_cons.mpr ⟨lw_p4, List.forall_mem_cons.mpr ⟨lw_p5, List.forall_mem_cons.mpr ⟨lw_p6, List.forall_mem_cons.mpr ⟨lw_p7, List.forall_mem_cons.mpr ⟨lw_p8, List.forall_mem_cons.mpr ⟨lw_p9, List.forall_mem_cons.mpr ⟨lw_p10, List.forall_mem_cons.mpr ⟨lw_p11, List.forall_mem_cons.mpr ⟨lw_p12, List.forall_mem_cons.mpr ⟨lw_p13, List.forall_mem_cons.mpr ⟨lw_p14, List.forall_mem_cons.mpr ⟨lw_p15, fun _ h => absurd h List.not_mem_nil⟩⟩⟩⟩⟩⟩⟩⟩⟩⟩⟩⟩⟩⟩⟩⟩
theorem lw_p16 : lw_okq (⟨"AirIndexModel", "lays", "(I)V"⟩, 18) := ⟨⟨by decide +kernel, by decide +kernel⟩, List.mem_of_getElem? (i := 615) (by decide +kernel), List.mem_of_getElem? (i := 613) (by decide +kernel), List.mem_of_getElem? (i := 614) (by decide +kernel)⟩
theorem lw_p17 : lw_okq (⟨"AirIndexModel", "go", "()V"⟩, 18) := ⟨⟨by decide +kernel, by decide +kernel⟩, List.mem_of_getElem? (i := 615) (by decide +kernel), List.mem_of_getElem? (i := 685) (by decide +kernel), List.mem_of_getElem? (i := 686) (by decide +kernel)⟩
theorem lw_p18 : lw_okq (⟨"AirIndexModel", "tapeAt", "(I)I"⟩, 18) := ⟨⟨by decide +kernel, by decide +kernel⟩, List.mem_of_getElem? (i := 615) (by decide +kernel), List.mem_of_getElem? (i := 695) (by decide +kernel), List.mem_of_getElem? (i := 696) (by decide +kernel)⟩
theorem lw_p19 : lw_okq (⟨"AirIndexModel", "readWhole", "()Z"⟩, 18) := ⟨⟨by decide +kernel, by decide +kernel⟩, List.mem_of_getElem? (i := 615) (by decide +kernel), List.mem_of_getElem? (i := 701) (by decide +kernel), List.mem_of_getElem? (i := 702) (by decide +kernel)⟩
theorem lw_p20 : lw_okq (⟨"AirIndexModel", "readBands", "()Z"⟩, 18) := ⟨⟨by decide +kernel, by decide +kernel⟩, List.mem_of_getElem? (i := 615) (by decide +kernel), List.mem_of_getElem? (i := 705) (by decide +kernel), List.mem_of_getElem? (i := 706) (by decide +kernel)⟩
theorem lw_p21 : lw_okq (⟨"AirIndexModel", "isWord", "(J)Z"⟩, 18) := ⟨⟨by decide +kernel, by decide +kernel⟩, List.mem_of_getElem? (i := 615) (by decide +kernel), List.mem_of_getElem? (i := 717) (by decide +kernel), List.mem_of_getElem? (i := 718) (by decide +kernel)⟩
theorem lw_p22 : lw_okq (⟨"AirIndexModel", "bad", "(I)Z"⟩, 18) := ⟨⟨by decide +kernel, by decide +kernel⟩, List.mem_of_getElem? (i := 615) (by decide +kernel), List.mem_of_getElem? (i := 721) (by decide +kernel), List.mem_of_getElem? (i := 722) (by decide +kernel)⟩
theorem lw_p23 : lw_okq (⟨"AirIndexModel", "told", "(III)Z"⟩, 18) := ⟨⟨by decide +kernel, by decide +kernel⟩, List.mem_of_getElem? (i := 615) (by decide +kernel), List.mem_of_getElem? (i := 725) (by decide +kernel), List.mem_of_getElem? (i := 726) (by decide +kernel)⟩
theorem lw_p24 : lw_okq (⟨"AirIndexModel", "readEnd", "()Z"⟩, 18) := ⟨⟨by decide +kernel, by decide +kernel⟩, List.mem_of_getElem? (i := 615) (by decide +kernel), List.mem_of_getElem? (i := 732) (by decide +kernel), List.mem_of_getElem? (i := 733) (by decide +kernel)⟩
theorem lw_p25 : lw_okq (⟨"AirIndexModel", "readSubstance", "()Z"⟩, 18) := ⟨⟨by decide +kernel, by decide +kernel⟩, List.mem_of_getElem? (i := 615) (by decide +kernel), List.mem_of_getElem? (i := 739) (by decide +kernel), List.mem_of_getElem? (i := 740) (by decide +kernel)⟩
theorem lw_p26 : lw_okq (⟨"AirIndexModel", "isSubstance", "()Z"⟩, 18) := ⟨⟨by decide +kernel, by decide +kernel⟩, List.mem_of_getElem? (i := 615) (by decide +kernel), List.mem_of_getElem? (i := 743) (by decide +kernel), List.mem_of_getElem? (i := 744) (by decide +kernel)⟩
theorem lw_p27 : lw_okq (⟨"AirIndexModel", "readPoint", "(I)Z"⟩, 18) := ⟨⟨by decide +kernel, by decide +kernel⟩, List.mem_of_getElem? (i := 615) (by decide +kernel), List.mem_of_getElem? (i := 749) (by decide +kernel), List.mem_of_getElem? (i := 750) (by decide +kernel)⟩
theorem lw_p28 : lw_okq (⟨"AirIndexModel", "readStation", "()Z"⟩, 18) := ⟨⟨by decide +kernel, by decide +kernel⟩, List.mem_of_getElem? (i := 615) (by decide +kernel), List.mem_of_getElem? (i := 753) (by decide +kernel), List.mem_of_getElem? (i := 754) (by decide +kernel)⟩
theorem lw_p29 : lw_okq (⟨"AirIndexModel", "isStationWord", "()Z"⟩, 18) := ⟨⟨by decide +kernel, by decide +kernel⟩, List.mem_of_getElem? (i := 615) (by decide +kernel), List.mem_of_getElem? (i := 757) (by decide +kernel), List.mem_of_getElem? (i := 758) (by decide +kernel)⟩
theorem lw_p30 : lw_okq (⟨"AirIndexModel", "readSeries", "()Z"⟩, 18) := ⟨⟨by decide +kernel, by decide +kernel⟩, List.mem_of_getElem? (i := 615) (by decide +kernel), List.mem_of_getElem? (i := 762) (by decide +kernel), List.mem_of_getElem? (i := 763) (by decide +kernel)⟩
theorem lw_p31 : lw_okq (⟨"AirIndexModel", "readMany", "()I"⟩, 18) := ⟨⟨by decide +kernel, by decide +kernel⟩, List.mem_of_getElem? (i := 615) (by decide +kernel), List.mem_of_getElem? (i := 778) (by decide +kernel), List.mem_of_getElem? (i := 779) (by decide +kernel)⟩
def lw_privs_2 : List (MethodName × Nat) := [(⟨"AirIndexModel", "lays", "(I)V"⟩, 18), (⟨"AirIndexModel", "go", "()V"⟩, 18), (⟨"AirIndexModel", "tapeAt", "(I)I"⟩, 18), (⟨"AirIndexModel", "readWhole", "()Z"⟩, 18), (⟨"AirIndexModel", "readBands", "()Z"⟩, 18), (⟨"AirIndexModel", "isWord", "(J)Z"⟩, 18), (⟨"AirIndexModel", "bad", "(I)Z"⟩, 18), (⟨"AirIndexModel", "told", "(III)Z"⟩, 18), (⟨"AirIndexModel", "readEnd", "()Z"⟩, 18), (⟨"AirIndexModel", "readSubstance", "()Z"⟩, 18), (⟨"AirIndexModel", "isSubstance", "()Z"⟩, 18), (⟨"AirIndexModel", "readPoint", "(I)Z"⟩, 18), (⟨"AirIndexModel", "readStation", "()Z"⟩, 18), (⟨"AirIndexModel", "isStationWord", "()Z"⟩, 18), (⟨"AirIndexModel", "readSeries", "()Z"⟩, 18), (⟨"AirIndexModel", "readMany", "()I"⟩, 18)]
theorem lw_r2 : ∀ q ∈ lw_privs_2, lw_okq q := List.forall_mem_cons.mpr ⟨lw_p16, List.forall_mem_cons.mpr ⟨lw_p17, List.forall_mem_cons.mpr ⟨lw_p18, List.forall_mem_cons.mpr ⟨lw_p19, List.forall_mem_cons.mpr ⟨lw_p20, List.forall_mem_cons.mpr ⟨lw_p21, List.forall_mem_cons.mpr ⟨lw_p22, List.forall_mem_cons.mpr ⟨lw_p23, List.forall_mem_cons.mpr ⟨lw_p24, List.forall_mem_cons.mpr ⟨lw_p25, List.forall_mem_cons.mpr ⟨lw_p26, List.forall_mem_cons.mpr ⟨lw_p27, List.forall_mem_cons.mpr ⟨lw_p28, List.forall_mem_cons.mpr ⟨lw_p29, List.forall_mem_cons.mpr ⟨lw_p30, List.forall_mem_cons.mpr ⟨lw_p31, fun _ h => absurd h List.not_mem_nil⟩⟩⟩⟩⟩⟩⟩⟩⟩⟩⟩⟩⟩⟩⟩⟩
theorem lw_p32 : lw_okq (⟨"AirIndexModel", "are", "(III)Z"⟩, 18) := ⟨⟨by decide +kernel, by decide +kernel⟩, List.mem_of_getElem? (i := 615) (by decide +kernel), List.mem_of_getElem? (i := 786) (by decide +kernel), List.mem_of_getElem? (i := 787) (by decide +kernel)⟩
theorem lw_p33 : lw_okq (⟨"AirIndexModel", "isStation", "(I)Z"⟩, 18) := ⟨⟨by decide +kernel, by decide +kernel⟩, List.mem_of_getElem? (i := 615) (by decide +kernel), List.mem_of_getElem? (i := 790) (by decide +kernel), List.mem_of_getElem? (i := 791) (by decide +kernel)⟩
theorem lw_p34 : lw_okq (⟨"AirIndexModel", "isSubstance", "(I)Z"⟩, 18) := ⟨⟨by decide +kernel, by decide +kernel⟩, List.mem_of_getElem? (i := 615) (by decide +kernel), List.mem_of_getElem? (i := 794) (by decide +kernel), List.mem_of_getElem? (i := 795) (by decide +kernel)⟩
theorem lw_p35 : lw_okq (⟨"AirIndexModel", "isHour", "(I)Z"⟩, 18) := ⟨⟨by decide +kernel, by decide +kernel⟩, List.mem_of_getElem? (i := 615) (by decide +kernel), List.mem_of_getElem? (i := 798) (by decide +kernel), List.mem_of_getElem? (i := 799) (by decide +kernel)⟩
theorem lw_p36 : lw_okq (⟨"AirIndexModel", "readOf", "(III)I"⟩, 18) := ⟨⟨by decide +kernel, by decide +kernel⟩, List.mem_of_getElem? (i := 615) (by decide +kernel), List.mem_of_getElem? (i := 802) (by decide +kernel), List.mem_of_getElem? (i := 803) (by decide +kernel)⟩
theorem lw_p37 : lw_okq (⟨"AirIndexModel", "meanOf", "(III)I"⟩, 18) := ⟨⟨by decide +kernel, by decide +kernel⟩, List.mem_of_getElem? (i := 615) (by decide +kernel), List.mem_of_getElem? (i := 810) (by decide +kernel), List.mem_of_getElem? (i := 811) (by decide +kernel)⟩
theorem lw_p38 : lw_okq (⟨"AirIndexModel", "its", "(II)I"⟩, 18) := ⟨⟨by decide +kernel, by decide +kernel⟩, List.mem_of_getElem? (i := 615) (by decide +kernel), List.mem_of_getElem? (i := 814) (by decide +kernel), List.mem_of_getElem? (i := 815) (by decide +kernel)⟩
theorem lw_p39 : lw_okq (⟨"AirIndexModel", "scaleOf", "(II)I"⟩, 18) := ⟨⟨by decide +kernel, by decide +kernel⟩, List.mem_of_getElem? (i := 615) (by decide +kernel), List.mem_of_getElem? (i := 822) (by decide +kernel), List.mem_of_getElem? (i := 823) (by decide +kernel)⟩
theorem lw_p40 : lw_okq (⟨"AirIndexModel", "subOf", "(III)I"⟩, 18) := ⟨⟨by decide +kernel, by decide +kernel⟩, List.mem_of_getElem? (i := 615) (by decide +kernel), List.mem_of_getElem? (i := 834) (by decide +kernel), List.mem_of_getElem? (i := 835) (by decide +kernel)⟩
theorem lw_p41 : lw_okq (⟨"AirIndexModel", "indexOf", "(II)I"⟩, 18) := ⟨⟨by decide +kernel, by decide +kernel⟩, List.mem_of_getElem? (i := 615) (by decide +kernel), List.mem_of_getElem? (i := 842) (by decide +kernel), List.mem_of_getElem? (i := 843) (by decide +kernel)⟩
theorem lw_p42 : lw_okq (⟨"AirIndexModel", "rulingOf", "(II)I"⟩, 18) := ⟨⟨by decide +kernel, by decide +kernel⟩, List.mem_of_getElem? (i := 615) (by decide +kernel), List.mem_of_getElem? (i := 846) (by decide +kernel), List.mem_of_getElem? (i := 847) (by decide +kernel)⟩
theorem lw_p43 : lw_okq (⟨"AirIndexModel", "bandOf", "(I)I"⟩, 18) := ⟨⟨by decide +kernel, by decide +kernel⟩, List.mem_of_getElem? (i := 615) (by decide +kernel), List.mem_of_getElem? (i := 850) (by decide +kernel), List.mem_of_getElem? (i := 851) (by decide +kernel)⟩
theorem lw_p44 : lw_okq (⟨"AirIndexModel", "canCorrect", "(IIII)Z"⟩, 18) := ⟨⟨by decide +kernel, by decide +kernel⟩, List.mem_of_getElem? (i := 615) (by decide +kernel), List.mem_of_getElem? (i := 879) (by decide +kernel), List.mem_of_getElem? (i := 880) (by decide +kernel)⟩
theorem lw_p45 : lw_okq (⟨"AirIndexModel", "corrects", "(IIII)I"⟩, 18) := ⟨⟨by decide +kernel, by decide +kernel⟩, List.mem_of_getElem? (i := 615) (by decide +kernel), List.mem_of_getElem? (i := 883) (by decide +kernel), List.mem_of_getElem? (i := 884) (by decide +kernel)⟩
theorem lw_p46 : lw_okq (⟨"AirIndexModel", "snap", "()V"⟩, 18) := ⟨⟨by decide +kernel, by decide +kernel⟩, List.mem_of_getElem? (i := 615) (by decide +kernel), List.mem_of_getElem? (i := 891) (by decide +kernel), List.mem_of_getElem? (i := 892) (by decide +kernel)⟩
def lw_privs_3 : List (MethodName × Nat) := [(⟨"AirIndexModel", "are", "(III)Z"⟩, 18), (⟨"AirIndexModel", "isStation", "(I)Z"⟩, 18), (⟨"AirIndexModel", "isSubstance", "(I)Z"⟩, 18), (⟨"AirIndexModel", "isHour", "(I)Z"⟩, 18), (⟨"AirIndexModel", "readOf", "(III)I"⟩, 18), (⟨"AirIndexModel", "meanOf", "(III)I"⟩, 18), (⟨"AirIndexModel", "its", "(II)I"⟩, 18), (⟨"AirIndexModel", "scaleOf", "(II)I"⟩, 18), (⟨"AirIndexModel", "subOf", "(III)I"⟩, 18), (⟨"AirIndexModel", "indexOf", "(II)I"⟩, 18), (⟨"AirIndexModel", "rulingOf", "(II)I"⟩, 18), (⟨"AirIndexModel", "bandOf", "(I)I"⟩, 18), (⟨"AirIndexModel", "canCorrect", "(IIII)Z"⟩, 18), (⟨"AirIndexModel", "corrects", "(IIII)I"⟩, 18), (⟨"AirIndexModel", "snap", "()V"⟩, 18)]
theorem lw_r3 : ∀ q ∈ lw_privs_3, lw_okq q := List.forall_mem_cons.mpr ⟨lw_p32, List.forall_mem_cons.mpr ⟨lw_p33, List.forall_mem_cons.mpr ⟨lw_p34, List.forall_mem_cons.mpr ⟨lw_p35, List.forall_mem_cons.mpr ⟨lw_p36, List.forall_mem_cons.mpr ⟨lw_p37, List.forall_mem_cons.mpr ⟨lw_p38, List.forall_mem_cons.mpr ⟨lw_p39, List.forall_mem_cons.mpr ⟨lw_p40, List.forall_mem_cons.mpr ⟨lw_p41, List.forall_mem_cons.mpr ⟨lw_p42, List.forall_mem_cons.mpr ⟨lw_p43, List.forall_mem_cons.mpr ⟨lw_p44, List.forall_mem_cons.mpr ⟨lw_p45, List.forall_mem_cons.mpr ⟨lw_p46, fun _ h => absurd h List.not_mem_nil⟩⟩⟩⟩⟩⟩⟩⟩⟩⟩⟩⟩⟩⟩⟩
def lw_privs : List (MethodName × Nat) := lw_privs_1 ++ (lw_privs_2 ++ (lw_privs_3))
def lw_tbl : List Cond := k2_sels lw_privs ++ tables_1
theorem lw_privs_ok : ∀ q ∈ lw_privs, lw_okq q := by
  show ∀ q ∈ lw_privs_1 ++ (lw_privs_2 ++ (lw_privs_3)), lw_okq q
  exact List.forall_mem_append.mpr ⟨lw_r1, List.forall_mem_append.mpr ⟨lw_r2, lw_r3⟩⟩
/-- the streams that the claim lets the run draw from -/
abbrev lw_cs : List Choice := [Jvm.Choice.named "NaN.bits"]
theorem lw_bits : nanBits ∈ lw_cs := by first | decide | exact List.mem_cons_self | simp [lw_cs, nanBits]

def RX0 : String := "AirIndex$Act"
def TX0 : u_T := fun k => match k with
  | 0 => ("AirIndex$Act", "kind", "I", false)
  | 1 => ("AirIndex$Act", "station", "I", false)
  | 2 => ("AirIndex$Act", "substance", "I", false)
  | 3 => ("AirIndex$Act", "hour", "I", false)
  | 4 => ("AirIndex$Act", "before", "I", false)
  | _ => ("AirIndex$Act", "needBefore", "I", false)
def tyX0 : Nat → FieldType := fun k => match k with
  | 0 => .int
  | 1 => .int
  | 2 => .int
  | 3 => .int
  | 4 => .int
  | _ => .int
abbrev wsX00 : List Cond := u_ws RX0 TX0 6
theorem nmX0 : ∀ a, a < 6 → ∀ b, b < 6 → a ≠ b → (TX0 a).2.1 ≠ (TX0 b).2.1 := by decide +kernel
theorem tyX0_ok : ∀ k, k < 6 → parseFieldDescriptor (TX0 k).2.2.1 = some (tyX0 k) := by decide +kernel
abbrev cX0_init : ByteArray := prog_2_method_1_code
def yX0_init : MethodName := ⟨RX0, "<init>", "()V"⟩
def RX1 : String := "AirIndex$History"
def TX1 : u_T := fun k => match k with
  | 0 => ("AirIndex$History", "acts", "[LAirIndex$Act;", true)
  | _ => ("AirIndex$History", "count", "I", false)
def tyX1 : Nat → FieldType := fun k => match k with
  | 0 => .array (.object "AirIndex$Act")
  | _ => .int
abbrev wsX10 : List Cond := u_ws RX1 TX1 2
theorem nmX1 : ∀ a, a < 2 → ∀ b, b < 2 → a ≠ b → (TX1 a).2.1 ≠ (TX1 b).2.1 := by decide +kernel
theorem tyX1_ok : ∀ k, k < 2 → parseFieldDescriptor (TX1 k).2.2.1 = some (tyX1 k) := by decide +kernel
abbrev cX1_init : ByteArray := prog_3_method_1_code
def yX1_init : MethodName := ⟨RX1, "<init>", "()V"⟩
abbrev cX1_forgetAll : ByteArray := prog_3_method_2_code
def yX1_forgetAll : MethodName := ⟨RX1, "forgetAll", "()V"⟩
abbrev cX1_next : ByteArray := prog_3_method_3_code
def yX1_next : MethodName := ⟨RX1, "next", "(I)LAirIndex$Act;"⟩
abbrev cX1_takeLatest : ByteArray := prog_3_method_4_code
def yX1_takeLatest : MethodName := ⟨RX1, "takeLatest", "()LAirIndex$Act;"⟩
abbrev cX1_forgetOldest : ByteArray := prog_3_method_5_code
def yX1_forgetOldest : MethodName := ⟨RX1, "forgetOldest", "()V"⟩
def RX2 : String := "AirIndex$Office"
def TX2 : u_T := fun k => match k with
  | 0 => ("AirIndex$Office", "bands", "[I", true)
  | 1 => ("AirIndex$Office", "substances", "[LAirIndex$Substance;", true)
  | 2 => ("AirIndex$Office", "districts", "[I", true)
  | 3 => ("AirIndex$Office", "reads", "[[I", true)
  | 4 => ("AirIndex$Office", "share", "I", false)
  | 5 => ("AirIndex$Office", "substanceCount", "I", false)
  | 6 => ("AirIndex$Office", "stationCount", "I", false)
  | _ => ("AirIndex$Office", "hours", "I", false)
def tyX2 : Nat → FieldType := fun k => match k with
  | 0 => .array .int
  | 1 => .array (.object "AirIndex$Substance")
  | 2 => .array .int
  | 3 => .array (.array .int)
  | 4 => .int
  | 5 => .int
  | 6 => .int
  | _ => .int
abbrev wsX20 : List Cond := u_ws RX2 TX2 8
theorem nmX2 : ∀ a, a < 8 → ∀ b, b < 8 → a ≠ b → (TX2 a).2.1 ≠ (TX2 b).2.1 := by decide +kernel
theorem tyX2_ok : ∀ k, k < 8 → parseFieldDescriptor (TX2 k).2.2.1 = some (tyX2 k) := by decide +kernel
abbrev cX2_init : ByteArray := prog_4_method_1_code
def yX2_init : MethodName := ⟨RX2, "<init>", "()V"⟩
abbrev cX2_clear : ByteArray := prog_4_method_2_code
def yX2_clear : MethodName := ⟨RX2, "clear", "()V"⟩
abbrev cX2_tellFirst : ByteArray := prog_4_method_3_code
def yX2_tellFirst : MethodName := ⟨RX2, "tellFirst", "()V"⟩
abbrev cX2_putBand : ByteArray := prog_4_method_4_code
def yX2_putBand : MethodName := ⟨RX2, "putBand", "(II)V"⟩
abbrev cX2_addSubstance : ByteArray := prog_4_method_5_code
def yX2_addSubstance : MethodName := ⟨RX2, "addSubstance", "(II)LAirIndex$Substance;"⟩
abbrev cX2_addStation : ByteArray := prog_4_method_6_code
def yX2_addStation : MethodName := ⟨RX2, "addStation", "(I)V"⟩
abbrev cX2_hasStation : ByteArray := prog_4_method_7_code
def yX2_hasStation : MethodName := ⟨RX2, "hasStation", "(I)Z"⟩
abbrev cX2_hasHour : ByteArray := prog_4_method_8_code
def yX2_hasHour : MethodName := ⟨RX2, "hasHour", "(I)Z"⟩
abbrev cX2_hasPlace : ByteArray := prog_4_method_9_code
def yX2_hasPlace : MethodName := ⟨RX2, "hasPlace", "(III)Z"⟩
abbrev cX2_substanceAt : ByteArray := prog_4_method_10_code
def yX2_substanceAt : MethodName := ⟨RX2, "substanceAt", "(I)LAirIndex$Substance;"⟩
abbrev cX2_putRead : ByteArray := prog_4_method_11_code
def yX2_putRead : MethodName := ⟨RX2, "putRead", "(IIII)V"⟩
abbrev cX2_readAt : ByteArray := prog_4_method_12_code
def yX2_readAt : MethodName := ⟨RX2, "readAt", "(III)I"⟩
abbrev cX2_countReads : ByteArray := prog_4_method_13_code
def yX2_countReads : MethodName := ⟨RX2, "countReads", "()I"⟩
abbrev cX2_meanAt : ByteArray := prog_4_method_14_code
def yX2_meanAt : MethodName := ⟨RX2, "meanAt", "(III)I"⟩
abbrev cX2_subAt : ByteArray := prog_4_method_15_code
def yX2_subAt : MethodName := ⟨RX2, "subAt", "(III)I"⟩
abbrev cX2_indexAt : ByteArray := prog_4_method_16_code
def yX2_indexAt : MethodName := ⟨RX2, "indexAt", "(II)I"⟩
abbrev cX2_rulingAt : ByteArray := prog_4_method_17_code
def yX2_rulingAt : MethodName := ⟨RX2, "rulingAt", "(II)I"⟩
abbrev cX2_worstStationAt : ByteArray := prog_4_method_18_code
def yX2_worstStationAt : MethodName := ⟨RX2, "worstStationAt", "(II)I"⟩
abbrev cX2_countIndexed : ByteArray := prog_4_method_19_code
def yX2_countIndexed : MethodName := ⟨RX2, "countIndexed", "(II)I"⟩
abbrev cX2_bandStart : ByteArray := prog_4_method_20_code
def yX2_bandStart : MethodName := ⟨RX2, "bandStart", "(I)I"⟩
abbrev cX2_bandOf : ByteArray := prog_4_method_21_code
def yX2_bandOf : MethodName := ⟨RX2, "bandOf", "(I)I"⟩
abbrev cX2_forecastBehind : ByteArray := prog_4_method_22_code
def yX2_forecastBehind : MethodName := ⟨RX2, "forecastBehind", "(III)I"⟩
def RX3 : String := "AirIndex$Substance"
def TX3 : u_T := fun k => match k with
  | 0 => ("AirIndex$Substance", "levels", "[I", true)
  | 1 => ("AirIndex$Substance", "indexes", "[I", true)
  | 2 => ("AirIndex$Substance", "points", "I", false)
  | 3 => ("AirIndex$Substance", "window", "I", false)
  | _ => ("AirIndex$Substance", "need", "I", false)
def tyX3 : Nat → FieldType := fun k => match k with
  | 0 => .array .int
  | 1 => .array .int
  | 2 => .int
  | 3 => .int
  | _ => .int
abbrev wsX30 : List Cond := u_ws RX3 TX3 5
theorem nmX3 : ∀ a, a < 5 → ∀ b, b < 5 → a ≠ b → (TX3 a).2.1 ≠ (TX3 b).2.1 := by decide +kernel
theorem tyX3_ok : ∀ k, k < 5 → parseFieldDescriptor (TX3 k).2.2.1 = some (tyX3 k) := by decide +kernel
abbrev cX3_init : ByteArray := prog_5_method_1_code
def yX3_init : MethodName := ⟨RX3, "<init>", "()V"⟩
abbrev cX3_addPoint : ByteArray := prog_5_method_2_code
def yX3_addPoint : MethodName := ⟨RX3, "addPoint", "(II)V"⟩
abbrev cX3_subAtLevel : ByteArray := prog_5_method_3_code
def yX3_subAtLevel : MethodName := ⟨RX3, "subAtLevel", "(I)I"⟩
def RX4 : String := "AirIndex$Tape"
def TX4 : u_T := fun k => match k with
  | 0 => ("AirIndex$Tape", "bytes", "[B", true)
  | _ => ("AirIndex$Tape", "length", "I", false)
def tyX4 : Nat → FieldType := fun k => match k with
  | 0 => .array .byte
  | _ => .int
abbrev wsX40 : List Cond := u_ws RX4 TX4 2
theorem nmX4 : ∀ a, a < 2 → ∀ b, b < 2 → a ≠ b → (TX4 a).2.1 ≠ (TX4 b).2.1 := by decide +kernel
theorem tyX4_ok : ∀ k, k < 2 → parseFieldDescriptor (TX4 k).2.2.1 = some (tyX4 k) := by decide +kernel
abbrev cX4_init : ByteArray := prog_6_method_1_code
def yX4_init : MethodName := ⟨RX4, "<init>", "()V"⟩
abbrev cX4_hasRoom : ByteArray := prog_6_method_2_code
def yX4_hasRoom : MethodName := ⟨RX4, "hasRoom", "(I)Z"⟩
abbrev cX4_append : ByteArray := prog_6_method_3_code
def yX4_append : MethodName := ⟨RX4, "append", "(I)V"⟩
abbrev cX4_cutTo : ByteArray := prog_6_method_4_code
def yX4_cutTo : MethodName := ⟨RX4, "cutTo", "(I)Z"⟩
abbrev cX4_byteAt : ByteArray := prog_6_method_5_code
def yX4_byteAt : MethodName := ⟨RX4, "byteAt", "(I)I"⟩
def RX5 : String := "AirIndex$TextReader"
def TX5 : u_T := fun k => match k with
  | 0 => ("AirIndex$TextReader", "token", "LAirIndex$Token;", true)
  | 1 => ("AirIndex$TextReader", "lines", "I", false)
  | 2 => ("AirIndex$TextReader", "faultKind", "I", false)
  | 3 => ("AirIndex$TextReader", "faultPlace", "I", false)
  | 4 => ("AirIndex$TextReader", "taken", "I", false)
  | _ => ("AirIndex$TextReader", "toldSeries", "I", false)
def tyX5 : Nat → FieldType := fun k => match k with
  | 0 => .object "AirIndex$Token"
  | 1 => .int
  | 2 => .int
  | 3 => .int
  | 4 => .int
  | _ => .int
abbrev wsX50 : List Cond := u_ws RX5 TX5 6
theorem nmX5 : ∀ a, a < 6 → ∀ b, b < 6 → a ≠ b → (TX5 a).2.1 ≠ (TX5 b).2.1 := by decide +kernel
theorem tyX5_ok : ∀ k, k < 6 → parseFieldDescriptor (TX5 k).2.2.1 = some (tyX5 k) := by decide +kernel
abbrev cX5_init : ByteArray := prog_7_method_1_code
def yX5_init : MethodName := ⟨RX5, "<init>", "(LAirIndex$Tape;)V"⟩
abbrev cX5_begin : ByteArray := prog_7_method_2_code
def yX5_begin : MethodName := ⟨RX5, "begin", "()V"⟩
abbrev cX5_readsBands : ByteArray := prog_7_method_3_code
def yX5_readsBands : MethodName := ⟨RX5, "readsBands", "(LAirIndex$Office;)Z"⟩
abbrev cX5_readsShare : ByteArray := prog_7_method_4_code
def yX5_readsShare : MethodName := ⟨RX5, "readsShare", "(LAirIndex$Office;)Z"⟩
abbrev cX5_readsSubstances : ByteArray := prog_7_method_5_code
def yX5_readsSubstances : MethodName := ⟨RX5, "readsSubstances", "(LAirIndex$Office;)Z"⟩
abbrev cX5_readsSubstance : ByteArray := prog_7_method_6_code
def yX5_readsSubstance : MethodName := ⟨RX5, "readsSubstance", "(LAirIndex$Office;)Z"⟩
abbrev cX5_readsPoints : ByteArray := prog_7_method_7_code
def yX5_readsPoints : MethodName := ⟨RX5, "readsPoints", "(LAirIndex$Substance;)Z"⟩
abbrev cX5_readsStations : ByteArray := prog_7_method_8_code
def yX5_readsStations : MethodName := ⟨RX5, "readsStations", "(LAirIndex$Office;)Z"⟩
abbrev cX5_readsAllSeries : ByteArray := prog_7_method_9_code
def yX5_readsAllSeries : MethodName := ⟨RX5, "readsAllSeries", "(LAirIndex$Office;)Z"⟩
abbrev cX5_readsSeries : ByteArray := prog_7_method_10_code
def yX5_readsSeries : MethodName := ⟨RX5, "readsSeries", "(LAirIndex$Office;)Z"⟩
abbrev cX5_readsReads : ByteArray := prog_7_method_11_code
def yX5_readsReads : MethodName := ⟨RX5, "readsReads", "(LAirIndex$Office;II)Z"⟩
abbrev cX5_isRead : ByteArray := prog_7_method_12_code
def yX5_isRead : MethodName := ⟨RX5, "isRead", "()Z"⟩
abbrev cX5_takesWord : ByteArray := prog_7_method_13_code
def yX5_takesWord : MethodName := ⟨RX5, "takesWord", "(Ljava/lang/String;)Z"⟩
abbrev cX5_takesNumber : ByteArray := prog_7_method_14_code
def yX5_takesNumber : MethodName := ⟨RX5, "takesNumber", "(II)Z"⟩
abbrev cX5_isNumberWithin : ByteArray := prog_7_method_15_code
def yX5_isNumberWithin : MethodName := ⟨RX5, "isNumberWithin", "(II)Z"⟩
abbrev cX5_takesSemicolon : ByteArray := prog_7_method_16_code
def yX5_takesSemicolon : MethodName := ⟨RX5, "takesSemicolon", "()Z"⟩
abbrev cX5_refuses : ByteArray := prog_7_method_17_code
def yX5_refuses : MethodName := ⟨RX5, "refuses", "(I)Z"⟩
def RX6 : String := "AirIndex$Token"
def TX6 : u_T := fun k => match k with
  | 0 => ("AirIndex$Token", "tape", "LAirIndex$Tape;", true)
  | 1 => ("AirIndex$Token", "kind", "I", false)
  | 2 => ("AirIndex$Token", "start", "I", false)
  | 3 => ("AirIndex$Token", "behind", "I", false)
  | _ => ("AirIndex$Token", "number", "I", false)
def tyX6 : Nat → FieldType := fun k => match k with
  | 0 => .object "AirIndex$Tape"
  | 1 => .int
  | 2 => .int
  | 3 => .int
  | _ => .int
abbrev wsX60 : List Cond := u_ws RX6 TX6 5
theorem nmX6 : ∀ a, a < 5 → ∀ b, b < 5 → a ≠ b → (TX6 a).2.1 ≠ (TX6 b).2.1 := by decide +kernel
theorem tyX6_ok : ∀ k, k < 5 → parseFieldDescriptor (TX6 k).2.2.1 = some (tyX6 k) := by decide +kernel
abbrev cX6_init : ByteArray := prog_8_method_1_code
def yX6_init : MethodName := ⟨RX6, "<init>", "(LAirIndex$Tape;)V"⟩
abbrev cX6_moveToFirst : ByteArray := prog_8_method_2_code
def yX6_moveToFirst : MethodName := ⟨RX6, "moveToFirst", "()V"⟩
abbrev cX6_moveToNext : ByteArray := prog_8_method_3_code
def yX6_moveToNext : MethodName := ⟨RX6, "moveToNext", "()V"⟩
abbrev cX6_isWord : ByteArray := prog_8_method_4_code
def yX6_isWord : MethodName := ⟨RX6, "isWord", "(Ljava/lang/String;)Z"⟩
abbrev cX6_skipBlanks : ByteArray := prog_8_method_5_code
def yX6_skipBlanks : MethodName := ⟨RX6, "skipBlanks", "()V"⟩
abbrev cX6_scanRun : ByteArray := prog_8_method_6_code
def yX6_scanRun : MethodName := ⟨RX6, "scanRun", "()V"⟩
def RX7 : String := "AirIndex"
def TX7 : u_T := fun k => match k with
  | 0 => ("AirIndex", "tape", "LAirIndex$Tape;", true)
  | 1 => ("AirIndex", "reader", "LAirIndex$TextReader;", true)
  | 2 => ("AirIndex", "history", "LAirIndex$History;", true)
  | 3 => ("AirIndex", "office", "LAirIndex$Office;", false)
  | _ => ("AirIndex", "draft", "LAirIndex$Office;", false)
def tyX7 : Nat → FieldType := fun k => match k with
  | 0 => .object "AirIndex$Tape"
  | 1 => .object "AirIndex$TextReader"
  | 2 => .object "AirIndex$History"
  | 3 => .object "AirIndex$Office"
  | _ => .object "AirIndex$Office"
abbrev wsX70 : List Cond := u_ws RX7 TX7 5
theorem nmX7 : ∀ a, a < 5 → ∀ b, b < 5 → a ≠ b → (TX7 a).2.1 ≠ (TX7 b).2.1 := by decide +kernel
theorem tyX7_ok : ∀ k, k < 5 → parseFieldDescriptor (TX7 k).2.2.1 = some (tyX7 k) := by decide +kernel
abbrev cX7_init : ByteArray := prog_1_method_1_code
def yX7_init : MethodName := ⟨RX7, "<init>", "()V"⟩
abbrev cX7_feed : ByteArray := prog_1_method_2_code
def yX7_feed : MethodName := ⟨RX7, "feed", "(IIIII)I"⟩
abbrev cX7_end : ByteArray := prog_1_method_3_code
def yX7_end : MethodName := ⟨RX7, "end", "(I)Z"⟩
abbrev cX7_text : ByteArray := prog_1_method_4_code
def yX7_text : MethodName := ⟨RX7, "text", "()I"⟩
abbrev cX7_fault : ByteArray := prog_1_method_5_code
def yX7_fault : MethodName := ⟨RX7, "fault", "()I"⟩
abbrev cX7_now : ByteArray := prog_1_method_6_code
def yX7_now : MethodName := ⟨RX7, "now", "(I)I"⟩
abbrev cX7_read : ByteArray := prog_1_method_7_code
def yX7_read : MethodName := ⟨RX7, "read", "(III)I"⟩
abbrev cX7_mean : ByteArray := prog_1_method_8_code
def yX7_mean : MethodName := ⟨RX7, "mean", "(III)I"⟩
abbrev cX7_scale : ByteArray := prog_1_method_9_code
def yX7_scale : MethodName := ⟨RX7, "scale", "(II)I"⟩
abbrev cX7_back : ByteArray := prog_1_method_10_code
def yX7_back : MethodName := ⟨RX7, "back", "(II)I"⟩
abbrev cX7_sub : ByteArray := prog_1_method_11_code
def yX7_sub : MethodName := ⟨RX7, "sub", "(III)I"⟩
abbrev cX7_index : ByteArray := prog_1_method_12_code
def yX7_index : MethodName := ⟨RX7, "index", "(III)I"⟩
abbrev cX7_district : ByteArray := prog_1_method_13_code
def yX7_district : MethodName := ⟨RX7, "district", "(III)I"⟩
abbrev cX7_lasts : ByteArray := prog_1_method_14_code
def yX7_lasts : MethodName := ⟨RX7, "lasts", "(III)I"⟩
abbrev cX7_worst : ByteArray := prog_1_method_15_code
def yX7_worst : MethodName := ⟨RX7, "worst", "(III)I"⟩
abbrev cX7_forecast : ByteArray := prog_1_method_16_code
def yX7_forecast : MethodName := ⟨RX7, "forecast", "(III)I"⟩
abbrev cX7_keeps : ByteArray := prog_1_method_17_code
def yX7_keeps : MethodName := ⟨RX7, "keeps", "(III)I"⟩
abbrev cX7_touches : ByteArray := prog_1_method_18_code
def yX7_touches : MethodName := ⟨RX7, "touches", "(IIII)I"⟩
abbrev cX7_correct : ByteArray := prog_1_method_19_code
def yX7_correct : MethodName := ⟨RX7, "correct", "(IIII)I"⟩
abbrev cX7_pass : ByteArray := prog_1_method_20_code
def yX7_pass : MethodName := ⟨RX7, "pass", "(I)I"⟩
abbrev cX7_smooth : ByteArray := prog_1_method_21_code
def yX7_smooth : MethodName := ⟨RX7, "smooth", "(I)I"⟩
abbrev cX7_window : ByteArray := prog_1_method_22_code
def yX7_window : MethodName := ⟨RX7, "window", "(III)Z"⟩
abbrev cX7_undo : ByteArray := prog_1_method_23_code
def yX7_undo : MethodName := ⟨RX7, "undo", "()I"⟩
abbrev cX7_takeBack : ByteArray := prog_1_method_24_code
def yX7_takeBack : MethodName := ⟨RX7, "takeBack", "(LAirIndex$Act;)V"⟩
abbrev cX7_canCorrect : ByteArray := prog_1_method_25_code
def yX7_canCorrect : MethodName := ⟨RX7, "canCorrect", "(IIII)Z"⟩
abbrev cX7_touchedHours : ByteArray := prog_1_method_26_code
def yX7_touchedHours : MethodName := ⟨RX7, "touchedHours", "(IIII)I"⟩
def RX8 : String := "AirIndexModel"
def TX8 : u_T := fun k => match k with
  | 0 => ("AirIndexModel", "thrown", "I", false)
  | 1 => ("AirIndexModel", "tape", "[I", true)
  | 2 => ("AirIndexModel", "taped", "I", false)
  | 3 => ("AirIndexModel", "size", "I", false)
  | 4 => ("AirIndexModel", "to", "I", false)
  | 5 => ("AirIndexModel", "from", "I", false)
  | 6 => ("AirIndexModel", "sort", "I", false)
  | 7 => ("AirIndexModel", "number", "I", false)
  | 8 => ("AirIndexModel", "fault", "I", false)
  | 9 => ("AirIndexModel", "place", "I", false)
  | 10 => ("AirIndexModel", "word", "J", false)
  | 11 => ("AirIndexModel", "now", "[I", true)
  | 12 => ("AirIndexModel", "read", "[I", true)
  | 13 => ("AirIndexModel", "snaps", "[I", true)
  | 14 => ("AirIndexModel", "snapMany", "I", false)
  | 15 => ("AirIndexModel", "told", "I", false)
  | 16 => ("AirIndexModel", "lines", "I", false)
  | _ => ("AirIndexModel", "before", "[I", true)
def tyX8 : Nat → FieldType := fun k => match k with
  | 0 => .int
  | 1 => .array .int
  | 2 => .int
  | 3 => .int
  | 4 => .int
  | 5 => .int
  | 6 => .int
  | 7 => .int
  | 8 => .int
  | 9 => .int
  | 10 => .long
  | 11 => .array .int
  | 12 => .array .int
  | 13 => .array .int
  | 14 => .int
  | 15 => .int
  | 16 => .int
  | _ => .array .int
abbrev wsX80 : List Cond := u_ws RX8 TX8 18
theorem nmX8 : ∀ a, a < 18 → ∀ b, b < 18 → a ≠ b → (TX8 a).2.1 ≠ (TX8 b).2.1 := by decide +kernel
theorem tyX8_ok : ∀ k, k < 18 → parseFieldDescriptor (TX8 k).2.2.1 = some (tyX8 k) := by decide +kernel
abbrev cX8_isIn : ByteArray := prog_10_method_2_code
def yX8_isIn : MethodName := ⟨RX8, "isIn", "(III)Z"⟩
abbrev cX8_lays : ByteArray := prog_10_method_3_code
def yX8_lays : MethodName := ⟨RX8, "lays", "(I)V"⟩
abbrev cX8_feed : ByteArray := prog_10_method_4_code
def yX8_feed : MethodName := ⟨RX8, "feed", "(IIIII)I"⟩
abbrev cX8_end : ByteArray := prog_10_method_5_code
def yX8_end : MethodName := ⟨RX8, "end", "(I)Z"⟩
abbrev cX8_tapeAt : ByteArray := prog_10_method_6_code
def yX8_tapeAt : MethodName := ⟨RX8, "tapeAt", "(I)I"⟩
abbrev cX8_isDigit : ByteArray := prog_10_method_7_code
def yX8_isDigit : MethodName := ⟨RX8, "isDigit", "(I)Z"⟩
abbrev cX8_isLetter : ByteArray := prog_10_method_8_code
def yX8_isLetter : MethodName := ⟨RX8, "isLetter", "(I)Z"⟩
abbrev cX8_go : ByteArray := prog_10_method_9_code
def yX8_go : MethodName := ⟨RX8, "go", "()V"⟩
abbrev cX8_two : ByteArray := prog_10_method_10_code
def yX8_two : MethodName := ⟨RX8, "two", "(II)J"⟩
abbrev cX8_four : ByteArray := prog_10_method_11_code
def yX8_four : MethodName := ⟨RX8, "four", "(IIII)J"⟩
abbrev cX8_six : ByteArray := prog_10_method_12_code
def yX8_six : MethodName := ⟨RX8, "six", "(IIIIII)J"⟩
abbrev cX8_isWord : ByteArray := prog_10_method_13_code
def yX8_isWord : MethodName := ⟨RX8, "isWord", "(J)Z"⟩
abbrev cX8_bad : ByteArray := prog_10_method_14_code
def yX8_bad : MethodName := ⟨RX8, "bad", "(I)Z"⟩
abbrev cX8_init : ByteArray := prog_10_method_15_code
def yX8_init : MethodName := ⟨RX8, "<init>", "()V"⟩
abbrev cX8_told : ByteArray := prog_10_method_16_code
def yX8_told : MethodName := ⟨RX8, "told", "(III)Z"⟩
abbrev cX8_readEnd : ByteArray := prog_10_method_17_code
def yX8_readEnd : MethodName := ⟨RX8, "readEnd", "()Z"⟩
abbrev cX8_readBands : ByteArray := prog_10_method_18_code
def yX8_readBands : MethodName := ⟨RX8, "readBands", "()Z"⟩
abbrev cX8_isSubstance : ByteArray := prog_10_method_19_code
def yX8_isSubstance : MethodName := ⟨RX8, "isSubstance", "()Z"⟩
abbrev cX8_isStationWord : ByteArray := prog_10_method_20_code
def yX8_isStationWord : MethodName := ⟨RX8, "isStationWord", "()Z"⟩
abbrev cX8_readPoint : ByteArray := prog_10_method_21_code
def yX8_readPoint : MethodName := ⟨RX8, "readPoint", "(I)Z"⟩
abbrev cX8_readSubstance : ByteArray := prog_10_method_22_code
def yX8_readSubstance : MethodName := ⟨RX8, "readSubstance", "()Z"⟩
abbrev cX8_readStation : ByteArray := prog_10_method_23_code
def yX8_readStation : MethodName := ⟨RX8, "readStation", "()Z"⟩
abbrev cX8_at : ByteArray := prog_10_method_24_code
def yX8_at : MethodName := ⟨RX8, "at", "(III)I"⟩
abbrev cX8_readSeries : ByteArray := prog_10_method_25_code
def yX8_readSeries : MethodName := ⟨RX8, "readSeries", "()Z"⟩
abbrev cX8_readWhole : ByteArray := prog_10_method_26_code
def yX8_readWhole : MethodName := ⟨RX8, "readWhole", "()Z"⟩
abbrev cX8_text : ByteArray := prog_10_method_27_code
def yX8_text : MethodName := ⟨RX8, "text", "()I"⟩
abbrev cX8_fault : ByteArray := prog_10_method_28_code
def yX8_fault : MethodName := ⟨RX8, "fault", "()I"⟩
abbrev cX8_isStation : ByteArray := prog_10_method_29_code
def yX8_isStation : MethodName := ⟨RX8, "isStation", "(I)Z"⟩
abbrev cX8_isSubstance_ : ByteArray := prog_10_method_30_code
def yX8_isSubstance_ : MethodName := ⟨RX8, "isSubstance", "(I)Z"⟩
abbrev cX8_isHour : ByteArray := prog_10_method_31_code
def yX8_isHour : MethodName := ⟨RX8, "isHour", "(I)Z"⟩
abbrev cX8_are : ByteArray := prog_10_method_32_code
def yX8_are : MethodName := ⟨RX8, "are", "(III)Z"⟩
abbrev cX8_its : ByteArray := prog_10_method_33_code
def yX8_its : MethodName := ⟨RX8, "its", "(II)I"⟩
abbrev cX8_readOf : ByteArray := prog_10_method_34_code
def yX8_readOf : MethodName := ⟨RX8, "readOf", "(III)I"⟩
abbrev cX8_meanOf : ByteArray := prog_10_method_35_code
def yX8_meanOf : MethodName := ⟨RX8, "meanOf", "(III)I"⟩
abbrev cX8_scaleOf : ByteArray := prog_10_method_36_code
def yX8_scaleOf : MethodName := ⟨RX8, "scaleOf", "(II)I"⟩
abbrev cX8_subOf : ByteArray := prog_10_method_37_code
def yX8_subOf : MethodName := ⟨RX8, "subOf", "(III)I"⟩
abbrev cX8_rulingOf : ByteArray := prog_10_method_38_code
def yX8_rulingOf : MethodName := ⟨RX8, "rulingOf", "(II)I"⟩
abbrev cX8_indexOf : ByteArray := prog_10_method_39_code
def yX8_indexOf : MethodName := ⟨RX8, "indexOf", "(II)I"⟩
abbrev cX8_bandOf : ByteArray := prog_10_method_40_code
def yX8_bandOf : MethodName := ⟨RX8, "bandOf", "(I)I"⟩
abbrev cX8_readMany : ByteArray := prog_10_method_41_code
def yX8_readMany : MethodName := ⟨RX8, "readMany", "()I"⟩
abbrev cX8_now : ByteArray := prog_10_method_42_code
def yX8_now : MethodName := ⟨RX8, "now", "(I)I"⟩
abbrev cX8_read : ByteArray := prog_10_method_43_code
def yX8_read : MethodName := ⟨RX8, "read", "(III)I"⟩
abbrev cX8_mean : ByteArray := prog_10_method_44_code
def yX8_mean : MethodName := ⟨RX8, "mean", "(III)I"⟩
abbrev cX8_scale : ByteArray := prog_10_method_45_code
def yX8_scale : MethodName := ⟨RX8, "scale", "(II)I"⟩
abbrev cX8_back : ByteArray := prog_10_method_46_code
def yX8_back : MethodName := ⟨RX8, "back", "(II)I"⟩
abbrev cX8_sub : ByteArray := prog_10_method_47_code
def yX8_sub : MethodName := ⟨RX8, "sub", "(III)I"⟩
abbrev cX8_index : ByteArray := prog_10_method_48_code
def yX8_index : MethodName := ⟨RX8, "index", "(III)I"⟩
abbrev cX8_district : ByteArray := prog_10_method_49_code
def yX8_district : MethodName := ⟨RX8, "district", "(III)I"⟩
abbrev cX8_lasts : ByteArray := prog_10_method_50_code
def yX8_lasts : MethodName := ⟨RX8, "lasts", "(III)I"⟩
abbrev cX8_worst : ByteArray := prog_10_method_51_code
def yX8_worst : MethodName := ⟨RX8, "worst", "(III)I"⟩
abbrev cX8_forecast : ByteArray := prog_10_method_52_code
def yX8_forecast : MethodName := ⟨RX8, "forecast", "(III)I"⟩
abbrev cX8_keeps : ByteArray := prog_10_method_53_code
def yX8_keeps : MethodName := ⟨RX8, "keeps", "(III)I"⟩
abbrev cX8_canCorrect : ByteArray := prog_10_method_54_code
def yX8_canCorrect : MethodName := ⟨RX8, "canCorrect", "(IIII)Z"⟩
abbrev cX8_corrects : ByteArray := prog_10_method_55_code
def yX8_corrects : MethodName := ⟨RX8, "corrects", "(IIII)I"⟩
abbrev cX8_touches : ByteArray := prog_10_method_56_code
def yX8_touches : MethodName := ⟨RX8, "touches", "(IIII)I"⟩
abbrev cX8_snap : ByteArray := prog_10_method_57_code
def yX8_snap : MethodName := ⟨RX8, "snap", "()V"⟩
abbrev cX8_correct : ByteArray := prog_10_method_58_code
def yX8_correct : MethodName := ⟨RX8, "correct", "(IIII)I"⟩
abbrev cX8_pass : ByteArray := prog_10_method_59_code
def yX8_pass : MethodName := ⟨RX8, "pass", "(I)I"⟩
abbrev cX8_smooth : ByteArray := prog_10_method_60_code
def yX8_smooth : MethodName := ⟨RX8, "smooth", "(I)I"⟩
abbrev cX8_window : ByteArray := prog_10_method_61_code
def yX8_window : MethodName := ⟨RX8, "window", "(III)Z"⟩
abbrev cX8_undo : ByteArray := prog_10_method_62_code
def yX8_undo : MethodName := ⟨RX8, "undo", "()I"⟩
def RJ6 : String := "java/lang/Integer"
def TJ6 : u_T := fun k => match k with
  | _ => ("", "", "", false)
def tyJ6 : Nat → FieldType := fun k => match k with
  | _ => .int
abbrev wsJ60 : List Cond := u_ws RJ6 TJ6 0
theorem nmJ6 : ∀ a, a < 0 → ∀ b, b < 0 → a ≠ b → (TJ6 a).2.1 ≠ (TJ6 b).2.1 := by decide +kernel
theorem tyJ6_ok : ∀ k, k < 0 → parseFieldDescriptor (TJ6 k).2.2.1 = some (tyJ6 k) := by decide +kernel
abbrev cJ6_bitCount_0f7a4 : ByteArray := prog_11_method_49_code
def yJ6_bitCount_0f7a4 : MethodName := ⟨RJ6, "bitCount", "(I)I"⟩
def RJ9 : String := "java/lang/Math"
def TJ9 : u_T := fun k => match k with
  | _ => ("", "", "", false)
def tyJ9 : Nat → FieldType := fun k => match k with
  | _ => .int
abbrev wsJ90 : List Cond := u_ws RJ9 TJ9 0
theorem nmJ9 : ∀ a, a < 0 → ∀ b, b < 0 → a ≠ b → (TJ9 a).2.1 ≠ (TJ9 b).2.1 := by decide +kernel
theorem tyJ9_ok : ∀ k, k < 0 → parseFieldDescriptor (TJ9 k).2.2.1 = some (tyJ9 k) := by decide +kernel
abbrev cJ9_max_7cf53 : ByteArray := prog_12_method_65_code
def yJ9_max_7cf53 : MethodName := ⟨RJ9, "max", "(II)I"⟩
abbrev cJ9_min_7cf53 : ByteArray := prog_12_method_69_code
def yJ9_min_7cf53 : MethodName := ⟨RJ9, "min", "(II)I"⟩
def RJ0 : String := "java/lang/String"
def TJ0 : u_T := fun k => match k with
  | _ => ("", "", "", false)
def tyJ0 : Nat → FieldType := fun k => match k with
  | _ => .int
abbrev wsJ00 : List Cond := u_ws RJ0 TJ0 0
theorem nmJ0 : ∀ a, a < 0 → ∀ b, b < 0 → a ≠ b → (TJ0 a).2.1 ≠ (TJ0 b).2.1 := by decide +kernel
theorem tyJ0_ok : ∀ k, k < 0 → parseFieldDescriptor (TJ0 k).2.2.1 = some (tyJ0 k) := by decide +kernel
abbrev cJ0_length_8abf5 : ByteArray := prog_13_method_54_code
def yJ0_length_8abf5 : MethodName := ⟨RJ0, "length", "()I"⟩
abbrev cJ0_charAt_5068e : ByteArray := prog_13_method_56_code
def yJ0_charAt_5068e : MethodName := ⟨RJ0, "charAt", "(I)C"⟩
abbrev cJ0_coder_7d493 : ByteArray := prog_13_method_152_code
def yJ0_coder_7d493 : MethodName := ⟨RJ0, "coder", "()B"⟩
abbrev cJ0_isLatin1_aae02 : ByteArray := prog_13_method_154_code
def yJ0_isLatin1_aae02 : MethodName := ⟨RJ0, "isLatin1", "()Z"⟩
abbrev cJ0_checkIndex_df160 : ByteArray := prog_13_method_155_code
def yJ0_checkIndex_df160 : MethodName := ⟨RJ0, "checkIndex", "(II)V"⟩
def RJ1 : String := "java/lang/StringLatin1"
def TJ1 : u_T := fun k => match k with
  | _ => ("", "", "", false)
def tyJ1 : Nat → FieldType := fun k => match k with
  | _ => .int
abbrev wsJ10 : List Cond := u_ws RJ1 TJ1 0
theorem nmJ1 : ∀ a, a < 0 → ∀ b, b < 0 → a ≠ b → (TJ1 a).2.1 ≠ (TJ1 b).2.1 := by decide +kernel
theorem tyJ1_ok : ∀ k, k < 0 → parseFieldDescriptor (TJ1 k).2.2.1 = some (tyJ1 k) := by decide +kernel
abbrev cJ1_charAt_3b067 : ByteArray := prog_14_method_2_code
def yJ1_charAt_3b067 : MethodName := ⟨RJ1, "charAt", "([BI)C"⟩
def RJ2 : String := "java/lang/StringUTF16"
def TJ2 : u_T := fun k => match k with
  | _ => ("", "", "", false)
def tyJ2 : Nat → FieldType := fun k => match k with
  | _ => .int
abbrev wsJ20 : List Cond := u_ws RJ2 TJ2 0
theorem nmJ2 : ∀ a, a < 0 → ∀ b, b < 0 → a ≠ b → (TJ2 a).2.1 ≠ (TJ2 b).2.1 := by decide +kernel
theorem tyJ2_ok : ∀ k, k < 0 → parseFieldDescriptor (TJ2 k).2.2.1 = some (tyJ2 k) := by decide +kernel
abbrev cJ2_getChar_3b067 : ByteArray := prog_15_method_5_code
def yJ2_getChar_3b067 : MethodName := ⟨RJ2, "getChar", "([BI)C"⟩
abbrev cJ2_length_9d52b : ByteArray := prog_15_method_6_code
def yJ2_length_9d52b : MethodName := ⟨RJ2, "length", "([B)I"⟩
abbrev cJ2_charAt_3b067 : ByteArray := prog_15_method_83_code
def yJ2_charAt_3b067 : MethodName := ⟨RJ2, "charAt", "([BI)C"⟩
abbrev cJ2_checkIndex_2214a : ByteArray := prog_15_method_91_code
def yJ2_checkIndex_2214a : MethodName := ⟨RJ2, "checkIndex", "(I[B)V"⟩
def RJ3 : String := "jdk/internal/util/Preconditions"
def TJ3 : u_T := fun k => match k with
  | _ => ("", "", "", false)
def tyJ3 : Nat → FieldType := fun k => match k with
  | _ => .int
abbrev wsJ30 : List Cond := u_ws RJ3 TJ3 0
theorem nmJ3 : ∀ a, a < 0 → ∀ b, b < 0 → a ≠ b → (TJ3 a).2.1 ≠ (TJ3 b).2.1 := by decide +kernel
theorem tyJ3_ok : ∀ k, k < 0 → parseFieldDescriptor (TJ3 k).2.2.1 = some (tyJ3 k) := by decide +kernel
abbrev cJ3_checkIndex_8e157 : ByteArray := prog_16_method_11_code
def yJ3_checkIndex_8e157 : MethodName := ⟨RJ3, "checkIndex", "(IILjava/util/function/BiFunction;)I"⟩
def RL : String := "AirIndexLaw"
abbrev cL_law : ByteArray := code
def yL_law : MethodName := ⟨RL, "law", "([I)Z"⟩
abbrev vwCl : List vw_C := [(RX0, TX0, 6), (RX1, TX1, 2), (RX2, TX2, 8), (RX3, TX3, 5), (RX4, TX4, 2), (RX5, TX5, 6), (RX6, TX6, 5), (RX7, TX7, 5), (RX8, TX8, 18)]
end
section
theorem dX0_init_0 : decode cX0_init 0 = .ok (.aload_n 0, 1) := by decide +kernel
theorem dX0_init_1 : decode cX0_init 1 = .ok (.invokespecial 1, 3) := by decide +kernel
theorem dX0_init_4 : decode cX0_init 4 = .ok (.return_, 1) := by decide +kernel
theorem dX1_init_0 : decode cX1_init 0 = .ok (.aload_n 0, 1) := by decide +kernel
theorem dX1_init_1 : decode cX1_init 1 = .ok (.invokespecial 3, 3) := by decide +kernel
theorem dX1_init_4 : decode cX1_init 4 = .ok (.aload_n 0, 1) := by decide +kernel
theorem dX1_init_5 : decode cX1_init 5 = .ok (.bipush 10, 2) := by decide +kernel
theorem dX1_init_7 : decode cX1_init 7 = .ok (.anewarray 9, 3) := by decide +kernel
theorem dX1_init_10 : decode cX1_init 10 = .ok (.putfield 11, 3) := by decide +kernel
theorem dX1_init_13 : decode cX1_init 13 = .ok (.iconst 0, 1) := by decide +kernel
theorem dX1_init_14 : decode cX1_init 14 = .ok (.istore_n 1, 1) := by decide +kernel
theorem dX1_init_15 : decode cX1_init 15 = .ok (.iload_n 1, 1) := by decide +kernel
theorem dX1_init_16 : decode cX1_init 16 = .ok (.bipush 10, 2) := by decide +kernel
theorem dX1_init_18 : decode cX1_init 18 = .ok (.if_icmp .ge 22, 3) := by decide +kernel
theorem dX1_init_21 : decode cX1_init 21 = .ok (.aload_n 0, 1) := by decide +kernel
theorem dX1_init_22 : decode cX1_init 22 = .ok (.getfield 11, 3) := by decide +kernel
theorem dX1_init_25 : decode cX1_init 25 = .ok (.iload_n 1, 1) := by decide +kernel
theorem dX1_init_26 : decode cX1_init 26 = .ok (.new 9, 3) := by decide +kernel
theorem dX1_init_29 : decode cX1_init 29 = .ok (.dup, 1) := by decide +kernel
theorem dX1_init_30 : decode cX1_init 30 = .ok (.invokespecial 17, 3) := by decide +kernel
theorem dX1_init_33 : decode cX1_init 33 = .ok (.aastore, 1) := by decide +kernel
theorem dX1_init_34 : decode cX1_init 34 = .ok (.iinc 1 1, 3) := by decide +kernel
theorem dX1_init_37 : decode cX1_init 37 = .ok (.goto (-22), 3) := by decide +kernel
theorem dX1_init_40 : decode cX1_init 40 = .ok (.return_, 1) := by decide +kernel
theorem dX1_forgetAll_0 : decode cX1_forgetAll 0 = .ok (.aload_n 0, 1) := by decide +kernel
theorem dX1_forgetAll_1 : decode cX1_forgetAll 1 = .ok (.iconst 0, 1) := by decide +kernel
theorem dX1_forgetAll_2 : decode cX1_forgetAll 2 = .ok (.putfield 18, 3) := by decide +kernel
theorem dX1_forgetAll_5 : decode cX1_forgetAll 5 = .ok (.return_, 1) := by decide +kernel
theorem dX1_next_0 : decode cX1_next 0 = .ok (.aload_n 0, 1) := by decide +kernel
theorem dX1_next_1 : decode cX1_next 1 = .ok (.getfield 18, 3) := by decide +kernel
theorem dX1_next_4 : decode cX1_next 4 = .ok (.ifCond .lt 12, 3) := by decide +kernel
theorem dX1_next_7 : decode cX1_next 7 = .ok (.aload_n 0, 1) := by decide +kernel
theorem dX1_next_8 : decode cX1_next 8 = .ok (.getfield 18, 3) := by decide +kernel
theorem dX1_next_11 : decode cX1_next 11 = .ok (.bipush 10, 2) := by decide +kernel
theorem dX1_next_13 : decode cX1_next 13 = .ok (.if_icmp .lt 7, 3) := by decide +kernel
theorem dX1_next_16 : decode cX1_next 16 = .ok (.aload_n 0, 1) := by decide +kernel
theorem dX1_next_17 : decode cX1_next 17 = .ok (.invokevirtual 22, 3) := by decide +kernel
theorem dX1_next_20 : decode cX1_next 20 = .ok (.aload_n 0, 1) := by decide +kernel
theorem dX1_next_21 : decode cX1_next 21 = .ok (.getfield 11, 3) := by decide +kernel
theorem dX1_next_24 : decode cX1_next 24 = .ok (.aload_n 0, 1) := by decide +kernel
theorem dX1_next_25 : decode cX1_next 25 = .ok (.getfield 18, 3) := by decide +kernel
theorem dX1_next_28 : decode cX1_next 28 = .ok (.aaload, 1) := by decide +kernel
theorem dX1_next_29 : decode cX1_next 29 = .ok (.astore_n 2, 1) := by decide +kernel
theorem dX1_next_30 : decode cX1_next 30 = .ok (.aload_n 2, 1) := by decide +kernel
theorem dX1_next_31 : decode cX1_next 31 = .ok (.iload_n 1, 1) := by decide +kernel
theorem dX1_next_32 : decode cX1_next 32 = .ok (.putfield 25, 3) := by decide +kernel
theorem dX1_next_35 : decode cX1_next 35 = .ok (.aload_n 0, 1) := by decide +kernel
theorem dX1_next_36 : decode cX1_next 36 = .ok (.dup, 1) := by decide +kernel
theorem dX1_next_37 : decode cX1_next 37 = .ok (.getfield 18, 3) := by decide +kernel
theorem dX1_next_40 : decode cX1_next 40 = .ok (.iconst 1, 1) := by decide +kernel
theorem dX1_next_41 : decode cX1_next 41 = .ok (.iadd, 1) := by decide +kernel
theorem dX1_next_42 : decode cX1_next 42 = .ok (.putfield 18, 3) := by decide +kernel
theorem dX1_next_45 : decode cX1_next 45 = .ok (.aload_n 2, 1) := by decide +kernel
theorem dX1_next_46 : decode cX1_next 46 = .ok (.areturn, 1) := by decide +kernel
theorem dX1_takeLatest_0 : decode cX1_takeLatest 0 = .ok (.aload_n 0, 1) := by decide +kernel
theorem dX1_takeLatest_1 : decode cX1_takeLatest 1 = .ok (.getfield 18, 3) := by decide +kernel
theorem dX1_takeLatest_4 : decode cX1_takeLatest 4 = .ok (.iconst 1, 1) := by decide +kernel
theorem dX1_takeLatest_5 : decode cX1_takeLatest 5 = .ok (.if_icmp .lt 12, 3) := by decide +kernel
theorem dX1_takeLatest_8 : decode cX1_takeLatest 8 = .ok (.aload_n 0, 1) := by decide +kernel
theorem dX1_takeLatest_9 : decode cX1_takeLatest 9 = .ok (.getfield 18, 3) := by decide +kernel
theorem dX1_takeLatest_12 : decode cX1_takeLatest 12 = .ok (.bipush 10, 2) := by decide +kernel
theorem dX1_takeLatest_14 : decode cX1_takeLatest 14 = .ok (.if_icmp .le 5, 3) := by decide +kernel
theorem dX1_takeLatest_17 : decode cX1_takeLatest 17 = .ok (.aconst_null, 1) := by decide +kernel
theorem dX1_takeLatest_18 : decode cX1_takeLatest 18 = .ok (.areturn, 1) := by decide +kernel
theorem dX1_takeLatest_19 : decode cX1_takeLatest 19 = .ok (.aload_n 0, 1) := by decide +kernel
theorem dX1_takeLatest_20 : decode cX1_takeLatest 20 = .ok (.dup, 1) := by decide +kernel
theorem dX1_takeLatest_21 : decode cX1_takeLatest 21 = .ok (.getfield 18, 3) := by decide +kernel
theorem dX1_takeLatest_24 : decode cX1_takeLatest 24 = .ok (.iconst 1, 1) := by decide +kernel
theorem dX1_takeLatest_25 : decode cX1_takeLatest 25 = .ok (.isub, 1) := by decide +kernel
theorem dX1_takeLatest_26 : decode cX1_takeLatest 26 = .ok (.putfield 18, 3) := by decide +kernel
theorem dX1_takeLatest_29 : decode cX1_takeLatest 29 = .ok (.aload_n 0, 1) := by decide +kernel
theorem dX1_takeLatest_30 : decode cX1_takeLatest 30 = .ok (.getfield 11, 3) := by decide +kernel
theorem dX1_takeLatest_33 : decode cX1_takeLatest 33 = .ok (.aload_n 0, 1) := by decide +kernel
theorem dX1_takeLatest_34 : decode cX1_takeLatest 34 = .ok (.getfield 18, 3) := by decide +kernel
theorem dX1_takeLatest_37 : decode cX1_takeLatest 37 = .ok (.aaload, 1) := by decide +kernel
theorem dX1_takeLatest_38 : decode cX1_takeLatest 38 = .ok (.areturn, 1) := by decide +kernel
theorem dX1_forgetOldest_0 : decode cX1_forgetOldest 0 = .ok (.aload_n 0, 1) := by decide +kernel
theorem dX1_forgetOldest_1 : decode cX1_forgetOldest 1 = .ok (.getfield 11, 3) := by decide +kernel
theorem dX1_forgetOldest_4 : decode cX1_forgetOldest 4 = .ok (.iconst 0, 1) := by decide +kernel
theorem dX1_forgetOldest_5 : decode cX1_forgetOldest 5 = .ok (.aaload, 1) := by decide +kernel
theorem dX1_forgetOldest_6 : decode cX1_forgetOldest 6 = .ok (.astore_n 1, 1) := by decide +kernel
theorem dX1_forgetOldest_7 : decode cX1_forgetOldest 7 = .ok (.iconst 1, 1) := by decide +kernel
theorem dX1_forgetOldest_8 : decode cX1_forgetOldest 8 = .ok (.istore_n 2, 1) := by decide +kernel
theorem dX1_forgetOldest_9 : decode cX1_forgetOldest 9 = .ok (.iload_n 2, 1) := by decide +kernel
theorem dX1_forgetOldest_10 : decode cX1_forgetOldest 10 = .ok (.bipush 10, 2) := by decide +kernel
theorem dX1_forgetOldest_12 : decode cX1_forgetOldest 12 = .ok (.if_icmp .ge 23, 3) := by decide +kernel
theorem dX1_forgetOldest_15 : decode cX1_forgetOldest 15 = .ok (.aload_n 0, 1) := by decide +kernel
theorem dX1_forgetOldest_16 : decode cX1_forgetOldest 16 = .ok (.getfield 11, 3) := by decide +kernel
theorem dX1_forgetOldest_19 : decode cX1_forgetOldest 19 = .ok (.iload_n 2, 1) := by decide +kernel
theorem dX1_forgetOldest_20 : decode cX1_forgetOldest 20 = .ok (.iconst 1, 1) := by decide +kernel
theorem dX1_forgetOldest_21 : decode cX1_forgetOldest 21 = .ok (.isub, 1) := by decide +kernel
theorem dX1_forgetOldest_22 : decode cX1_forgetOldest 22 = .ok (.aload_n 0, 1) := by decide +kernel
theorem dX1_forgetOldest_23 : decode cX1_forgetOldest 23 = .ok (.getfield 11, 3) := by decide +kernel
theorem dX1_forgetOldest_26 : decode cX1_forgetOldest 26 = .ok (.iload_n 2, 1) := by decide +kernel
theorem dX1_forgetOldest_27 : decode cX1_forgetOldest 27 = .ok (.aaload, 1) := by decide +kernel
theorem dX1_forgetOldest_28 : decode cX1_forgetOldest 28 = .ok (.aastore, 1) := by decide +kernel
theorem dX1_forgetOldest_29 : decode cX1_forgetOldest 29 = .ok (.iinc 2 1, 3) := by decide +kernel
theorem dX1_forgetOldest_32 : decode cX1_forgetOldest 32 = .ok (.goto (-23), 3) := by decide +kernel
theorem dX1_forgetOldest_35 : decode cX1_forgetOldest 35 = .ok (.aload_n 0, 1) := by decide +kernel
theorem dX1_forgetOldest_36 : decode cX1_forgetOldest 36 = .ok (.getfield 11, 3) := by decide +kernel
theorem dX1_forgetOldest_39 : decode cX1_forgetOldest 39 = .ok (.bipush 9, 2) := by decide +kernel
theorem dX1_forgetOldest_41 : decode cX1_forgetOldest 41 = .ok (.aload_n 1, 1) := by decide +kernel
theorem dX1_forgetOldest_42 : decode cX1_forgetOldest 42 = .ok (.aastore, 1) := by decide +kernel
theorem dX1_forgetOldest_43 : decode cX1_forgetOldest 43 = .ok (.aload_n 0, 1) := by decide +kernel
theorem dX1_forgetOldest_44 : decode cX1_forgetOldest 44 = .ok (.bipush 9, 2) := by decide +kernel
theorem dX1_forgetOldest_46 : decode cX1_forgetOldest 46 = .ok (.putfield 18, 3) := by decide +kernel
theorem dX1_forgetOldest_49 : decode cX1_forgetOldest 49 = .ok (.return_, 1) := by decide +kernel
theorem dX2_init_0 : decode cX2_init 0 = .ok (.aload_n 0, 1) := by decide +kernel
theorem dX2_init_1 : decode cX2_init 1 = .ok (.invokespecial 3, 3) := by decide +kernel
theorem dX2_init_4 : decode cX2_init 4 = .ok (.aload_n 0, 1) := by decide +kernel
theorem dX2_init_5 : decode cX2_init 5 = .ok (.iconst 3, 1) := by decide +kernel
theorem dX2_init_6 : decode cX2_init 6 = .ok (.newarray .int, 2) := by decide +kernel
theorem dX2_init_8 : decode cX2_init 8 = .ok (.putfield 9, 3) := by decide +kernel
theorem dX2_init_11 : decode cX2_init 11 = .ok (.aload_n 0, 1) := by decide +kernel
theorem dX2_init_12 : decode cX2_init 12 = .ok (.iconst 3, 1) := by decide +kernel
theorem dX2_init_13 : decode cX2_init 13 = .ok (.anewarray 15, 3) := by decide +kernel
theorem dX2_init_16 : decode cX2_init 16 = .ok (.putfield 17, 3) := by decide +kernel
theorem dX2_init_19 : decode cX2_init 19 = .ok (.aload_n 0, 1) := by decide +kernel
theorem dX2_init_20 : decode cX2_init 20 = .ok (.iconst 4, 1) := by decide +kernel
theorem dX2_init_21 : decode cX2_init 21 = .ok (.newarray .int, 2) := by decide +kernel
theorem dX2_init_23 : decode cX2_init 23 = .ok (.putfield 21, 3) := by decide +kernel
theorem dX2_init_26 : decode cX2_init 26 = .ok (.aload_n 0, 1) := by decide +kernel
theorem dX2_init_27 : decode cX2_init 27 = .ok (.bipush 12, 2) := by decide +kernel
theorem dX2_init_29 : decode cX2_init 29 = .ok (.bipush 60, 2) := by decide +kernel
theorem dX2_init_31 : decode cX2_init 31 = .ok (.multianewarray 24 2, 4) := by decide +kernel
theorem dX2_init_35 : decode cX2_init 35 = .ok (.putfield 26, 3) := by decide +kernel
theorem dX2_init_38 : decode cX2_init 38 = .ok (.iconst 0, 1) := by decide +kernel
theorem dX2_init_39 : decode cX2_init 39 = .ok (.istore_n 1, 1) := by decide +kernel
theorem dX2_init_40 : decode cX2_init 40 = .ok (.iload_n 1, 1) := by decide +kernel
theorem dX2_init_41 : decode cX2_init 41 = .ok (.iconst 3, 1) := by decide +kernel
theorem dX2_init_42 : decode cX2_init 42 = .ok (.if_icmp .ge 22, 3) := by decide +kernel
theorem dX2_init_45 : decode cX2_init 45 = .ok (.aload_n 0, 1) := by decide +kernel
theorem dX2_init_46 : decode cX2_init 46 = .ok (.getfield 17, 3) := by decide +kernel
theorem dX2_init_49 : decode cX2_init 49 = .ok (.iload_n 1, 1) := by decide +kernel
theorem dX2_init_50 : decode cX2_init 50 = .ok (.new 15, 3) := by decide +kernel
theorem dX2_init_53 : decode cX2_init 53 = .ok (.dup, 1) := by decide +kernel
theorem dX2_init_54 : decode cX2_init 54 = .ok (.invokespecial 29, 3) := by decide +kernel
theorem dX2_init_57 : decode cX2_init 57 = .ok (.aastore, 1) := by decide +kernel
theorem dX2_init_58 : decode cX2_init 58 = .ok (.iinc 1 1, 3) := by decide +kernel
theorem dX2_init_61 : decode cX2_init 61 = .ok (.goto (-21), 3) := by decide +kernel
theorem dX2_init_64 : decode cX2_init 64 = .ok (.return_, 1) := by decide +kernel
theorem dX2_clear_0 : decode cX2_clear 0 = .ok (.aload_n 0, 1) := by decide +kernel
theorem dX2_clear_1 : decode cX2_clear 1 = .ok (.iconst 0, 1) := by decide +kernel
theorem dX2_clear_2 : decode cX2_clear 2 = .ok (.putfield 30, 3) := by decide +kernel
theorem dX2_clear_5 : decode cX2_clear 5 = .ok (.aload_n 0, 1) := by decide +kernel
theorem dX2_clear_6 : decode cX2_clear 6 = .ok (.iconst 0, 1) := by decide +kernel
theorem dX2_clear_7 : decode cX2_clear 7 = .ok (.putfield 34, 3) := by decide +kernel
theorem dX2_clear_10 : decode cX2_clear 10 = .ok (.aload_n 0, 1) := by decide +kernel
theorem dX2_clear_11 : decode cX2_clear 11 = .ok (.iconst 0, 1) := by decide +kernel
theorem dX2_clear_12 : decode cX2_clear 12 = .ok (.putfield 37, 3) := by decide +kernel
theorem dX2_clear_15 : decode cX2_clear 15 = .ok (.aload_n 0, 1) := by decide +kernel
theorem dX2_clear_16 : decode cX2_clear 16 = .ok (.iconst 0, 1) := by decide +kernel
theorem dX2_clear_17 : decode cX2_clear 17 = .ok (.putfield 40, 3) := by decide +kernel
theorem dX2_clear_20 : decode cX2_clear 20 = .ok (.iconst 0, 1) := by decide +kernel
theorem dX2_clear_21 : decode cX2_clear 21 = .ok (.istore_n 1, 1) := by decide +kernel
theorem dX2_clear_22 : decode cX2_clear 22 = .ok (.iload_n 1, 1) := by decide +kernel
theorem dX2_clear_23 : decode cX2_clear 23 = .ok (.bipush 12, 2) := by decide +kernel
theorem dX2_clear_25 : decode cX2_clear 25 = .ok (.if_icmp .ge 32, 3) := by decide +kernel
theorem dX2_clear_28 : decode cX2_clear 28 = .ok (.iconst 0, 1) := by decide +kernel
theorem dX2_clear_29 : decode cX2_clear 29 = .ok (.istore_n 2, 1) := by decide +kernel
theorem dX2_clear_30 : decode cX2_clear 30 = .ok (.iload_n 2, 1) := by decide +kernel
theorem dX2_clear_31 : decode cX2_clear 31 = .ok (.bipush 60, 2) := by decide +kernel
theorem dX2_clear_33 : decode cX2_clear 33 = .ok (.if_icmp .ge 18, 3) := by decide +kernel
theorem dX2_clear_36 : decode cX2_clear 36 = .ok (.aload_n 0, 1) := by decide +kernel
theorem dX2_clear_37 : decode cX2_clear 37 = .ok (.getfield 26, 3) := by decide +kernel
theorem dX2_clear_40 : decode cX2_clear 40 = .ok (.iload_n 1, 1) := by decide +kernel
theorem dX2_clear_41 : decode cX2_clear 41 = .ok (.aaload, 1) := by decide +kernel
theorem dX2_clear_42 : decode cX2_clear 42 = .ok (.iload_n 2, 1) := by decide +kernel
theorem dX2_clear_43 : decode cX2_clear 43 = .ok (.iconst (-1), 1) := by decide +kernel
theorem dX2_clear_44 : decode cX2_clear 44 = .ok (.iastore, 1) := by decide +kernel
theorem dX2_clear_45 : decode cX2_clear 45 = .ok (.iinc 2 1, 3) := by decide +kernel
theorem dX2_clear_48 : decode cX2_clear 48 = .ok (.goto (-18), 3) := by decide +kernel
theorem dX2_clear_51 : decode cX2_clear 51 = .ok (.iinc 1 1, 3) := by decide +kernel
theorem dX2_clear_54 : decode cX2_clear 54 = .ok (.goto (-32), 3) := by decide +kernel
theorem dX2_clear_57 : decode cX2_clear 57 = .ok (.return_, 1) := by decide +kernel
theorem dX2_tellFirst_0 : decode cX2_tellFirst 0 = .ok (.aload_n 0, 1) := by decide +kernel
theorem dX2_tellFirst_1 : decode cX2_tellFirst 1 = .ok (.invokevirtual 43, 3) := by decide +kernel
theorem dX2_tellFirst_4 : decode cX2_tellFirst 4 = .ok (.iconst 0, 1) := by decide +kernel
theorem dX2_tellFirst_5 : decode cX2_tellFirst 5 = .ok (.istore_n 1, 1) := by decide +kernel
theorem dX2_tellFirst_6 : decode cX2_tellFirst 6 = .ok (.iload_n 1, 1) := by decide +kernel
theorem dX2_tellFirst_7 : decode cX2_tellFirst 7 = .ok (.iconst 3, 1) := by decide +kernel
theorem dX2_tellFirst_8 : decode cX2_tellFirst 8 = .ok (.if_icmp .ge 21, 3) := by decide +kernel
theorem dX2_tellFirst_11 : decode cX2_tellFirst 11 = .ok (.aload_n 0, 1) := by decide +kernel
theorem dX2_tellFirst_12 : decode cX2_tellFirst 12 = .ok (.getfield 9, 3) := by decide +kernel
theorem dX2_tellFirst_15 : decode cX2_tellFirst 15 = .ok (.iload_n 1, 1) := by decide +kernel
theorem dX2_tellFirst_16 : decode cX2_tellFirst 16 = .ok (.bipush 50, 2) := by decide +kernel
theorem dX2_tellFirst_18 : decode cX2_tellFirst 18 = .ok (.iload_n 1, 1) := by decide +kernel
theorem dX2_tellFirst_19 : decode cX2_tellFirst 19 = .ok (.iconst 1, 1) := by decide +kernel
theorem dX2_tellFirst_20 : decode cX2_tellFirst 20 = .ok (.iadd, 1) := by decide +kernel
theorem dX2_tellFirst_21 : decode cX2_tellFirst 21 = .ok (.imul, 1) := by decide +kernel
theorem dX2_tellFirst_22 : decode cX2_tellFirst 22 = .ok (.iastore, 1) := by decide +kernel
theorem dX2_tellFirst_23 : decode cX2_tellFirst 23 = .ok (.iinc 1 1, 3) := by decide +kernel
theorem dX2_tellFirst_26 : decode cX2_tellFirst 26 = .ok (.goto (-20), 3) := by decide +kernel
theorem dX2_tellFirst_29 : decode cX2_tellFirst 29 = .ok (.aload_n 0, 1) := by decide +kernel
theorem dX2_tellFirst_30 : decode cX2_tellFirst 30 = .ok (.bipush 50, 2) := by decide +kernel
theorem dX2_tellFirst_32 : decode cX2_tellFirst 32 = .ok (.putfield 30, 3) := by decide +kernel
theorem dX2_tellFirst_35 : decode cX2_tellFirst 35 = .ok (.aload_n 0, 1) := by decide +kernel
theorem dX2_tellFirst_36 : decode cX2_tellFirst 36 = .ok (.iconst 1, 1) := by decide +kernel
theorem dX2_tellFirst_37 : decode cX2_tellFirst 37 = .ok (.iconst 1, 1) := by decide +kernel
theorem dX2_tellFirst_38 : decode cX2_tellFirst 38 = .ok (.invokevirtual 46, 3) := by decide +kernel
theorem dX2_tellFirst_41 : decode cX2_tellFirst 41 = .ok (.astore_n 1, 1) := by decide +kernel
theorem dX2_tellFirst_42 : decode cX2_tellFirst 42 = .ok (.aload_n 1, 1) := by decide +kernel
theorem dX2_tellFirst_43 : decode cX2_tellFirst 43 = .ok (.ifnull 17, 3) := by decide +kernel
theorem dX2_tellFirst_46 : decode cX2_tellFirst 46 = .ok (.aload_n 1, 1) := by decide +kernel
theorem dX2_tellFirst_47 : decode cX2_tellFirst 47 = .ok (.iconst 0, 1) := by decide +kernel
theorem dX2_tellFirst_48 : decode cX2_tellFirst 48 = .ok (.iconst 0, 1) := by decide +kernel
theorem dX2_tellFirst_49 : decode cX2_tellFirst 49 = .ok (.invokevirtual 50, 3) := by decide +kernel
theorem dX2_tellFirst_52 : decode cX2_tellFirst 52 = .ok (.aload_n 1, 1) := by decide +kernel
theorem dX2_tellFirst_53 : decode cX2_tellFirst 53 = .ok (.bipush 100, 2) := by decide +kernel
theorem dX2_tellFirst_55 : decode cX2_tellFirst 55 = .ok (.bipush 100, 2) := by decide +kernel
theorem dX2_tellFirst_57 : decode cX2_tellFirst 57 = .ok (.invokevirtual 50, 3) := by decide +kernel
theorem dX2_tellFirst_60 : decode cX2_tellFirst 60 = .ok (.aload_n 0, 1) := by decide +kernel
theorem dX2_tellFirst_61 : decode cX2_tellFirst 61 = .ok (.iconst 0, 1) := by decide +kernel
theorem dX2_tellFirst_62 : decode cX2_tellFirst 62 = .ok (.invokevirtual 54, 3) := by decide +kernel
theorem dX2_tellFirst_65 : decode cX2_tellFirst 65 = .ok (.return_, 1) := by decide +kernel
theorem dX2_putBand_0 : decode cX2_putBand 0 = .ok (.iload_n 1, 1) := by decide +kernel
theorem dX2_putBand_1 : decode cX2_putBand 1 = .ok (.ifCond .lt 15, 3) := by decide +kernel
theorem dX2_putBand_4 : decode cX2_putBand 4 = .ok (.iload_n 1, 1) := by decide +kernel
theorem dX2_putBand_5 : decode cX2_putBand 5 = .ok (.iconst 3, 1) := by decide +kernel
theorem dX2_putBand_6 : decode cX2_putBand 6 = .ok (.if_icmp .ge 10, 3) := by decide +kernel
theorem dX2_putBand_9 : decode cX2_putBand 9 = .ok (.aload_n 0, 1) := by decide +kernel
theorem dX2_putBand_10 : decode cX2_putBand 10 = .ok (.getfield 9, 3) := by decide +kernel
theorem dX2_putBand_13 : decode cX2_putBand 13 = .ok (.iload_n 1, 1) := by decide +kernel
theorem dX2_putBand_14 : decode cX2_putBand 14 = .ok (.iload_n 2, 1) := by decide +kernel
theorem dX2_putBand_15 : decode cX2_putBand 15 = .ok (.iastore, 1) := by decide +kernel
theorem dX2_putBand_16 : decode cX2_putBand 16 = .ok (.return_, 1) := by decide +kernel
theorem dX2_addSubstance_0 : decode cX2_addSubstance 0 = .ok (.aload_n 0, 1) := by decide +kernel
theorem dX2_addSubstance_1 : decode cX2_addSubstance 1 = .ok (.getfield 34, 3) := by decide +kernel
theorem dX2_addSubstance_4 : decode cX2_addSubstance 4 = .ok (.ifCond .lt 11, 3) := by decide +kernel
theorem dX2_addSubstance_7 : decode cX2_addSubstance 7 = .ok (.aload_n 0, 1) := by decide +kernel
theorem dX2_addSubstance_8 : decode cX2_addSubstance 8 = .ok (.getfield 34, 3) := by decide +kernel
theorem dX2_addSubstance_11 : decode cX2_addSubstance 11 = .ok (.iconst 3, 1) := by decide +kernel
theorem dX2_addSubstance_12 : decode cX2_addSubstance 12 = .ok (.if_icmp .lt 5, 3) := by decide +kernel
theorem dX2_addSubstance_15 : decode cX2_addSubstance 15 = .ok (.aconst_null, 1) := by decide +kernel
theorem dX2_addSubstance_16 : decode cX2_addSubstance 16 = .ok (.areturn, 1) := by decide +kernel
theorem dX2_addSubstance_17 : decode cX2_addSubstance 17 = .ok (.aload_n 0, 1) := by decide +kernel
theorem dX2_addSubstance_18 : decode cX2_addSubstance 18 = .ok (.getfield 17, 3) := by decide +kernel
theorem dX2_addSubstance_21 : decode cX2_addSubstance 21 = .ok (.aload_n 0, 1) := by decide +kernel
theorem dX2_addSubstance_22 : decode cX2_addSubstance 22 = .ok (.getfield 34, 3) := by decide +kernel
theorem dX2_addSubstance_25 : decode cX2_addSubstance 25 = .ok (.aaload, 1) := by decide +kernel
theorem dX2_addSubstance_26 : decode cX2_addSubstance 26 = .ok (.astore_n 3, 1) := by decide +kernel
theorem dX2_addSubstance_27 : decode cX2_addSubstance 27 = .ok (.aload_n 3, 1) := by decide +kernel
theorem dX2_addSubstance_28 : decode cX2_addSubstance 28 = .ok (.iload_n 1, 1) := by decide +kernel
theorem dX2_addSubstance_29 : decode cX2_addSubstance 29 = .ok (.putfield 58, 3) := by decide +kernel
theorem dX2_addSubstance_32 : decode cX2_addSubstance 32 = .ok (.aload_n 3, 1) := by decide +kernel
theorem dX2_addSubstance_33 : decode cX2_addSubstance 33 = .ok (.iload_n 2, 1) := by decide +kernel
theorem dX2_addSubstance_34 : decode cX2_addSubstance 34 = .ok (.putfield 61, 3) := by decide +kernel
theorem dX2_addSubstance_37 : decode cX2_addSubstance 37 = .ok (.aload_n 3, 1) := by decide +kernel
theorem dX2_addSubstance_38 : decode cX2_addSubstance 38 = .ok (.iconst 0, 1) := by decide +kernel
theorem dX2_addSubstance_39 : decode cX2_addSubstance 39 = .ok (.putfield 64, 3) := by decide +kernel
theorem dX2_addSubstance_42 : decode cX2_addSubstance 42 = .ok (.aload_n 0, 1) := by decide +kernel
theorem dX2_addSubstance_43 : decode cX2_addSubstance 43 = .ok (.dup, 1) := by decide +kernel
theorem dX2_addSubstance_44 : decode cX2_addSubstance 44 = .ok (.getfield 34, 3) := by decide +kernel
theorem dX2_addSubstance_47 : decode cX2_addSubstance 47 = .ok (.iconst 1, 1) := by decide +kernel
theorem dX2_addSubstance_48 : decode cX2_addSubstance 48 = .ok (.iadd, 1) := by decide +kernel
theorem dX2_addSubstance_49 : decode cX2_addSubstance 49 = .ok (.putfield 34, 3) := by decide +kernel
theorem dX2_addSubstance_52 : decode cX2_addSubstance 52 = .ok (.aload_n 3, 1) := by decide +kernel
theorem dX2_addSubstance_53 : decode cX2_addSubstance 53 = .ok (.areturn, 1) := by decide +kernel
theorem dX2_addStation_0 : decode cX2_addStation 0 = .ok (.aload_n 0, 1) := by decide +kernel
theorem dX2_addStation_1 : decode cX2_addStation 1 = .ok (.getfield 37, 3) := by decide +kernel
theorem dX2_addStation_4 : decode cX2_addStation 4 = .ok (.ifCond .lt 31, 3) := by decide +kernel
theorem dX2_addStation_7 : decode cX2_addStation 7 = .ok (.aload_n 0, 1) := by decide +kernel
theorem dX2_addStation_8 : decode cX2_addStation 8 = .ok (.getfield 37, 3) := by decide +kernel
theorem dX2_addStation_11 : decode cX2_addStation 11 = .ok (.iconst 4, 1) := by decide +kernel
theorem dX2_addStation_12 : decode cX2_addStation 12 = .ok (.if_icmp .ge 23, 3) := by decide +kernel
theorem dX2_addStation_15 : decode cX2_addStation 15 = .ok (.aload_n 0, 1) := by decide +kernel
theorem dX2_addStation_16 : decode cX2_addStation 16 = .ok (.getfield 21, 3) := by decide +kernel
theorem dX2_addStation_19 : decode cX2_addStation 19 = .ok (.aload_n 0, 1) := by decide +kernel
theorem dX2_addStation_20 : decode cX2_addStation 20 = .ok (.getfield 37, 3) := by decide +kernel
theorem dX2_addStation_23 : decode cX2_addStation 23 = .ok (.iload_n 1, 1) := by decide +kernel
theorem dX2_addStation_24 : decode cX2_addStation 24 = .ok (.iastore, 1) := by decide +kernel
theorem dX2_addStation_25 : decode cX2_addStation 25 = .ok (.aload_n 0, 1) := by decide +kernel
theorem dX2_addStation_26 : decode cX2_addStation 26 = .ok (.dup, 1) := by decide +kernel
theorem dX2_addStation_27 : decode cX2_addStation 27 = .ok (.getfield 37, 3) := by decide +kernel
theorem dX2_addStation_30 : decode cX2_addStation 30 = .ok (.iconst 1, 1) := by decide +kernel
theorem dX2_addStation_31 : decode cX2_addStation 31 = .ok (.iadd, 1) := by decide +kernel
theorem dX2_addStation_32 : decode cX2_addStation 32 = .ok (.putfield 37, 3) := by decide +kernel
theorem dX2_addStation_35 : decode cX2_addStation 35 = .ok (.return_, 1) := by decide +kernel
theorem dX2_hasStation_0 : decode cX2_hasStation 0 = .ok (.iload_n 1, 1) := by decide +kernel
theorem dX2_hasStation_1 : decode cX2_hasStation 1 = .ok (.ifCond .lt 20, 3) := by decide +kernel
theorem dX2_hasStation_4 : decode cX2_hasStation 4 = .ok (.iload_n 1, 1) := by decide +kernel
theorem dX2_hasStation_5 : decode cX2_hasStation 5 = .ok (.aload_n 0, 1) := by decide +kernel
theorem dX2_hasStation_6 : decode cX2_hasStation 6 = .ok (.getfield 37, 3) := by decide +kernel
theorem dX2_hasStation_9 : decode cX2_hasStation 9 = .ok (.if_icmp .ge 12, 3) := by decide +kernel
theorem dX2_hasStation_12 : decode cX2_hasStation 12 = .ok (.iload_n 1, 1) := by decide +kernel
theorem dX2_hasStation_13 : decode cX2_hasStation 13 = .ok (.iconst 4, 1) := by decide +kernel
theorem dX2_hasStation_14 : decode cX2_hasStation 14 = .ok (.if_icmp .ge 7, 3) := by decide +kernel
theorem dX2_hasStation_17 : decode cX2_hasStation 17 = .ok (.iconst 1, 1) := by decide +kernel
theorem dX2_hasStation_18 : decode cX2_hasStation 18 = .ok (.goto 4, 3) := by decide +kernel
theorem dX2_hasStation_21 : decode cX2_hasStation 21 = .ok (.iconst 0, 1) := by decide +kernel
theorem dX2_hasStation_22 : decode cX2_hasStation 22 = .ok (.ireturn, 1) := by decide +kernel
theorem dX2_hasHour_0 : decode cX2_hasHour 0 = .ok (.iload_n 1, 1) := by decide +kernel
theorem dX2_hasHour_1 : decode cX2_hasHour 1 = .ok (.ifCond .lt 21, 3) := by decide +kernel
theorem dX2_hasHour_4 : decode cX2_hasHour 4 = .ok (.iload_n 1, 1) := by decide +kernel
theorem dX2_hasHour_5 : decode cX2_hasHour 5 = .ok (.aload_n 0, 1) := by decide +kernel
theorem dX2_hasHour_6 : decode cX2_hasHour 6 = .ok (.getfield 40, 3) := by decide +kernel
theorem dX2_hasHour_9 : decode cX2_hasHour 9 = .ok (.if_icmp .ge 13, 3) := by decide +kernel
theorem dX2_hasHour_12 : decode cX2_hasHour 12 = .ok (.iload_n 1, 1) := by decide +kernel
theorem dX2_hasHour_13 : decode cX2_hasHour 13 = .ok (.bipush 60, 2) := by decide +kernel
theorem dX2_hasHour_15 : decode cX2_hasHour 15 = .ok (.if_icmp .ge 7, 3) := by decide +kernel
theorem dX2_hasHour_18 : decode cX2_hasHour 18 = .ok (.iconst 1, 1) := by decide +kernel
theorem dX2_hasHour_19 : decode cX2_hasHour 19 = .ok (.goto 4, 3) := by decide +kernel
theorem dX2_hasHour_22 : decode cX2_hasHour 22 = .ok (.iconst 0, 1) := by decide +kernel
theorem dX2_hasHour_23 : decode cX2_hasHour 23 = .ok (.ireturn, 1) := by decide +kernel
theorem dX2_hasPlace_0 : decode cX2_hasPlace 0 = .ok (.iload_n 1, 1) := by decide +kernel
theorem dX2_hasPlace_1 : decode cX2_hasPlace 1 = .ok (.ifCond .lt 55, 3) := by decide +kernel
theorem dX2_hasPlace_4 : decode cX2_hasPlace 4 = .ok (.iload_n 1, 1) := by decide +kernel
theorem dX2_hasPlace_5 : decode cX2_hasPlace 5 = .ok (.aload_n 0, 1) := by decide +kernel
theorem dX2_hasPlace_6 : decode cX2_hasPlace 6 = .ok (.getfield 37, 3) := by decide +kernel
theorem dX2_hasPlace_9 : decode cX2_hasPlace 9 = .ok (.if_icmp .ge 47, 3) := by decide +kernel
theorem dX2_hasPlace_12 : decode cX2_hasPlace 12 = .ok (.iload_n 1, 1) := by decide +kernel
theorem dX2_hasPlace_13 : decode cX2_hasPlace 13 = .ok (.iconst 4, 1) := by decide +kernel
theorem dX2_hasPlace_14 : decode cX2_hasPlace 14 = .ok (.if_icmp .ge 42, 3) := by decide +kernel
theorem dX2_hasPlace_17 : decode cX2_hasPlace 17 = .ok (.iload_n 2, 1) := by decide +kernel
theorem dX2_hasPlace_18 : decode cX2_hasPlace 18 = .ok (.ifCond .lt 38, 3) := by decide +kernel
theorem dX2_hasPlace_21 : decode cX2_hasPlace 21 = .ok (.iload_n 2, 1) := by decide +kernel
theorem dX2_hasPlace_22 : decode cX2_hasPlace 22 = .ok (.aload_n 0, 1) := by decide +kernel
theorem dX2_hasPlace_23 : decode cX2_hasPlace 23 = .ok (.getfield 34, 3) := by decide +kernel
theorem dX2_hasPlace_26 : decode cX2_hasPlace 26 = .ok (.if_icmp .ge 30, 3) := by decide +kernel
theorem dX2_hasPlace_29 : decode cX2_hasPlace 29 = .ok (.iload_n 2, 1) := by decide +kernel
theorem dX2_hasPlace_30 : decode cX2_hasPlace 30 = .ok (.iconst 3, 1) := by decide +kernel
theorem dX2_hasPlace_31 : decode cX2_hasPlace 31 = .ok (.if_icmp .ge 25, 3) := by decide +kernel
theorem dX2_hasPlace_34 : decode cX2_hasPlace 34 = .ok (.iload_n 3, 1) := by decide +kernel
theorem dX2_hasPlace_35 : decode cX2_hasPlace 35 = .ok (.ifCond .lt 21, 3) := by decide +kernel
theorem dX2_hasPlace_38 : decode cX2_hasPlace 38 = .ok (.iload_n 3, 1) := by decide +kernel
theorem dX2_hasPlace_39 : decode cX2_hasPlace 39 = .ok (.aload_n 0, 1) := by decide +kernel
theorem dX2_hasPlace_40 : decode cX2_hasPlace 40 = .ok (.getfield 40, 3) := by decide +kernel
theorem dX2_hasPlace_43 : decode cX2_hasPlace 43 = .ok (.if_icmp .ge 13, 3) := by decide +kernel
theorem dX2_hasPlace_46 : decode cX2_hasPlace 46 = .ok (.iload_n 3, 1) := by decide +kernel
theorem dX2_hasPlace_47 : decode cX2_hasPlace 47 = .ok (.bipush 60, 2) := by decide +kernel
theorem dX2_hasPlace_49 : decode cX2_hasPlace 49 = .ok (.if_icmp .ge 7, 3) := by decide +kernel
theorem dX2_hasPlace_52 : decode cX2_hasPlace 52 = .ok (.iconst 1, 1) := by decide +kernel
theorem dX2_hasPlace_53 : decode cX2_hasPlace 53 = .ok (.goto 4, 3) := by decide +kernel
theorem dX2_hasPlace_56 : decode cX2_hasPlace 56 = .ok (.iconst 0, 1) := by decide +kernel
theorem dX2_hasPlace_57 : decode cX2_hasPlace 57 = .ok (.ireturn, 1) := by decide +kernel
theorem dX2_substanceAt_0 : decode cX2_substanceAt 0 = .ok (.iload_n 1, 1) := by decide +kernel
theorem dX2_substanceAt_1 : decode cX2_substanceAt 1 = .ok (.ifCond .lt 16, 3) := by decide +kernel
theorem dX2_substanceAt_4 : decode cX2_substanceAt 4 = .ok (.iload_n 1, 1) := by decide +kernel
theorem dX2_substanceAt_5 : decode cX2_substanceAt 5 = .ok (.aload_n 0, 1) := by decide +kernel
theorem dX2_substanceAt_6 : decode cX2_substanceAt 6 = .ok (.getfield 34, 3) := by decide +kernel
theorem dX2_substanceAt_9 : decode cX2_substanceAt 9 = .ok (.if_icmp .ge 8, 3) := by decide +kernel
theorem dX2_substanceAt_12 : decode cX2_substanceAt 12 = .ok (.iload_n 1, 1) := by decide +kernel
theorem dX2_substanceAt_13 : decode cX2_substanceAt 13 = .ok (.iconst 3, 1) := by decide +kernel
theorem dX2_substanceAt_14 : decode cX2_substanceAt 14 = .ok (.if_icmp .lt 5, 3) := by decide +kernel
theorem dX2_substanceAt_17 : decode cX2_substanceAt 17 = .ok (.aconst_null, 1) := by decide +kernel
theorem dX2_substanceAt_18 : decode cX2_substanceAt 18 = .ok (.areturn, 1) := by decide +kernel
theorem dX2_substanceAt_19 : decode cX2_substanceAt 19 = .ok (.aload_n 0, 1) := by decide +kernel
theorem dX2_substanceAt_20 : decode cX2_substanceAt 20 = .ok (.getfield 17, 3) := by decide +kernel
theorem dX2_substanceAt_23 : decode cX2_substanceAt 23 = .ok (.iload_n 1, 1) := by decide +kernel
theorem dX2_substanceAt_24 : decode cX2_substanceAt 24 = .ok (.aaload, 1) := by decide +kernel
theorem dX2_substanceAt_25 : decode cX2_substanceAt 25 = .ok (.areturn, 1) := by decide +kernel
theorem dX2_putRead_0 : decode cX2_putRead 0 = .ok (.aload_n 0, 1) := by decide +kernel
theorem dX2_putRead_1 : decode cX2_putRead 1 = .ok (.iload_n 1, 1) := by decide +kernel
theorem dX2_putRead_2 : decode cX2_putRead 2 = .ok (.iload_n 2, 1) := by decide +kernel
theorem dX2_putRead_3 : decode cX2_putRead 3 = .ok (.iload_n 3, 1) := by decide +kernel
theorem dX2_putRead_4 : decode cX2_putRead 4 = .ok (.invokevirtual 67, 3) := by decide +kernel
theorem dX2_putRead_7 : decode cX2_putRead 7 = .ok (.ifCond .eq 17, 3) := by decide +kernel
theorem dX2_putRead_10 : decode cX2_putRead 10 = .ok (.aload_n 0, 1) := by decide +kernel
theorem dX2_putRead_11 : decode cX2_putRead 11 = .ok (.getfield 26, 3) := by decide +kernel
theorem dX2_putRead_14 : decode cX2_putRead 14 = .ok (.iload_n 1, 1) := by decide +kernel
theorem dX2_putRead_15 : decode cX2_putRead 15 = .ok (.iconst 3, 1) := by decide +kernel
theorem dX2_putRead_16 : decode cX2_putRead 16 = .ok (.imul, 1) := by decide +kernel
theorem dX2_putRead_17 : decode cX2_putRead 17 = .ok (.iload_n 2, 1) := by decide +kernel
theorem dX2_putRead_18 : decode cX2_putRead 18 = .ok (.iadd, 1) := by decide +kernel
theorem dX2_putRead_19 : decode cX2_putRead 19 = .ok (.aaload, 1) := by decide +kernel
theorem dX2_putRead_20 : decode cX2_putRead 20 = .ok (.iload_n 3, 1) := by decide +kernel
theorem dX2_putRead_21 : decode cX2_putRead 21 = .ok (.iload 4, 2) := by decide +kernel
theorem dX2_putRead_23 : decode cX2_putRead 23 = .ok (.iastore, 1) := by decide +kernel
theorem dX2_putRead_24 : decode cX2_putRead 24 = .ok (.return_, 1) := by decide +kernel
theorem dX2_readAt_0 : decode cX2_readAt 0 = .ok (.aload_n 0, 1) := by decide +kernel
theorem dX2_readAt_1 : decode cX2_readAt 1 = .ok (.iload_n 1, 1) := by decide +kernel
theorem dX2_readAt_2 : decode cX2_readAt 2 = .ok (.iload_n 2, 1) := by decide +kernel
theorem dX2_readAt_3 : decode cX2_readAt 3 = .ok (.iload_n 3, 1) := by decide +kernel
theorem dX2_readAt_4 : decode cX2_readAt 4 = .ok (.invokevirtual 67, 3) := by decide +kernel
theorem dX2_readAt_7 : decode cX2_readAt 7 = .ok (.ifCond .eq 18, 3) := by decide +kernel
theorem dX2_readAt_10 : decode cX2_readAt 10 = .ok (.aload_n 0, 1) := by decide +kernel
theorem dX2_readAt_11 : decode cX2_readAt 11 = .ok (.getfield 26, 3) := by decide +kernel
theorem dX2_readAt_14 : decode cX2_readAt 14 = .ok (.iload_n 1, 1) := by decide +kernel
theorem dX2_readAt_15 : decode cX2_readAt 15 = .ok (.iconst 3, 1) := by decide +kernel
theorem dX2_readAt_16 : decode cX2_readAt 16 = .ok (.imul, 1) := by decide +kernel
theorem dX2_readAt_17 : decode cX2_readAt 17 = .ok (.iload_n 2, 1) := by decide +kernel
theorem dX2_readAt_18 : decode cX2_readAt 18 = .ok (.iadd, 1) := by decide +kernel
theorem dX2_readAt_19 : decode cX2_readAt 19 = .ok (.aaload, 1) := by decide +kernel
theorem dX2_readAt_20 : decode cX2_readAt 20 = .ok (.iload_n 3, 1) := by decide +kernel
theorem dX2_readAt_21 : decode cX2_readAt 21 = .ok (.iaload, 1) := by decide +kernel
theorem dX2_readAt_22 : decode cX2_readAt 22 = .ok (.goto 4, 3) := by decide +kernel
theorem dX2_readAt_25 : decode cX2_readAt 25 = .ok (.iconst (-1), 1) := by decide +kernel
theorem dX2_readAt_26 : decode cX2_readAt 26 = .ok (.ireturn, 1) := by decide +kernel
theorem dX2_countReads_0 : decode cX2_countReads 0 = .ok (.iconst 0, 1) := by decide +kernel
theorem dX2_countReads_1 : decode cX2_countReads 1 = .ok (.istore_n 1, 1) := by decide +kernel
theorem dX2_countReads_2 : decode cX2_countReads 2 = .ok (.iconst 0, 1) := by decide +kernel
theorem dX2_countReads_3 : decode cX2_countReads 3 = .ok (.istore_n 2, 1) := by decide +kernel
theorem dX2_countReads_4 : decode cX2_countReads 4 = .ok (.iload_n 2, 1) := by decide +kernel
theorem dX2_countReads_5 : decode cX2_countReads 5 = .ok (.bipush 12, 2) := by decide +kernel
theorem dX2_countReads_7 : decode cX2_countReads 7 = .ok (.if_icmp .ge 46, 3) := by decide +kernel
theorem dX2_countReads_10 : decode cX2_countReads 10 = .ok (.iconst 0, 1) := by decide +kernel
theorem dX2_countReads_11 : decode cX2_countReads 11 = .ok (.istore_n 3, 1) := by decide +kernel
theorem dX2_countReads_12 : decode cX2_countReads 12 = .ok (.iload_n 3, 1) := by decide +kernel
theorem dX2_countReads_13 : decode cX2_countReads 13 = .ok (.aload_n 0, 1) := by decide +kernel
theorem dX2_countReads_14 : decode cX2_countReads 14 = .ok (.getfield 40, 3) := by decide +kernel
theorem dX2_countReads_17 : decode cX2_countReads 17 = .ok (.if_icmp .ge 30, 3) := by decide +kernel
theorem dX2_countReads_20 : decode cX2_countReads 20 = .ok (.iload_n 3, 1) := by decide +kernel
theorem dX2_countReads_21 : decode cX2_countReads 21 = .ok (.bipush 60, 2) := by decide +kernel
theorem dX2_countReads_23 : decode cX2_countReads 23 = .ok (.if_icmp .ge 24, 3) := by decide +kernel
theorem dX2_countReads_26 : decode cX2_countReads 26 = .ok (.aload_n 0, 1) := by decide +kernel
theorem dX2_countReads_27 : decode cX2_countReads 27 = .ok (.getfield 26, 3) := by decide +kernel
theorem dX2_countReads_30 : decode cX2_countReads 30 = .ok (.iload_n 2, 1) := by decide +kernel
theorem dX2_countReads_31 : decode cX2_countReads 31 = .ok (.aaload, 1) := by decide +kernel
theorem dX2_countReads_32 : decode cX2_countReads 32 = .ok (.iload_n 3, 1) := by decide +kernel
theorem dX2_countReads_33 : decode cX2_countReads 33 = .ok (.iaload, 1) := by decide +kernel
theorem dX2_countReads_34 : decode cX2_countReads 34 = .ok (.iconst (-1), 1) := by decide +kernel
theorem dX2_countReads_35 : decode cX2_countReads 35 = .ok (.if_icmp .eq 6, 3) := by decide +kernel
theorem dX2_countReads_38 : decode cX2_countReads 38 = .ok (.iinc 1 1, 3) := by decide +kernel
theorem dX2_countReads_41 : decode cX2_countReads 41 = .ok (.iinc 3 1, 3) := by decide +kernel
theorem dX2_countReads_44 : decode cX2_countReads 44 = .ok (.goto (-32), 3) := by decide +kernel
theorem dX2_countReads_47 : decode cX2_countReads 47 = .ok (.iinc 2 1, 3) := by decide +kernel
theorem dX2_countReads_50 : decode cX2_countReads 50 = .ok (.goto (-46), 3) := by decide +kernel
theorem dX2_countReads_53 : decode cX2_countReads 53 = .ok (.iload_n 1, 1) := by decide +kernel
theorem dX2_countReads_54 : decode cX2_countReads 54 = .ok (.ireturn, 1) := by decide +kernel
theorem dX2_meanAt_0 : decode cX2_meanAt 0 = .ok (.aload_n 0, 1) := by decide +kernel
theorem dX2_meanAt_1 : decode cX2_meanAt 1 = .ok (.iload_n 2, 1) := by decide +kernel
theorem dX2_meanAt_2 : decode cX2_meanAt 2 = .ok (.invokevirtual 71, 3) := by decide +kernel
theorem dX2_meanAt_5 : decode cX2_meanAt 5 = .ok (.astore 4, 2) := by decide +kernel
theorem dX2_meanAt_7 : decode cX2_meanAt 7 = .ok (.aload 4, 2) := by decide +kernel
theorem dX2_meanAt_9 : decode cX2_meanAt 9 = .ok (.ifnull 13, 3) := by decide +kernel
theorem dX2_meanAt_12 : decode cX2_meanAt 12 = .ok (.aload_n 0, 1) := by decide +kernel
theorem dX2_meanAt_13 : decode cX2_meanAt 13 = .ok (.iload_n 1, 1) := by decide +kernel
theorem dX2_meanAt_14 : decode cX2_meanAt 14 = .ok (.iload_n 2, 1) := by decide +kernel
theorem dX2_meanAt_15 : decode cX2_meanAt 15 = .ok (.iload_n 3, 1) := by decide +kernel
theorem dX2_meanAt_16 : decode cX2_meanAt 16 = .ok (.invokevirtual 67, 3) := by decide +kernel
theorem dX2_meanAt_19 : decode cX2_meanAt 19 = .ok (.ifCond .ne 5, 3) := by decide +kernel
theorem dX2_meanAt_22 : decode cX2_meanAt 22 = .ok (.iconst (-1), 1) := by decide +kernel
theorem dX2_meanAt_23 : decode cX2_meanAt 23 = .ok (.ireturn, 1) := by decide +kernel
theorem dX2_meanAt_24 : decode cX2_meanAt 24 = .ok (.iconst 0, 1) := by decide +kernel
theorem dX2_meanAt_25 : decode cX2_meanAt 25 = .ok (.iload_n 3, 1) := by decide +kernel
theorem dX2_meanAt_26 : decode cX2_meanAt 26 = .ok (.aload 4, 2) := by decide +kernel
theorem dX2_meanAt_28 : decode cX2_meanAt 28 = .ok (.getfield 58, 3) := by decide +kernel
theorem dX2_meanAt_31 : decode cX2_meanAt 31 = .ok (.isub, 1) := by decide +kernel
theorem dX2_meanAt_32 : decode cX2_meanAt 32 = .ok (.iconst 1, 1) := by decide +kernel
theorem dX2_meanAt_33 : decode cX2_meanAt 33 = .ok (.iadd, 1) := by decide +kernel
theorem dX2_meanAt_34 : decode cX2_meanAt 34 = .ok (.invokestatic 75, 3) := by decide +kernel
theorem dX2_meanAt_37 : decode cX2_meanAt 37 = .ok (.istore 5, 2) := by decide +kernel
theorem dX2_meanAt_39 : decode cX2_meanAt 39 = .ok (.iconst 0, 1) := by decide +kernel
theorem dX2_meanAt_40 : decode cX2_meanAt 40 = .ok (.istore 6, 2) := by decide +kernel
theorem dX2_meanAt_42 : decode cX2_meanAt 42 = .ok (.iconst 0, 1) := by decide +kernel
theorem dX2_meanAt_43 : decode cX2_meanAt 43 = .ok (.istore 7, 2) := by decide +kernel
theorem dX2_meanAt_45 : decode cX2_meanAt 45 = .ok (.iconst 0, 1) := by decide +kernel
theorem dX2_meanAt_46 : decode cX2_meanAt 46 = .ok (.istore 8, 2) := by decide +kernel
theorem dX2_meanAt_48 : decode cX2_meanAt 48 = .ok (.iload 5, 2) := by decide +kernel
theorem dX2_meanAt_50 : decode cX2_meanAt 50 = .ok (.istore 9, 2) := by decide +kernel
theorem dX2_meanAt_52 : decode cX2_meanAt 52 = .ok (.iload 9, 2) := by decide +kernel
theorem dX2_meanAt_54 : decode cX2_meanAt 54 = .ok (.iload_n 3, 1) := by decide +kernel
theorem dX2_meanAt_55 : decode cX2_meanAt 55 = .ok (.if_icmp .gt 44, 3) := by decide +kernel
theorem dX2_meanAt_58 : decode cX2_meanAt 58 = .ok (.aload_n 0, 1) := by decide +kernel
theorem dX2_meanAt_59 : decode cX2_meanAt 59 = .ok (.iload_n 1, 1) := by decide +kernel
theorem dX2_meanAt_60 : decode cX2_meanAt 60 = .ok (.iload_n 2, 1) := by decide +kernel
theorem dX2_meanAt_61 : decode cX2_meanAt 61 = .ok (.iload 9, 2) := by decide +kernel
theorem dX2_meanAt_63 : decode cX2_meanAt 63 = .ok (.invokevirtual 81, 3) := by decide +kernel
theorem dX2_meanAt_66 : decode cX2_meanAt 66 = .ok (.istore 10, 2) := by decide +kernel
theorem dX2_meanAt_68 : decode cX2_meanAt 68 = .ok (.iload 10, 2) := by decide +kernel
theorem dX2_meanAt_70 : decode cX2_meanAt 70 = .ok (.iconst (-1), 1) := by decide +kernel
theorem dX2_meanAt_71 : decode cX2_meanAt 71 = .ok (.if_icmp .eq 22, 3) := by decide +kernel
theorem dX2_meanAt_74 : decode cX2_meanAt 74 = .ok (.iinc 6 1, 3) := by decide +kernel
theorem dX2_meanAt_77 : decode cX2_meanAt 77 = .ok (.iload 7, 2) := by decide +kernel
theorem dX2_meanAt_79 : decode cX2_meanAt 79 = .ok (.iload 10, 2) := by decide +kernel
theorem dX2_meanAt_81 : decode cX2_meanAt 81 = .ok (.iadd, 1) := by decide +kernel
theorem dX2_meanAt_82 : decode cX2_meanAt 82 = .ok (.istore 7, 2) := by decide +kernel
theorem dX2_meanAt_84 : decode cX2_meanAt 84 = .ok (.iload 8, 2) := by decide +kernel
theorem dX2_meanAt_86 : decode cX2_meanAt 86 = .ok (.iload 10, 2) := by decide +kernel
theorem dX2_meanAt_88 : decode cX2_meanAt 88 = .ok (.invokestatic 75, 3) := by decide +kernel
theorem dX2_meanAt_91 : decode cX2_meanAt 91 = .ok (.istore 8, 2) := by decide +kernel
theorem dX2_meanAt_93 : decode cX2_meanAt 93 = .ok (.iinc 9 1, 3) := by decide +kernel
theorem dX2_meanAt_96 : decode cX2_meanAt 96 = .ok (.goto (-44), 3) := by decide +kernel
theorem dX2_meanAt_99 : decode cX2_meanAt 99 = .ok (.iload_n 3, 1) := by decide +kernel
theorem dX2_meanAt_100 : decode cX2_meanAt 100 = .ok (.iload 5, 2) := by decide +kernel
theorem dX2_meanAt_102 : decode cX2_meanAt 102 = .ok (.isub, 1) := by decide +kernel
theorem dX2_meanAt_103 : decode cX2_meanAt 103 = .ok (.iconst 1, 1) := by decide +kernel
theorem dX2_meanAt_104 : decode cX2_meanAt 104 = .ok (.iadd, 1) := by decide +kernel
theorem dX2_meanAt_105 : decode cX2_meanAt 105 = .ok (.istore 9, 2) := by decide +kernel
theorem dX2_meanAt_107 : decode cX2_meanAt 107 = .ok (.iload 6, 2) := by decide +kernel
theorem dX2_meanAt_109 : decode cX2_meanAt 109 = .ok (.aload 4, 2) := by decide +kernel
theorem dX2_meanAt_111 : decode cX2_meanAt 111 = .ok (.getfield 61, 3) := by decide +kernel
theorem dX2_meanAt_114 : decode cX2_meanAt 114 = .ok (.if_icmp .lt 9, 3) := by decide +kernel
theorem dX2_meanAt_117 : decode cX2_meanAt 117 = .ok (.iload 9, 2) := by decide +kernel
theorem dX2_meanAt_119 : decode cX2_meanAt 119 = .ok (.iconst 1, 1) := by decide +kernel
theorem dX2_meanAt_120 : decode cX2_meanAt 120 = .ok (.if_icmp .ge 5, 3) := by decide +kernel
theorem dX2_meanAt_123 : decode cX2_meanAt 123 = .ok (.iconst (-1), 1) := by decide +kernel
theorem dX2_meanAt_124 : decode cX2_meanAt 124 = .ok (.ireturn, 1) := by decide +kernel
theorem dX2_meanAt_125 : decode cX2_meanAt 125 = .ok (.iload 7, 2) := by decide +kernel
theorem dX2_meanAt_127 : decode cX2_meanAt 127 = .ok (.iload 9, 2) := by decide +kernel
theorem dX2_meanAt_129 : decode cX2_meanAt 129 = .ok (.iload 6, 2) := by decide +kernel
theorem dX2_meanAt_131 : decode cX2_meanAt 131 = .ok (.isub, 1) := by decide +kernel
theorem dX2_meanAt_132 : decode cX2_meanAt 132 = .ok (.iload 8, 2) := by decide +kernel
theorem dX2_meanAt_134 : decode cX2_meanAt 134 = .ok (.imul, 1) := by decide +kernel
theorem dX2_meanAt_135 : decode cX2_meanAt 135 = .ok (.iadd, 1) := by decide +kernel
theorem dX2_meanAt_136 : decode cX2_meanAt 136 = .ok (.iload 9, 2) := by decide +kernel
theorem dX2_meanAt_138 : decode cX2_meanAt 138 = .ok (.idiv, 1) := by decide +kernel
theorem dX2_meanAt_139 : decode cX2_meanAt 139 = .ok (.ireturn, 1) := by decide +kernel
theorem dX2_subAt_0 : decode cX2_subAt 0 = .ok (.aload_n 0, 1) := by decide +kernel
theorem dX2_subAt_1 : decode cX2_subAt 1 = .ok (.iload_n 2, 1) := by decide +kernel
theorem dX2_subAt_2 : decode cX2_subAt 2 = .ok (.invokevirtual 71, 3) := by decide +kernel
theorem dX2_subAt_5 : decode cX2_subAt 5 = .ok (.astore 4, 2) := by decide +kernel
theorem dX2_subAt_7 : decode cX2_subAt 7 = .ok (.aload_n 0, 1) := by decide +kernel
theorem dX2_subAt_8 : decode cX2_subAt 8 = .ok (.iload_n 1, 1) := by decide +kernel
theorem dX2_subAt_9 : decode cX2_subAt 9 = .ok (.iload_n 2, 1) := by decide +kernel
theorem dX2_subAt_10 : decode cX2_subAt 10 = .ok (.iload_n 3, 1) := by decide +kernel
theorem dX2_subAt_11 : decode cX2_subAt 11 = .ok (.invokevirtual 85, 3) := by decide +kernel
theorem dX2_subAt_14 : decode cX2_subAt 14 = .ok (.istore 5, 2) := by decide +kernel
theorem dX2_subAt_16 : decode cX2_subAt 16 = .ok (.aload 4, 2) := by decide +kernel
theorem dX2_subAt_18 : decode cX2_subAt 18 = .ok (.ifnull 9, 3) := by decide +kernel
theorem dX2_subAt_21 : decode cX2_subAt 21 = .ok (.iload 5, 2) := by decide +kernel
theorem dX2_subAt_23 : decode cX2_subAt 23 = .ok (.iconst (-1), 1) := by decide +kernel
theorem dX2_subAt_24 : decode cX2_subAt 24 = .ok (.if_icmp .ne 7, 3) := by decide +kernel
theorem dX2_subAt_27 : decode cX2_subAt 27 = .ok (.iconst (-1), 1) := by decide +kernel
theorem dX2_subAt_28 : decode cX2_subAt 28 = .ok (.goto 10, 3) := by decide +kernel
theorem dX2_subAt_31 : decode cX2_subAt 31 = .ok (.aload 4, 2) := by decide +kernel
theorem dX2_subAt_33 : decode cX2_subAt 33 = .ok (.iload 5, 2) := by decide +kernel
theorem dX2_subAt_35 : decode cX2_subAt 35 = .ok (.invokevirtual 88, 3) := by decide +kernel
theorem dX2_subAt_38 : decode cX2_subAt 38 = .ok (.ireturn, 1) := by decide +kernel
theorem dX2_indexAt_0 : decode cX2_indexAt 0 = .ok (.iconst (-1), 1) := by decide +kernel
theorem dX2_indexAt_1 : decode cX2_indexAt 1 = .ok (.istore_n 3, 1) := by decide +kernel
theorem dX2_indexAt_2 : decode cX2_indexAt 2 = .ok (.iconst 0, 1) := by decide +kernel
theorem dX2_indexAt_3 : decode cX2_indexAt 3 = .ok (.istore 4, 2) := by decide +kernel
theorem dX2_indexAt_5 : decode cX2_indexAt 5 = .ok (.iload 4, 2) := by decide +kernel
theorem dX2_indexAt_7 : decode cX2_indexAt 7 = .ok (.aload_n 0, 1) := by decide +kernel
theorem dX2_indexAt_8 : decode cX2_indexAt 8 = .ok (.getfield 34, 3) := by decide +kernel
theorem dX2_indexAt_11 : decode cX2_indexAt 11 = .ok (.if_icmp .ge 22, 3) := by decide +kernel
theorem dX2_indexAt_14 : decode cX2_indexAt 14 = .ok (.iload_n 3, 1) := by decide +kernel
theorem dX2_indexAt_15 : decode cX2_indexAt 15 = .ok (.aload_n 0, 1) := by decide +kernel
theorem dX2_indexAt_16 : decode cX2_indexAt 16 = .ok (.iload_n 1, 1) := by decide +kernel
theorem dX2_indexAt_17 : decode cX2_indexAt 17 = .ok (.iload 4, 2) := by decide +kernel
theorem dX2_indexAt_19 : decode cX2_indexAt 19 = .ok (.iload_n 2, 1) := by decide +kernel
theorem dX2_indexAt_20 : decode cX2_indexAt 20 = .ok (.invokevirtual 92, 3) := by decide +kernel
theorem dX2_indexAt_23 : decode cX2_indexAt 23 = .ok (.invokestatic 75, 3) := by decide +kernel
theorem dX2_indexAt_26 : decode cX2_indexAt 26 = .ok (.istore_n 3, 1) := by decide +kernel
theorem dX2_indexAt_27 : decode cX2_indexAt 27 = .ok (.iinc 4 1, 3) := by decide +kernel
theorem dX2_indexAt_30 : decode cX2_indexAt 30 = .ok (.goto (-25), 3) := by decide +kernel
theorem dX2_indexAt_33 : decode cX2_indexAt 33 = .ok (.iload_n 3, 1) := by decide +kernel
theorem dX2_indexAt_34 : decode cX2_indexAt 34 = .ok (.ireturn, 1) := by decide +kernel
theorem dX2_rulingAt_0 : decode cX2_rulingAt 0 = .ok (.aload_n 0, 1) := by decide +kernel
theorem dX2_rulingAt_1 : decode cX2_rulingAt 1 = .ok (.iload_n 1, 1) := by decide +kernel
theorem dX2_rulingAt_2 : decode cX2_rulingAt 2 = .ok (.iload_n 2, 1) := by decide +kernel
theorem dX2_rulingAt_3 : decode cX2_rulingAt 3 = .ok (.invokevirtual 95, 3) := by decide +kernel
theorem dX2_rulingAt_6 : decode cX2_rulingAt 6 = .ok (.istore_n 3, 1) := by decide +kernel
theorem dX2_rulingAt_7 : decode cX2_rulingAt 7 = .ok (.iconst 0, 1) := by decide +kernel
theorem dX2_rulingAt_8 : decode cX2_rulingAt 8 = .ok (.istore 4, 2) := by decide +kernel
theorem dX2_rulingAt_10 : decode cX2_rulingAt 10 = .ok (.iload 4, 2) := by decide +kernel
theorem dX2_rulingAt_12 : decode cX2_rulingAt 12 = .ok (.aload_n 0, 1) := by decide +kernel
theorem dX2_rulingAt_13 : decode cX2_rulingAt 13 = .ok (.getfield 34, 3) := by decide +kernel
theorem dX2_rulingAt_16 : decode cX2_rulingAt 16 = .ok (.if_icmp .ge 29, 3) := by decide +kernel
theorem dX2_rulingAt_19 : decode cX2_rulingAt 19 = .ok (.iload_n 3, 1) := by decide +kernel
theorem dX2_rulingAt_20 : decode cX2_rulingAt 20 = .ok (.iconst (-1), 1) := by decide +kernel
theorem dX2_rulingAt_21 : decode cX2_rulingAt 21 = .ok (.if_icmp .eq 18, 3) := by decide +kernel
theorem dX2_rulingAt_24 : decode cX2_rulingAt 24 = .ok (.aload_n 0, 1) := by decide +kernel
theorem dX2_rulingAt_25 : decode cX2_rulingAt 25 = .ok (.iload_n 1, 1) := by decide +kernel
theorem dX2_rulingAt_26 : decode cX2_rulingAt 26 = .ok (.iload 4, 2) := by decide +kernel
theorem dX2_rulingAt_28 : decode cX2_rulingAt 28 = .ok (.iload_n 2, 1) := by decide +kernel
theorem dX2_rulingAt_29 : decode cX2_rulingAt 29 = .ok (.invokevirtual 92, 3) := by decide +kernel
theorem dX2_rulingAt_32 : decode cX2_rulingAt 32 = .ok (.iload_n 3, 1) := by decide +kernel
theorem dX2_rulingAt_33 : decode cX2_rulingAt 33 = .ok (.if_icmp .ne 6, 3) := by decide +kernel
theorem dX2_rulingAt_36 : decode cX2_rulingAt 36 = .ok (.iload 4, 2) := by decide +kernel
theorem dX2_rulingAt_38 : decode cX2_rulingAt 38 = .ok (.ireturn, 1) := by decide +kernel
theorem dX2_rulingAt_39 : decode cX2_rulingAt 39 = .ok (.iinc 4 1, 3) := by decide +kernel
theorem dX2_rulingAt_42 : decode cX2_rulingAt 42 = .ok (.goto (-32), 3) := by decide +kernel
theorem dX2_rulingAt_45 : decode cX2_rulingAt 45 = .ok (.iconst (-1), 1) := by decide +kernel
theorem dX2_rulingAt_46 : decode cX2_rulingAt 46 = .ok (.ireturn, 1) := by decide +kernel
theorem dX2_worstStationAt_0 : decode cX2_worstStationAt 0 = .ok (.iconst (-1), 1) := by decide +kernel
theorem dX2_worstStationAt_1 : decode cX2_worstStationAt 1 = .ok (.istore_n 3, 1) := by decide +kernel
theorem dX2_worstStationAt_2 : decode cX2_worstStationAt 2 = .ok (.iconst (-1), 1) := by decide +kernel
theorem dX2_worstStationAt_3 : decode cX2_worstStationAt 3 = .ok (.istore 4, 2) := by decide +kernel
theorem dX2_worstStationAt_5 : decode cX2_worstStationAt 5 = .ok (.iconst 0, 1) := by decide +kernel
theorem dX2_worstStationAt_6 : decode cX2_worstStationAt 6 = .ok (.istore 5, 2) := by decide +kernel
theorem dX2_worstStationAt_8 : decode cX2_worstStationAt 8 = .ok (.iload 5, 2) := by decide +kernel
theorem dX2_worstStationAt_10 : decode cX2_worstStationAt 10 = .ok (.aload_n 0, 1) := by decide +kernel
theorem dX2_worstStationAt_11 : decode cX2_worstStationAt 11 = .ok (.getfield 37, 3) := by decide +kernel
theorem dX2_worstStationAt_14 : decode cX2_worstStationAt 14 = .ok (.if_icmp .ge 52, 3) := by decide +kernel
theorem dX2_worstStationAt_17 : decode cX2_worstStationAt 17 = .ok (.iload 5, 2) := by decide +kernel
theorem dX2_worstStationAt_19 : decode cX2_worstStationAt 19 = .ok (.iconst 4, 1) := by decide +kernel
theorem dX2_worstStationAt_20 : decode cX2_worstStationAt 20 = .ok (.if_icmp .ge 46, 3) := by decide +kernel
theorem dX2_worstStationAt_23 : decode cX2_worstStationAt 23 = .ok (.aload_n 0, 1) := by decide +kernel
theorem dX2_worstStationAt_24 : decode cX2_worstStationAt 24 = .ok (.getfield 21, 3) := by decide +kernel
theorem dX2_worstStationAt_27 : decode cX2_worstStationAt 27 = .ok (.iload 5, 2) := by decide +kernel
theorem dX2_worstStationAt_29 : decode cX2_worstStationAt 29 = .ok (.iaload, 1) := by decide +kernel
theorem dX2_worstStationAt_30 : decode cX2_worstStationAt 30 = .ok (.iload_n 1, 1) := by decide +kernel
theorem dX2_worstStationAt_31 : decode cX2_worstStationAt 31 = .ok (.if_icmp .ne 13, 3) := by decide +kernel
theorem dX2_worstStationAt_34 : decode cX2_worstStationAt 34 = .ok (.aload_n 0, 1) := by decide +kernel
theorem dX2_worstStationAt_35 : decode cX2_worstStationAt 35 = .ok (.iload 5, 2) := by decide +kernel
theorem dX2_worstStationAt_37 : decode cX2_worstStationAt 37 = .ok (.iload_n 2, 1) := by decide +kernel
theorem dX2_worstStationAt_38 : decode cX2_worstStationAt 38 = .ok (.invokevirtual 95, 3) := by decide +kernel
theorem dX2_worstStationAt_41 : decode cX2_worstStationAt 41 = .ok (.goto 4, 3) := by decide +kernel
theorem dX2_worstStationAt_44 : decode cX2_worstStationAt 44 = .ok (.iconst (-1), 1) := by decide +kernel
theorem dX2_worstStationAt_45 : decode cX2_worstStationAt 45 = .ok (.istore 6, 2) := by decide +kernel
theorem dX2_worstStationAt_47 : decode cX2_worstStationAt 47 = .ok (.iload 6, 2) := by decide +kernel
theorem dX2_worstStationAt_49 : decode cX2_worstStationAt 49 = .ok (.iload_n 3, 1) := by decide +kernel
theorem dX2_worstStationAt_50 : decode cX2_worstStationAt 50 = .ok (.if_icmp .le 10, 3) := by decide +kernel
theorem dX2_worstStationAt_53 : decode cX2_worstStationAt 53 = .ok (.iload 6, 2) := by decide +kernel
theorem dX2_worstStationAt_55 : decode cX2_worstStationAt 55 = .ok (.istore_n 3, 1) := by decide +kernel
theorem dX2_worstStationAt_56 : decode cX2_worstStationAt 56 = .ok (.iload 5, 2) := by decide +kernel
theorem dX2_worstStationAt_58 : decode cX2_worstStationAt 58 = .ok (.istore 4, 2) := by decide +kernel
theorem dX2_worstStationAt_60 : decode cX2_worstStationAt 60 = .ok (.iinc 5 1, 3) := by decide +kernel
theorem dX2_worstStationAt_63 : decode cX2_worstStationAt 63 = .ok (.goto (-55), 3) := by decide +kernel
theorem dX2_worstStationAt_66 : decode cX2_worstStationAt 66 = .ok (.iload 4, 2) := by decide +kernel
theorem dX2_worstStationAt_68 : decode cX2_worstStationAt 68 = .ok (.ireturn, 1) := by decide +kernel
theorem dX2_countIndexed_0 : decode cX2_countIndexed 0 = .ok (.iconst 0, 1) := by decide +kernel
theorem dX2_countIndexed_1 : decode cX2_countIndexed 1 = .ok (.istore_n 3, 1) := by decide +kernel
theorem dX2_countIndexed_2 : decode cX2_countIndexed 2 = .ok (.iconst 0, 1) := by decide +kernel
theorem dX2_countIndexed_3 : decode cX2_countIndexed 3 = .ok (.istore 4, 2) := by decide +kernel
theorem dX2_countIndexed_5 : decode cX2_countIndexed 5 = .ok (.iload 4, 2) := by decide +kernel
theorem dX2_countIndexed_7 : decode cX2_countIndexed 7 = .ok (.aload_n 0, 1) := by decide +kernel
theorem dX2_countIndexed_8 : decode cX2_countIndexed 8 = .ok (.getfield 37, 3) := by decide +kernel
theorem dX2_countIndexed_11 : decode cX2_countIndexed 11 = .ok (.if_icmp .ge 40, 3) := by decide +kernel
theorem dX2_countIndexed_14 : decode cX2_countIndexed 14 = .ok (.iload 4, 2) := by decide +kernel
theorem dX2_countIndexed_16 : decode cX2_countIndexed 16 = .ok (.iconst 4, 1) := by decide +kernel
theorem dX2_countIndexed_17 : decode cX2_countIndexed 17 = .ok (.if_icmp .ge 34, 3) := by decide +kernel
theorem dX2_countIndexed_20 : decode cX2_countIndexed 20 = .ok (.aload_n 0, 1) := by decide +kernel
theorem dX2_countIndexed_21 : decode cX2_countIndexed 21 = .ok (.getfield 21, 3) := by decide +kernel
theorem dX2_countIndexed_24 : decode cX2_countIndexed 24 = .ok (.iload 4, 2) := by decide +kernel
theorem dX2_countIndexed_26 : decode cX2_countIndexed 26 = .ok (.iaload, 1) := by decide +kernel
theorem dX2_countIndexed_27 : decode cX2_countIndexed 27 = .ok (.iload_n 1, 1) := by decide +kernel
theorem dX2_countIndexed_28 : decode cX2_countIndexed 28 = .ok (.if_icmp .ne 17, 3) := by decide +kernel
theorem dX2_countIndexed_31 : decode cX2_countIndexed 31 = .ok (.aload_n 0, 1) := by decide +kernel
theorem dX2_countIndexed_32 : decode cX2_countIndexed 32 = .ok (.iload 4, 2) := by decide +kernel
theorem dX2_countIndexed_34 : decode cX2_countIndexed 34 = .ok (.iload_n 2, 1) := by decide +kernel
theorem dX2_countIndexed_35 : decode cX2_countIndexed 35 = .ok (.invokevirtual 95, 3) := by decide +kernel
theorem dX2_countIndexed_38 : decode cX2_countIndexed 38 = .ok (.iconst (-1), 1) := by decide +kernel
theorem dX2_countIndexed_39 : decode cX2_countIndexed 39 = .ok (.if_icmp .eq 6, 3) := by decide +kernel
theorem dX2_countIndexed_42 : decode cX2_countIndexed 42 = .ok (.iinc 3 1, 3) := by decide +kernel
theorem dX2_countIndexed_45 : decode cX2_countIndexed 45 = .ok (.iinc 4 1, 3) := by decide +kernel
theorem dX2_countIndexed_48 : decode cX2_countIndexed 48 = .ok (.goto (-43), 3) := by decide +kernel
theorem dX2_countIndexed_51 : decode cX2_countIndexed 51 = .ok (.iload_n 3, 1) := by decide +kernel
theorem dX2_countIndexed_52 : decode cX2_countIndexed 52 = .ok (.ireturn, 1) := by decide +kernel
theorem dX2_bandStart_0 : decode cX2_bandStart 0 = .ok (.iload_n 1, 1) := by decide +kernel
theorem dX2_bandStart_1 : decode cX2_bandStart 1 = .ok (.ifCond .lt 17, 3) := by decide +kernel
theorem dX2_bandStart_4 : decode cX2_bandStart 4 = .ok (.iload_n 1, 1) := by decide +kernel
theorem dX2_bandStart_5 : decode cX2_bandStart 5 = .ok (.iconst 3, 1) := by decide +kernel
theorem dX2_bandStart_6 : decode cX2_bandStart 6 = .ok (.if_icmp .ge 12, 3) := by decide +kernel
theorem dX2_bandStart_9 : decode cX2_bandStart 9 = .ok (.aload_n 0, 1) := by decide +kernel
theorem dX2_bandStart_10 : decode cX2_bandStart 10 = .ok (.getfield 9, 3) := by decide +kernel
theorem dX2_bandStart_13 : decode cX2_bandStart 13 = .ok (.iload_n 1, 1) := by decide +kernel
theorem dX2_bandStart_14 : decode cX2_bandStart 14 = .ok (.iaload, 1) := by decide +kernel
theorem dX2_bandStart_15 : decode cX2_bandStart 15 = .ok (.goto 4, 3) := by decide +kernel
theorem dX2_bandStart_18 : decode cX2_bandStart 18 = .ok (.iconst (-1), 1) := by decide +kernel
theorem dX2_bandStart_19 : decode cX2_bandStart 19 = .ok (.ireturn, 1) := by decide +kernel
theorem dX2_bandOf_0 : decode cX2_bandOf 0 = .ok (.iload_n 1, 1) := by decide +kernel
theorem dX2_bandOf_1 : decode cX2_bandOf 1 = .ok (.iconst (-1), 1) := by decide +kernel
theorem dX2_bandOf_2 : decode cX2_bandOf 2 = .ok (.if_icmp .ne 5, 3) := by decide +kernel
theorem dX2_bandOf_5 : decode cX2_bandOf 5 = .ok (.iconst (-1), 1) := by decide +kernel
theorem dX2_bandOf_6 : decode cX2_bandOf 6 = .ok (.ireturn, 1) := by decide +kernel
theorem dX2_bandOf_7 : decode cX2_bandOf 7 = .ok (.iconst 0, 1) := by decide +kernel
theorem dX2_bandOf_8 : decode cX2_bandOf 8 = .ok (.istore_n 2, 1) := by decide +kernel
theorem dX2_bandOf_9 : decode cX2_bandOf 9 = .ok (.iconst 0, 1) := by decide +kernel
theorem dX2_bandOf_10 : decode cX2_bandOf 10 = .ok (.istore_n 3, 1) := by decide +kernel
theorem dX2_bandOf_11 : decode cX2_bandOf 11 = .ok (.iload_n 3, 1) := by decide +kernel
theorem dX2_bandOf_12 : decode cX2_bandOf 12 = .ok (.iconst 3, 1) := by decide +kernel
theorem dX2_bandOf_13 : decode cX2_bandOf 13 = .ok (.if_icmp .ge 22, 3) := by decide +kernel
theorem dX2_bandOf_16 : decode cX2_bandOf 16 = .ok (.aload_n 0, 1) := by decide +kernel
theorem dX2_bandOf_17 : decode cX2_bandOf 17 = .ok (.getfield 9, 3) := by decide +kernel
theorem dX2_bandOf_20 : decode cX2_bandOf 20 = .ok (.iload_n 3, 1) := by decide +kernel
theorem dX2_bandOf_21 : decode cX2_bandOf 21 = .ok (.iaload, 1) := by decide +kernel
theorem dX2_bandOf_22 : decode cX2_bandOf 22 = .ok (.iload_n 1, 1) := by decide +kernel
theorem dX2_bandOf_23 : decode cX2_bandOf 23 = .ok (.if_icmp .gt 6, 3) := by decide +kernel
theorem dX2_bandOf_26 : decode cX2_bandOf 26 = .ok (.iinc 2 1, 3) := by decide +kernel
theorem dX2_bandOf_29 : decode cX2_bandOf 29 = .ok (.iinc 3 1, 3) := by decide +kernel
theorem dX2_bandOf_32 : decode cX2_bandOf 32 = .ok (.goto (-21), 3) := by decide +kernel
theorem dX2_bandOf_35 : decode cX2_bandOf 35 = .ok (.iload_n 2, 1) := by decide +kernel
theorem dX2_bandOf_36 : decode cX2_bandOf 36 = .ok (.ireturn, 1) := by decide +kernel
theorem dX2_forecastBehind_0 : decode cX2_forecastBehind 0 = .ok (.aload_n 0, 1) := by decide +kernel
theorem dX2_forecastBehind_1 : decode cX2_forecastBehind 1 = .ok (.iload_n 1, 1) := by decide +kernel
theorem dX2_forecastBehind_2 : decode cX2_forecastBehind 2 = .ok (.iload_n 2, 1) := by decide +kernel
theorem dX2_forecastBehind_3 : decode cX2_forecastBehind 3 = .ok (.iload_n 3, 1) := by decide +kernel
theorem dX2_forecastBehind_4 : decode cX2_forecastBehind 4 = .ok (.invokevirtual 67, 3) := by decide +kernel
theorem dX2_forecastBehind_7 : decode cX2_forecastBehind 7 = .ok (.ifCond .ne 5, 3) := by decide +kernel
theorem dX2_forecastBehind_10 : decode cX2_forecastBehind 10 = .ok (.iconst (-1), 1) := by decide +kernel
theorem dX2_forecastBehind_11 : decode cX2_forecastBehind 11 = .ok (.ireturn, 1) := by decide +kernel
theorem dX2_forecastBehind_12 : decode cX2_forecastBehind 12 = .ok (.aload_n 0, 1) := by decide +kernel
theorem dX2_forecastBehind_13 : decode cX2_forecastBehind 13 = .ok (.getfield 30, 3) := by decide +kernel
theorem dX2_forecastBehind_16 : decode cX2_forecastBehind 16 = .ok (.i2f, 1) := by decide +kernel
theorem dX2_forecastBehind_17 : decode cX2_forecastBehind 17 = .ok (.ldc 98, 2) := by decide +kernel
theorem dX2_forecastBehind_19 : decode cX2_forecastBehind 19 = .ok (.fdiv, 1) := by decide +kernel
theorem dX2_forecastBehind_20 : decode cX2_forecastBehind 20 = .ok (.fstore 4, 2) := by decide +kernel
theorem dX2_forecastBehind_22 : decode cX2_forecastBehind 22 = .ok (.fconst 0, 1) := by decide +kernel
theorem dX2_forecastBehind_23 : decode cX2_forecastBehind 23 = .ok (.fstore 5, 2) := by decide +kernel
theorem dX2_forecastBehind_25 : decode cX2_forecastBehind 25 = .ok (.iconst 0, 1) := by decide +kernel
theorem dX2_forecastBehind_26 : decode cX2_forecastBehind 26 = .ok (.istore 6, 2) := by decide +kernel
theorem dX2_forecastBehind_28 : decode cX2_forecastBehind 28 = .ok (.iconst 0, 1) := by decide +kernel
theorem dX2_forecastBehind_29 : decode cX2_forecastBehind 29 = .ok (.istore 7, 2) := by decide +kernel
theorem dX2_forecastBehind_31 : decode cX2_forecastBehind 31 = .ok (.iload 7, 2) := by decide +kernel
theorem dX2_forecastBehind_33 : decode cX2_forecastBehind 33 = .ok (.iload_n 3, 1) := by decide +kernel
theorem dX2_forecastBehind_34 : decode cX2_forecastBehind 34 = .ok (.if_icmp .gt 58, 3) := by decide +kernel
theorem dX2_forecastBehind_37 : decode cX2_forecastBehind 37 = .ok (.aload_n 0, 1) := by decide +kernel
theorem dX2_forecastBehind_38 : decode cX2_forecastBehind 38 = .ok (.iload_n 1, 1) := by decide +kernel
theorem dX2_forecastBehind_39 : decode cX2_forecastBehind 39 = .ok (.iload_n 2, 1) := by decide +kernel
theorem dX2_forecastBehind_40 : decode cX2_forecastBehind 40 = .ok (.iload 7, 2) := by decide +kernel
theorem dX2_forecastBehind_42 : decode cX2_forecastBehind 42 = .ok (.invokevirtual 81, 3) := by decide +kernel
theorem dX2_forecastBehind_45 : decode cX2_forecastBehind 45 = .ok (.istore 8, 2) := by decide +kernel
theorem dX2_forecastBehind_47 : decode cX2_forecastBehind 47 = .ok (.iload 8, 2) := by decide +kernel
theorem dX2_forecastBehind_49 : decode cX2_forecastBehind 49 = .ok (.iconst (-1), 1) := by decide +kernel
theorem dX2_forecastBehind_50 : decode cX2_forecastBehind 50 = .ok (.if_icmp .ne 6, 3) := by decide +kernel
theorem dX2_forecastBehind_53 : decode cX2_forecastBehind 53 = .ok (.goto 33, 3) := by decide +kernel
theorem dX2_forecastBehind_56 : decode cX2_forecastBehind 56 = .ok (.iload 6, 2) := by decide +kernel
theorem dX2_forecastBehind_58 : decode cX2_forecastBehind 58 = .ok (.ifCond .eq 20, 3) := by decide +kernel
theorem dX2_forecastBehind_61 : decode cX2_forecastBehind 61 = .ok (.fload 5, 2) := by decide +kernel
theorem dX2_forecastBehind_63 : decode cX2_forecastBehind 63 = .ok (.fload 4, 2) := by decide +kernel
theorem dX2_forecastBehind_65 : decode cX2_forecastBehind 65 = .ok (.iload 8, 2) := by decide +kernel
theorem dX2_forecastBehind_67 : decode cX2_forecastBehind 67 = .ok (.i2f, 1) := by decide +kernel
theorem dX2_forecastBehind_68 : decode cX2_forecastBehind 68 = .ok (.fload 5, 2) := by decide +kernel
theorem dX2_forecastBehind_70 : decode cX2_forecastBehind 70 = .ok (.fsub, 1) := by decide +kernel
theorem dX2_forecastBehind_71 : decode cX2_forecastBehind 71 = .ok (.fmul, 1) := by decide +kernel
theorem dX2_forecastBehind_72 : decode cX2_forecastBehind 72 = .ok (.fadd, 1) := by decide +kernel
theorem dX2_forecastBehind_73 : decode cX2_forecastBehind 73 = .ok (.fstore 5, 2) := by decide +kernel
theorem dX2_forecastBehind_75 : decode cX2_forecastBehind 75 = .ok (.goto 11, 3) := by decide +kernel
theorem dX2_forecastBehind_78 : decode cX2_forecastBehind 78 = .ok (.iload 8, 2) := by decide +kernel
theorem dX2_forecastBehind_80 : decode cX2_forecastBehind 80 = .ok (.i2f, 1) := by decide +kernel
theorem dX2_forecastBehind_81 : decode cX2_forecastBehind 81 = .ok (.fstore 5, 2) := by decide +kernel
theorem dX2_forecastBehind_83 : decode cX2_forecastBehind 83 = .ok (.iconst 1, 1) := by decide +kernel
theorem dX2_forecastBehind_84 : decode cX2_forecastBehind 84 = .ok (.istore 6, 2) := by decide +kernel
theorem dX2_forecastBehind_86 : decode cX2_forecastBehind 86 = .ok (.iinc 7 1, 3) := by decide +kernel
theorem dX2_forecastBehind_89 : decode cX2_forecastBehind 89 = .ok (.goto (-58), 3) := by decide +kernel
theorem dX2_forecastBehind_92 : decode cX2_forecastBehind 92 = .ok (.iload 6, 2) := by decide +kernel
theorem dX2_forecastBehind_94 : decode cX2_forecastBehind 94 = .ok (.ifCond .eq 9, 3) := by decide +kernel
theorem dX2_forecastBehind_97 : decode cX2_forecastBehind 97 = .ok (.fload 5, 2) := by decide +kernel
theorem dX2_forecastBehind_99 : decode cX2_forecastBehind 99 = .ok (.f2i, 1) := by decide +kernel
theorem dX2_forecastBehind_100 : decode cX2_forecastBehind 100 = .ok (.goto 4, 3) := by decide +kernel
theorem dX2_forecastBehind_103 : decode cX2_forecastBehind 103 = .ok (.iconst (-1), 1) := by decide +kernel
theorem dX2_forecastBehind_104 : decode cX2_forecastBehind 104 = .ok (.ireturn, 1) := by decide +kernel
theorem dX3_init_0 : decode cX3_init 0 = .ok (.aload_n 0, 1) := by decide +kernel
theorem dX3_init_1 : decode cX3_init 1 = .ok (.invokespecial 3, 3) := by decide +kernel
theorem dX3_init_4 : decode cX3_init 4 = .ok (.aload_n 0, 1) := by decide +kernel
theorem dX3_init_5 : decode cX3_init 5 = .ok (.iconst 5, 1) := by decide +kernel
theorem dX3_init_6 : decode cX3_init 6 = .ok (.newarray .int, 2) := by decide +kernel
theorem dX3_init_8 : decode cX3_init 8 = .ok (.putfield 9, 3) := by decide +kernel
theorem dX3_init_11 : decode cX3_init 11 = .ok (.aload_n 0, 1) := by decide +kernel
theorem dX3_init_12 : decode cX3_init 12 = .ok (.iconst 5, 1) := by decide +kernel
theorem dX3_init_13 : decode cX3_init 13 = .ok (.newarray .int, 2) := by decide +kernel
theorem dX3_init_15 : decode cX3_init 15 = .ok (.putfield 15, 3) := by decide +kernel
theorem dX3_init_18 : decode cX3_init 18 = .ok (.return_, 1) := by decide +kernel
theorem dX3_addPoint_0 : decode cX3_addPoint 0 = .ok (.aload_n 0, 1) := by decide +kernel
theorem dX3_addPoint_1 : decode cX3_addPoint 1 = .ok (.getfield 18, 3) := by decide +kernel
theorem dX3_addPoint_4 : decode cX3_addPoint 4 = .ok (.ifCond .lt 41, 3) := by decide +kernel
theorem dX3_addPoint_7 : decode cX3_addPoint 7 = .ok (.aload_n 0, 1) := by decide +kernel
theorem dX3_addPoint_8 : decode cX3_addPoint 8 = .ok (.getfield 18, 3) := by decide +kernel
theorem dX3_addPoint_11 : decode cX3_addPoint 11 = .ok (.iconst 5, 1) := by decide +kernel
theorem dX3_addPoint_12 : decode cX3_addPoint 12 = .ok (.if_icmp .ge 33, 3) := by decide +kernel
theorem dX3_addPoint_15 : decode cX3_addPoint 15 = .ok (.aload_n 0, 1) := by decide +kernel
theorem dX3_addPoint_16 : decode cX3_addPoint 16 = .ok (.getfield 9, 3) := by decide +kernel
theorem dX3_addPoint_19 : decode cX3_addPoint 19 = .ok (.aload_n 0, 1) := by decide +kernel
theorem dX3_addPoint_20 : decode cX3_addPoint 20 = .ok (.getfield 18, 3) := by decide +kernel
theorem dX3_addPoint_23 : decode cX3_addPoint 23 = .ok (.iload_n 1, 1) := by decide +kernel
theorem dX3_addPoint_24 : decode cX3_addPoint 24 = .ok (.iastore, 1) := by decide +kernel
theorem dX3_addPoint_25 : decode cX3_addPoint 25 = .ok (.aload_n 0, 1) := by decide +kernel
theorem dX3_addPoint_26 : decode cX3_addPoint 26 = .ok (.getfield 15, 3) := by decide +kernel
theorem dX3_addPoint_29 : decode cX3_addPoint 29 = .ok (.aload_n 0, 1) := by decide +kernel
theorem dX3_addPoint_30 : decode cX3_addPoint 30 = .ok (.getfield 18, 3) := by decide +kernel
theorem dX3_addPoint_33 : decode cX3_addPoint 33 = .ok (.iload_n 2, 1) := by decide +kernel
theorem dX3_addPoint_34 : decode cX3_addPoint 34 = .ok (.iastore, 1) := by decide +kernel
theorem dX3_addPoint_35 : decode cX3_addPoint 35 = .ok (.aload_n 0, 1) := by decide +kernel
theorem dX3_addPoint_36 : decode cX3_addPoint 36 = .ok (.dup, 1) := by decide +kernel
theorem dX3_addPoint_37 : decode cX3_addPoint 37 = .ok (.getfield 18, 3) := by decide +kernel
theorem dX3_addPoint_40 : decode cX3_addPoint 40 = .ok (.iconst 1, 1) := by decide +kernel
theorem dX3_addPoint_41 : decode cX3_addPoint 41 = .ok (.iadd, 1) := by decide +kernel
theorem dX3_addPoint_42 : decode cX3_addPoint 42 = .ok (.putfield 18, 3) := by decide +kernel
theorem dX3_addPoint_45 : decode cX3_addPoint 45 = .ok (.return_, 1) := by decide +kernel
theorem dX3_subAtLevel_0 : decode cX3_subAtLevel 0 = .ok (.aload_n 0, 1) := by decide +kernel
theorem dX3_subAtLevel_1 : decode cX3_subAtLevel 1 = .ok (.getfield 15, 3) := by decide +kernel
theorem dX3_subAtLevel_4 : decode cX3_subAtLevel 4 = .ok (.iconst 0, 1) := by decide +kernel
theorem dX3_subAtLevel_5 : decode cX3_subAtLevel 5 = .ok (.iaload, 1) := by decide +kernel
theorem dX3_subAtLevel_6 : decode cX3_subAtLevel 6 = .ok (.istore_n 2, 1) := by decide +kernel
theorem dX3_subAtLevel_7 : decode cX3_subAtLevel 7 = .ok (.iconst 1, 1) := by decide +kernel
theorem dX3_subAtLevel_8 : decode cX3_subAtLevel 8 = .ok (.istore_n 3, 1) := by decide +kernel
theorem dX3_subAtLevel_9 : decode cX3_subAtLevel 9 = .ok (.iload_n 3, 1) := by decide +kernel
theorem dX3_subAtLevel_10 : decode cX3_subAtLevel 10 = .ok (.aload_n 0, 1) := by decide +kernel
theorem dX3_subAtLevel_11 : decode cX3_subAtLevel 11 = .ok (.getfield 18, 3) := by decide +kernel
theorem dX3_subAtLevel_14 : decode cX3_subAtLevel 14 = .ok (.if_icmp .ge 101, 3) := by decide +kernel
theorem dX3_subAtLevel_17 : decode cX3_subAtLevel 17 = .ok (.iload_n 3, 1) := by decide +kernel
theorem dX3_subAtLevel_18 : decode cX3_subAtLevel 18 = .ok (.iconst 5, 1) := by decide +kernel
theorem dX3_subAtLevel_19 : decode cX3_subAtLevel 19 = .ok (.if_icmp .ge 96, 3) := by decide +kernel
theorem dX3_subAtLevel_22 : decode cX3_subAtLevel 22 = .ok (.iload_n 1, 1) := by decide +kernel
theorem dX3_subAtLevel_23 : decode cX3_subAtLevel 23 = .ok (.aload_n 0, 1) := by decide +kernel
theorem dX3_subAtLevel_24 : decode cX3_subAtLevel 24 = .ok (.getfield 9, 3) := by decide +kernel
theorem dX3_subAtLevel_27 : decode cX3_subAtLevel 27 = .ok (.iload_n 3, 1) := by decide +kernel
theorem dX3_subAtLevel_28 : decode cX3_subAtLevel 28 = .ok (.iconst 1, 1) := by decide +kernel
theorem dX3_subAtLevel_29 : decode cX3_subAtLevel 29 = .ok (.isub, 1) := by decide +kernel
theorem dX3_subAtLevel_30 : decode cX3_subAtLevel 30 = .ok (.iaload, 1) := by decide +kernel
theorem dX3_subAtLevel_31 : decode cX3_subAtLevel 31 = .ok (.isub, 1) := by decide +kernel
theorem dX3_subAtLevel_32 : decode cX3_subAtLevel 32 = .ok (.istore 4, 2) := by decide +kernel
theorem dX3_subAtLevel_34 : decode cX3_subAtLevel 34 = .ok (.aload_n 0, 1) := by decide +kernel
theorem dX3_subAtLevel_35 : decode cX3_subAtLevel 35 = .ok (.getfield 9, 3) := by decide +kernel
theorem dX3_subAtLevel_38 : decode cX3_subAtLevel 38 = .ok (.iload_n 3, 1) := by decide +kernel
theorem dX3_subAtLevel_39 : decode cX3_subAtLevel 39 = .ok (.iaload, 1) := by decide +kernel
theorem dX3_subAtLevel_40 : decode cX3_subAtLevel 40 = .ok (.aload_n 0, 1) := by decide +kernel
theorem dX3_subAtLevel_41 : decode cX3_subAtLevel 41 = .ok (.getfield 9, 3) := by decide +kernel
theorem dX3_subAtLevel_44 : decode cX3_subAtLevel 44 = .ok (.iload_n 3, 1) := by decide +kernel
theorem dX3_subAtLevel_45 : decode cX3_subAtLevel 45 = .ok (.iconst 1, 1) := by decide +kernel
theorem dX3_subAtLevel_46 : decode cX3_subAtLevel 46 = .ok (.isub, 1) := by decide +kernel
theorem dX3_subAtLevel_47 : decode cX3_subAtLevel 47 = .ok (.iaload, 1) := by decide +kernel
theorem dX3_subAtLevel_48 : decode cX3_subAtLevel 48 = .ok (.isub, 1) := by decide +kernel
theorem dX3_subAtLevel_49 : decode cX3_subAtLevel 49 = .ok (.istore 5, 2) := by decide +kernel
theorem dX3_subAtLevel_51 : decode cX3_subAtLevel 51 = .ok (.iload 4, 2) := by decide +kernel
theorem dX3_subAtLevel_53 : decode cX3_subAtLevel 53 = .ok (.iload 5, 2) := by decide +kernel
theorem dX3_subAtLevel_55 : decode cX3_subAtLevel 55 = .ok (.if_icmp .lt 13, 3) := by decide +kernel
theorem dX3_subAtLevel_58 : decode cX3_subAtLevel 58 = .ok (.aload_n 0, 1) := by decide +kernel
theorem dX3_subAtLevel_59 : decode cX3_subAtLevel 59 = .ok (.getfield 15, 3) := by decide +kernel
theorem dX3_subAtLevel_62 : decode cX3_subAtLevel 62 = .ok (.iload_n 3, 1) := by decide +kernel
theorem dX3_subAtLevel_63 : decode cX3_subAtLevel 63 = .ok (.iaload, 1) := by decide +kernel
theorem dX3_subAtLevel_64 : decode cX3_subAtLevel 64 = .ok (.istore_n 2, 1) := by decide +kernel
theorem dX3_subAtLevel_65 : decode cX3_subAtLevel 65 = .ok (.goto 44, 3) := by decide +kernel
theorem dX3_subAtLevel_68 : decode cX3_subAtLevel 68 = .ok (.iload 4, 2) := by decide +kernel
theorem dX3_subAtLevel_70 : decode cX3_subAtLevel 70 = .ok (.ifCond .le 39, 3) := by decide +kernel
theorem dX3_subAtLevel_73 : decode cX3_subAtLevel 73 = .ok (.iload 5, 2) := by decide +kernel
theorem dX3_subAtLevel_75 : decode cX3_subAtLevel 75 = .ok (.ifCond .le 34, 3) := by decide +kernel
theorem dX3_subAtLevel_78 : decode cX3_subAtLevel 78 = .ok (.aload_n 0, 1) := by decide +kernel
theorem dX3_subAtLevel_79 : decode cX3_subAtLevel 79 = .ok (.getfield 15, 3) := by decide +kernel
theorem dX3_subAtLevel_82 : decode cX3_subAtLevel 82 = .ok (.iload_n 3, 1) := by decide +kernel
theorem dX3_subAtLevel_83 : decode cX3_subAtLevel 83 = .ok (.iconst 1, 1) := by decide +kernel
theorem dX3_subAtLevel_84 : decode cX3_subAtLevel 84 = .ok (.isub, 1) := by decide +kernel
theorem dX3_subAtLevel_85 : decode cX3_subAtLevel 85 = .ok (.iaload, 1) := by decide +kernel
theorem dX3_subAtLevel_86 : decode cX3_subAtLevel 86 = .ok (.iload 4, 2) := by decide +kernel
theorem dX3_subAtLevel_88 : decode cX3_subAtLevel 88 = .ok (.aload_n 0, 1) := by decide +kernel
theorem dX3_subAtLevel_89 : decode cX3_subAtLevel 89 = .ok (.getfield 15, 3) := by decide +kernel
theorem dX3_subAtLevel_92 : decode cX3_subAtLevel 92 = .ok (.iload_n 3, 1) := by decide +kernel
theorem dX3_subAtLevel_93 : decode cX3_subAtLevel 93 = .ok (.iaload, 1) := by decide +kernel
theorem dX3_subAtLevel_94 : decode cX3_subAtLevel 94 = .ok (.aload_n 0, 1) := by decide +kernel
theorem dX3_subAtLevel_95 : decode cX3_subAtLevel 95 = .ok (.getfield 15, 3) := by decide +kernel
theorem dX3_subAtLevel_98 : decode cX3_subAtLevel 98 = .ok (.iload_n 3, 1) := by decide +kernel
theorem dX3_subAtLevel_99 : decode cX3_subAtLevel 99 = .ok (.iconst 1, 1) := by decide +kernel
theorem dX3_subAtLevel_100 : decode cX3_subAtLevel 100 = .ok (.isub, 1) := by decide +kernel
theorem dX3_subAtLevel_101 : decode cX3_subAtLevel 101 = .ok (.iaload, 1) := by decide +kernel
theorem dX3_subAtLevel_102 : decode cX3_subAtLevel 102 = .ok (.isub, 1) := by decide +kernel
theorem dX3_subAtLevel_103 : decode cX3_subAtLevel 103 = .ok (.imul, 1) := by decide +kernel
theorem dX3_subAtLevel_104 : decode cX3_subAtLevel 104 = .ok (.iload 5, 2) := by decide +kernel
theorem dX3_subAtLevel_106 : decode cX3_subAtLevel 106 = .ok (.idiv, 1) := by decide +kernel
theorem dX3_subAtLevel_107 : decode cX3_subAtLevel 107 = .ok (.iadd, 1) := by decide +kernel
theorem dX3_subAtLevel_108 : decode cX3_subAtLevel 108 = .ok (.istore_n 2, 1) := by decide +kernel
theorem dX3_subAtLevel_109 : decode cX3_subAtLevel 109 = .ok (.iinc 3 1, 3) := by decide +kernel
theorem dX3_subAtLevel_112 : decode cX3_subAtLevel 112 = .ok (.goto (-103), 3) := by decide +kernel
theorem dX3_subAtLevel_115 : decode cX3_subAtLevel 115 = .ok (.iload_n 2, 1) := by decide +kernel
theorem dX3_subAtLevel_116 : decode cX3_subAtLevel 116 = .ok (.ireturn, 1) := by decide +kernel
theorem dX4_init_0 : decode cX4_init 0 = .ok (.aload_n 0, 1) := by decide +kernel
theorem dX4_init_1 : decode cX4_init 1 = .ok (.invokespecial 3, 3) := by decide +kernel
theorem dX4_init_4 : decode cX4_init 4 = .ok (.aload_n 0, 1) := by decide +kernel
theorem dX4_init_5 : decode cX4_init 5 = .ok (.sipush 640, 3) := by decide +kernel
theorem dX4_init_8 : decode cX4_init 8 = .ok (.newarray .byte, 2) := by decide +kernel
theorem dX4_init_10 : decode cX4_init 10 = .ok (.putfield 9, 3) := by decide +kernel
theorem dX4_init_13 : decode cX4_init 13 = .ok (.return_, 1) := by decide +kernel
theorem dX4_hasRoom_0 : decode cX4_hasRoom 0 = .ok (.aload_n 0, 1) := by decide +kernel
theorem dX4_hasRoom_1 : decode cX4_hasRoom 1 = .ok (.getfield 15, 3) := by decide +kernel
theorem dX4_hasRoom_4 : decode cX4_hasRoom 4 = .ok (.iload_n 1, 1) := by decide +kernel
theorem dX4_hasRoom_5 : decode cX4_hasRoom 5 = .ok (.iadd, 1) := by decide +kernel
theorem dX4_hasRoom_6 : decode cX4_hasRoom 6 = .ok (.sipush 640, 3) := by decide +kernel
theorem dX4_hasRoom_9 : decode cX4_hasRoom 9 = .ok (.if_icmp .gt 7, 3) := by decide +kernel
theorem dX4_hasRoom_12 : decode cX4_hasRoom 12 = .ok (.iconst 1, 1) := by decide +kernel
theorem dX4_hasRoom_13 : decode cX4_hasRoom 13 = .ok (.goto 4, 3) := by decide +kernel
theorem dX4_hasRoom_16 : decode cX4_hasRoom 16 = .ok (.iconst 0, 1) := by decide +kernel
theorem dX4_hasRoom_17 : decode cX4_hasRoom 17 = .ok (.ireturn, 1) := by decide +kernel
theorem dX4_append_0 : decode cX4_append 0 = .ok (.bipush 24, 2) := by decide +kernel
theorem dX4_append_2 : decode cX4_append 2 = .ok (.istore_n 2, 1) := by decide +kernel
theorem dX4_append_3 : decode cX4_append 3 = .ok (.iload_n 2, 1) := by decide +kernel
theorem dX4_append_4 : decode cX4_append 4 = .ok (.ifCond .lt 49, 3) := by decide +kernel
theorem dX4_append_7 : decode cX4_append 7 = .ok (.aload_n 0, 1) := by decide +kernel
theorem dX4_append_8 : decode cX4_append 8 = .ok (.getfield 15, 3) := by decide +kernel
theorem dX4_append_11 : decode cX4_append 11 = .ok (.ifCond .lt 36, 3) := by decide +kernel
theorem dX4_append_14 : decode cX4_append 14 = .ok (.aload_n 0, 1) := by decide +kernel
theorem dX4_append_15 : decode cX4_append 15 = .ok (.getfield 15, 3) := by decide +kernel
theorem dX4_append_18 : decode cX4_append 18 = .ok (.sipush 640, 3) := by decide +kernel
theorem dX4_append_21 : decode cX4_append 21 = .ok (.if_icmp .ge 26, 3) := by decide +kernel
theorem dX4_append_24 : decode cX4_append 24 = .ok (.aload_n 0, 1) := by decide +kernel
theorem dX4_append_25 : decode cX4_append 25 = .ok (.getfield 9, 3) := by decide +kernel
theorem dX4_append_28 : decode cX4_append 28 = .ok (.aload_n 0, 1) := by decide +kernel
theorem dX4_append_29 : decode cX4_append 29 = .ok (.getfield 15, 3) := by decide +kernel
theorem dX4_append_32 : decode cX4_append 32 = .ok (.iload_n 1, 1) := by decide +kernel
theorem dX4_append_33 : decode cX4_append 33 = .ok (.iload_n 2, 1) := by decide +kernel
theorem dX4_append_34 : decode cX4_append 34 = .ok (.ishr, 1) := by decide +kernel
theorem dX4_append_35 : decode cX4_append 35 = .ok (.i2b, 1) := by decide +kernel
theorem dX4_append_36 : decode cX4_append 36 = .ok (.bastore, 1) := by decide +kernel
theorem dX4_append_37 : decode cX4_append 37 = .ok (.aload_n 0, 1) := by decide +kernel
theorem dX4_append_38 : decode cX4_append 38 = .ok (.dup, 1) := by decide +kernel
theorem dX4_append_39 : decode cX4_append 39 = .ok (.getfield 15, 3) := by decide +kernel
theorem dX4_append_42 : decode cX4_append 42 = .ok (.iconst 1, 1) := by decide +kernel
theorem dX4_append_43 : decode cX4_append 43 = .ok (.iadd, 1) := by decide +kernel
theorem dX4_append_44 : decode cX4_append 44 = .ok (.putfield 15, 3) := by decide +kernel
theorem dX4_append_47 : decode cX4_append 47 = .ok (.iinc 2 (-8), 3) := by decide +kernel
theorem dX4_append_50 : decode cX4_append 50 = .ok (.goto (-47), 3) := by decide +kernel
theorem dX4_append_53 : decode cX4_append 53 = .ok (.return_, 1) := by decide +kernel
theorem dX4_cutTo_0 : decode cX4_cutTo 0 = .ok (.iload_n 1, 1) := by decide +kernel
theorem dX4_cutTo_1 : decode cX4_cutTo 1 = .ok (.ifCond .lt 11, 3) := by decide +kernel
theorem dX4_cutTo_4 : decode cX4_cutTo 4 = .ok (.iload_n 1, 1) := by decide +kernel
theorem dX4_cutTo_5 : decode cX4_cutTo 5 = .ok (.aload_n 0, 1) := by decide +kernel
theorem dX4_cutTo_6 : decode cX4_cutTo 6 = .ok (.getfield 15, 3) := by decide +kernel
theorem dX4_cutTo_9 : decode cX4_cutTo 9 = .ok (.if_icmp .le 5, 3) := by decide +kernel
theorem dX4_cutTo_12 : decode cX4_cutTo 12 = .ok (.iconst 0, 1) := by decide +kernel
theorem dX4_cutTo_13 : decode cX4_cutTo 13 = .ok (.ireturn, 1) := by decide +kernel
theorem dX4_cutTo_14 : decode cX4_cutTo 14 = .ok (.aload_n 0, 1) := by decide +kernel
theorem dX4_cutTo_15 : decode cX4_cutTo 15 = .ok (.iload_n 1, 1) := by decide +kernel
theorem dX4_cutTo_16 : decode cX4_cutTo 16 = .ok (.putfield 15, 3) := by decide +kernel
theorem dX4_cutTo_19 : decode cX4_cutTo 19 = .ok (.iconst 1, 1) := by decide +kernel
theorem dX4_cutTo_20 : decode cX4_cutTo 20 = .ok (.ireturn, 1) := by decide +kernel
theorem dX4_byteAt_0 : decode cX4_byteAt 0 = .ok (.iload_n 1, 1) := by decide +kernel
theorem dX4_byteAt_1 : decode cX4_byteAt 1 = .ok (.ifCond .lt 18, 3) := by decide +kernel
theorem dX4_byteAt_4 : decode cX4_byteAt 4 = .ok (.iload_n 1, 1) := by decide +kernel
theorem dX4_byteAt_5 : decode cX4_byteAt 5 = .ok (.aload_n 0, 1) := by decide +kernel
theorem dX4_byteAt_6 : decode cX4_byteAt 6 = .ok (.getfield 15, 3) := by decide +kernel
theorem dX4_byteAt_9 : decode cX4_byteAt 9 = .ok (.if_icmp .ge 10, 3) := by decide +kernel
theorem dX4_byteAt_12 : decode cX4_byteAt 12 = .ok (.iload_n 1, 1) := by decide +kernel
theorem dX4_byteAt_13 : decode cX4_byteAt 13 = .ok (.sipush 640, 3) := by decide +kernel
theorem dX4_byteAt_16 : decode cX4_byteAt 16 = .ok (.if_icmp .lt 5, 3) := by decide +kernel
theorem dX4_byteAt_19 : decode cX4_byteAt 19 = .ok (.iconst (-1), 1) := by decide +kernel
theorem dX4_byteAt_20 : decode cX4_byteAt 20 = .ok (.ireturn, 1) := by decide +kernel
theorem dX4_byteAt_21 : decode cX4_byteAt 21 = .ok (.aload_n 0, 1) := by decide +kernel
theorem dX4_byteAt_22 : decode cX4_byteAt 22 = .ok (.getfield 9, 3) := by decide +kernel
theorem dX4_byteAt_25 : decode cX4_byteAt 25 = .ok (.iload_n 1, 1) := by decide +kernel
theorem dX4_byteAt_26 : decode cX4_byteAt 26 = .ok (.baload, 1) := by decide +kernel
theorem dX4_byteAt_27 : decode cX4_byteAt 27 = .ok (.sipush 255, 3) := by decide +kernel
theorem dX4_byteAt_30 : decode cX4_byteAt 30 = .ok (.iand, 1) := by decide +kernel
theorem dX4_byteAt_31 : decode cX4_byteAt 31 = .ok (.ireturn, 1) := by decide +kernel
theorem dX5_init_0 : decode cX5_init 0 = .ok (.aload_n 0, 1) := by decide +kernel
theorem dX5_init_1 : decode cX5_init 1 = .ok (.invokespecial 3, 3) := by decide +kernel
theorem dX5_init_4 : decode cX5_init 4 = .ok (.aload_n 0, 1) := by decide +kernel
theorem dX5_init_5 : decode cX5_init 5 = .ok (.new 9, 3) := by decide +kernel
theorem dX5_init_8 : decode cX5_init 8 = .ok (.dup, 1) := by decide +kernel
theorem dX5_init_9 : decode cX5_init 9 = .ok (.aload_n 1, 1) := by decide +kernel
theorem dX5_init_10 : decode cX5_init 10 = .ok (.invokespecial 11, 3) := by decide +kernel
theorem dX5_init_13 : decode cX5_init 13 = .ok (.putfield 14, 3) := by decide +kernel
theorem dX5_init_16 : decode cX5_init 16 = .ok (.return_, 1) := by decide +kernel
theorem dX5_begin_0 : decode cX5_begin 0 = .ok (.aload_n 0, 1) := by decide +kernel
theorem dX5_begin_1 : decode cX5_begin 1 = .ok (.iconst 0, 1) := by decide +kernel
theorem dX5_begin_2 : decode cX5_begin 2 = .ok (.putfield 20, 3) := by decide +kernel
theorem dX5_begin_5 : decode cX5_begin 5 = .ok (.aload_n 0, 1) := by decide +kernel
theorem dX5_begin_6 : decode cX5_begin 6 = .ok (.iconst 0, 1) := by decide +kernel
theorem dX5_begin_7 : decode cX5_begin 7 = .ok (.putfield 24, 3) := by decide +kernel
theorem dX5_begin_10 : decode cX5_begin 10 = .ok (.aload_n 0, 1) := by decide +kernel
theorem dX5_begin_11 : decode cX5_begin 11 = .ok (.iconst 0, 1) := by decide +kernel
theorem dX5_begin_12 : decode cX5_begin 12 = .ok (.putfield 27, 3) := by decide +kernel
theorem dX5_begin_15 : decode cX5_begin 15 = .ok (.aload_n 0, 1) := by decide +kernel
theorem dX5_begin_16 : decode cX5_begin 16 = .ok (.iconst 0, 1) := by decide +kernel
theorem dX5_begin_17 : decode cX5_begin 17 = .ok (.putfield 30, 3) := by decide +kernel
theorem dX5_begin_20 : decode cX5_begin 20 = .ok (.aload_n 0, 1) := by decide +kernel
theorem dX5_begin_21 : decode cX5_begin 21 = .ok (.getfield 14, 3) := by decide +kernel
theorem dX5_begin_24 : decode cX5_begin 24 = .ok (.invokevirtual 33, 3) := by decide +kernel
theorem dX5_begin_27 : decode cX5_begin 27 = .ok (.return_, 1) := by decide +kernel
theorem dX5_readsBands_0 : decode cX5_readsBands 0 = .ok (.aload_n 0, 1) := by decide +kernel
theorem dX5_readsBands_1 : decode cX5_readsBands 1 = .ok (.ldc 36, 2) := by decide +kernel
theorem dX5_readsBands_3 : decode cX5_readsBands 3 = .ok (.invokevirtual 38, 3) := by decide +kernel
theorem dX5_readsBands_6 : decode cX5_readsBands 6 = .ok (.ifCond .ne 5, 3) := by decide +kernel
theorem dX5_readsBands_9 : decode cX5_readsBands 9 = .ok (.iconst 0, 1) := by decide +kernel
theorem dX5_readsBands_10 : decode cX5_readsBands 10 = .ok (.ireturn, 1) := by decide +kernel
theorem dX5_readsBands_11 : decode cX5_readsBands 11 = .ok (.iconst 1, 1) := by decide +kernel
theorem dX5_readsBands_12 : decode cX5_readsBands 12 = .ok (.istore_n 2, 1) := by decide +kernel
theorem dX5_readsBands_13 : decode cX5_readsBands 13 = .ok (.iconst 0, 1) := by decide +kernel
theorem dX5_readsBands_14 : decode cX5_readsBands 14 = .ok (.istore_n 3, 1) := by decide +kernel
theorem dX5_readsBands_15 : decode cX5_readsBands 15 = .ok (.iload_n 3, 1) := by decide +kernel
theorem dX5_readsBands_16 : decode cX5_readsBands 16 = .ok (.iconst 3, 1) := by decide +kernel
theorem dX5_readsBands_17 : decode cX5_readsBands 17 = .ok (.if_icmp .ge 38, 3) := by decide +kernel
theorem dX5_readsBands_20 : decode cX5_readsBands 20 = .ok (.aload_n 0, 1) := by decide +kernel
theorem dX5_readsBands_21 : decode cX5_readsBands 21 = .ok (.iload_n 2, 1) := by decide +kernel
theorem dX5_readsBands_22 : decode cX5_readsBands 22 = .ok (.sipush 500, 3) := by decide +kernel
theorem dX5_readsBands_25 : decode cX5_readsBands 25 = .ok (.invokevirtual 42, 3) := by decide +kernel
theorem dX5_readsBands_28 : decode cX5_readsBands 28 = .ok (.ifCond .ne 5, 3) := by decide +kernel
theorem dX5_readsBands_31 : decode cX5_readsBands 31 = .ok (.iconst 0, 1) := by decide +kernel
theorem dX5_readsBands_32 : decode cX5_readsBands 32 = .ok (.ireturn, 1) := by decide +kernel
theorem dX5_readsBands_33 : decode cX5_readsBands 33 = .ok (.aload_n 1, 1) := by decide +kernel
theorem dX5_readsBands_34 : decode cX5_readsBands 34 = .ok (.iload_n 3, 1) := by decide +kernel
theorem dX5_readsBands_35 : decode cX5_readsBands 35 = .ok (.aload_n 0, 1) := by decide +kernel
theorem dX5_readsBands_36 : decode cX5_readsBands 36 = .ok (.getfield 46, 3) := by decide +kernel
theorem dX5_readsBands_39 : decode cX5_readsBands 39 = .ok (.invokevirtual 49, 3) := by decide +kernel
theorem dX5_readsBands_42 : decode cX5_readsBands 42 = .ok (.aload_n 0, 1) := by decide +kernel
theorem dX5_readsBands_43 : decode cX5_readsBands 43 = .ok (.getfield 46, 3) := by decide +kernel
theorem dX5_readsBands_46 : decode cX5_readsBands 46 = .ok (.iconst 1, 1) := by decide +kernel
theorem dX5_readsBands_47 : decode cX5_readsBands 47 = .ok (.iadd, 1) := by decide +kernel
theorem dX5_readsBands_48 : decode cX5_readsBands 48 = .ok (.istore_n 2, 1) := by decide +kernel
theorem dX5_readsBands_49 : decode cX5_readsBands 49 = .ok (.iinc 3 1, 3) := by decide +kernel
theorem dX5_readsBands_52 : decode cX5_readsBands 52 = .ok (.goto (-37), 3) := by decide +kernel
theorem dX5_readsBands_55 : decode cX5_readsBands 55 = .ok (.aload_n 0, 1) := by decide +kernel
theorem dX5_readsBands_56 : decode cX5_readsBands 56 = .ok (.invokevirtual 55, 3) := by decide +kernel
theorem dX5_readsBands_59 : decode cX5_readsBands 59 = .ok (.ireturn, 1) := by decide +kernel
theorem dX5_readsShare_0 : decode cX5_readsShare 0 = .ok (.aload_n 0, 1) := by decide +kernel
theorem dX5_readsShare_1 : decode cX5_readsShare 1 = .ok (.ldc 59, 2) := by decide +kernel
theorem dX5_readsShare_3 : decode cX5_readsShare 3 = .ok (.invokevirtual 38, 3) := by decide +kernel
theorem dX5_readsShare_6 : decode cX5_readsShare 6 = .ok (.ifCond .eq 13, 3) := by decide +kernel
theorem dX5_readsShare_9 : decode cX5_readsShare 9 = .ok (.aload_n 0, 1) := by decide +kernel
theorem dX5_readsShare_10 : decode cX5_readsShare 10 = .ok (.iconst 0, 1) := by decide +kernel
theorem dX5_readsShare_11 : decode cX5_readsShare 11 = .ok (.bipush 100, 2) := by decide +kernel
theorem dX5_readsShare_13 : decode cX5_readsShare 13 = .ok (.invokevirtual 42, 3) := by decide +kernel
theorem dX5_readsShare_16 : decode cX5_readsShare 16 = .ok (.ifCond .ne 5, 3) := by decide +kernel
theorem dX5_readsShare_19 : decode cX5_readsShare 19 = .ok (.iconst 0, 1) := by decide +kernel
theorem dX5_readsShare_20 : decode cX5_readsShare 20 = .ok (.ireturn, 1) := by decide +kernel
theorem dX5_readsShare_21 : decode cX5_readsShare 21 = .ok (.aload_n 1, 1) := by decide +kernel
theorem dX5_readsShare_22 : decode cX5_readsShare 22 = .ok (.aload_n 0, 1) := by decide +kernel
theorem dX5_readsShare_23 : decode cX5_readsShare 23 = .ok (.getfield 46, 3) := by decide +kernel
theorem dX5_readsShare_26 : decode cX5_readsShare 26 = .ok (.putfield 61, 3) := by decide +kernel
theorem dX5_readsShare_29 : decode cX5_readsShare 29 = .ok (.aload_n 0, 1) := by decide +kernel
theorem dX5_readsShare_30 : decode cX5_readsShare 30 = .ok (.invokevirtual 55, 3) := by decide +kernel
theorem dX5_readsShare_33 : decode cX5_readsShare 33 = .ok (.ireturn, 1) := by decide +kernel
theorem dX5_readsSubstances_0 : decode cX5_readsSubstances 0 = .ok (.iconst 0, 1) := by decide +kernel
theorem dX5_readsSubstances_1 : decode cX5_readsSubstances 1 = .ok (.istore_n 2, 1) := by decide +kernel
theorem dX5_readsSubstances_2 : decode cX5_readsSubstances 2 = .ok (.iload_n 2, 1) := by decide +kernel
theorem dX5_readsSubstances_3 : decode cX5_readsSubstances 3 = .ok (.iconst 3, 1) := by decide +kernel
theorem dX5_readsSubstances_4 : decode cX5_readsSubstances 4 = .ok (.if_icmp .ge 37, 3) := by decide +kernel
theorem dX5_readsSubstances_7 : decode cX5_readsSubstances 7 = .ok (.iload_n 2, 1) := by decide +kernel
theorem dX5_readsSubstances_8 : decode cX5_readsSubstances 8 = .ok (.ifCond .le 17, 3) := by decide +kernel
theorem dX5_readsSubstances_11 : decode cX5_readsSubstances 11 = .ok (.aload_n 0, 1) := by decide +kernel
theorem dX5_readsSubstances_12 : decode cX5_readsSubstances 12 = .ok (.getfield 14, 3) := by decide +kernel
theorem dX5_readsSubstances_15 : decode cX5_readsSubstances 15 = .ok (.ldc 64, 2) := by decide +kernel
theorem dX5_readsSubstances_17 : decode cX5_readsSubstances 17 = .ok (.invokevirtual 66, 3) := by decide +kernel
theorem dX5_readsSubstances_20 : decode cX5_readsSubstances 20 = .ok (.ifCond .ne 5, 3) := by decide +kernel
theorem dX5_readsSubstances_23 : decode cX5_readsSubstances 23 = .ok (.iconst 1, 1) := by decide +kernel
theorem dX5_readsSubstances_24 : decode cX5_readsSubstances 24 = .ok (.ireturn, 1) := by decide +kernel
theorem dX5_readsSubstances_25 : decode cX5_readsSubstances 25 = .ok (.aload_n 0, 1) := by decide +kernel
theorem dX5_readsSubstances_26 : decode cX5_readsSubstances 26 = .ok (.aload_n 1, 1) := by decide +kernel
theorem dX5_readsSubstances_27 : decode cX5_readsSubstances 27 = .ok (.invokevirtual 69, 3) := by decide +kernel
theorem dX5_readsSubstances_30 : decode cX5_readsSubstances 30 = .ok (.ifCond .ne 5, 3) := by decide +kernel
theorem dX5_readsSubstances_33 : decode cX5_readsSubstances 33 = .ok (.iconst 0, 1) := by decide +kernel
theorem dX5_readsSubstances_34 : decode cX5_readsSubstances 34 = .ok (.ireturn, 1) := by decide +kernel
theorem dX5_readsSubstances_35 : decode cX5_readsSubstances 35 = .ok (.iinc 2 1, 3) := by decide +kernel
theorem dX5_readsSubstances_38 : decode cX5_readsSubstances 38 = .ok (.goto (-36), 3) := by decide +kernel
theorem dX5_readsSubstances_41 : decode cX5_readsSubstances 41 = .ok (.aload_n 0, 1) := by decide +kernel
theorem dX5_readsSubstances_42 : decode cX5_readsSubstances 42 = .ok (.getfield 14, 3) := by decide +kernel
theorem dX5_readsSubstances_45 : decode cX5_readsSubstances 45 = .ok (.ldc 64, 2) := by decide +kernel
theorem dX5_readsSubstances_47 : decode cX5_readsSubstances 47 = .ok (.invokevirtual 66, 3) := by decide +kernel
theorem dX5_readsSubstances_50 : decode cX5_readsSubstances 50 = .ok (.ifCond .eq 11, 3) := by decide +kernel
theorem dX5_readsSubstances_53 : decode cX5_readsSubstances 53 = .ok (.aload_n 0, 1) := by decide +kernel
theorem dX5_readsSubstances_54 : decode cX5_readsSubstances 54 = .ok (.iconst 3, 1) := by decide +kernel
theorem dX5_readsSubstances_55 : decode cX5_readsSubstances 55 = .ok (.invokevirtual 73, 3) := by decide +kernel
theorem dX5_readsSubstances_58 : decode cX5_readsSubstances 58 = .ok (.ifCond .eq 7, 3) := by decide +kernel
theorem dX5_readsSubstances_61 : decode cX5_readsSubstances 61 = .ok (.iconst 1, 1) := by decide +kernel
theorem dX5_readsSubstances_62 : decode cX5_readsSubstances 62 = .ok (.goto 4, 3) := by decide +kernel
theorem dX5_readsSubstances_65 : decode cX5_readsSubstances 65 = .ok (.iconst 0, 1) := by decide +kernel
theorem dX5_readsSubstances_66 : decode cX5_readsSubstances 66 = .ok (.ireturn, 1) := by decide +kernel
theorem dX5_readsSubstance_0 : decode cX5_readsSubstance 0 = .ok (.aload_n 0, 1) := by decide +kernel
theorem dX5_readsSubstance_1 : decode cX5_readsSubstance 1 = .ok (.ldc 64, 2) := by decide +kernel
theorem dX5_readsSubstance_3 : decode cX5_readsSubstance 3 = .ok (.invokevirtual 38, 3) := by decide +kernel
theorem dX5_readsSubstance_6 : decode cX5_readsSubstance 6 = .ok (.ifCond .eq 13, 3) := by decide +kernel
theorem dX5_readsSubstance_9 : decode cX5_readsSubstance 9 = .ok (.aload_n 0, 1) := by decide +kernel
theorem dX5_readsSubstance_10 : decode cX5_readsSubstance 10 = .ok (.iconst 1, 1) := by decide +kernel
theorem dX5_readsSubstance_11 : decode cX5_readsSubstance 11 = .ok (.bipush 12, 2) := by decide +kernel
theorem dX5_readsSubstance_13 : decode cX5_readsSubstance 13 = .ok (.invokevirtual 42, 3) := by decide +kernel
theorem dX5_readsSubstance_16 : decode cX5_readsSubstance 16 = .ok (.ifCond .ne 5, 3) := by decide +kernel
theorem dX5_readsSubstance_19 : decode cX5_readsSubstance 19 = .ok (.iconst 0, 1) := by decide +kernel
theorem dX5_readsSubstance_20 : decode cX5_readsSubstance 20 = .ok (.ireturn, 1) := by decide +kernel
theorem dX5_readsSubstance_21 : decode cX5_readsSubstance 21 = .ok (.aload_n 0, 1) := by decide +kernel
theorem dX5_readsSubstance_22 : decode cX5_readsSubstance 22 = .ok (.getfield 46, 3) := by decide +kernel
theorem dX5_readsSubstance_25 : decode cX5_readsSubstance 25 = .ok (.istore_n 2, 1) := by decide +kernel
theorem dX5_readsSubstance_26 : decode cX5_readsSubstance 26 = .ok (.aload_n 0, 1) := by decide +kernel
theorem dX5_readsSubstance_27 : decode cX5_readsSubstance 27 = .ok (.iconst 1, 1) := by decide +kernel
theorem dX5_readsSubstance_28 : decode cX5_readsSubstance 28 = .ok (.iload_n 2, 1) := by decide +kernel
theorem dX5_readsSubstance_29 : decode cX5_readsSubstance 29 = .ok (.invokevirtual 42, 3) := by decide +kernel
theorem dX5_readsSubstance_32 : decode cX5_readsSubstance 32 = .ok (.ifCond .ne 5, 3) := by decide +kernel
theorem dX5_readsSubstance_35 : decode cX5_readsSubstance 35 = .ok (.iconst 0, 1) := by decide +kernel
theorem dX5_readsSubstance_36 : decode cX5_readsSubstance 36 = .ok (.ireturn, 1) := by decide +kernel
theorem dX5_readsSubstance_37 : decode cX5_readsSubstance 37 = .ok (.aload_n 1, 1) := by decide +kernel
theorem dX5_readsSubstance_38 : decode cX5_readsSubstance 38 = .ok (.iload_n 2, 1) := by decide +kernel
theorem dX5_readsSubstance_39 : decode cX5_readsSubstance 39 = .ok (.aload_n 0, 1) := by decide +kernel
theorem dX5_readsSubstance_40 : decode cX5_readsSubstance 40 = .ok (.getfield 46, 3) := by decide +kernel
theorem dX5_readsSubstance_43 : decode cX5_readsSubstance 43 = .ok (.invokevirtual 77, 3) := by decide +kernel
theorem dX5_readsSubstance_46 : decode cX5_readsSubstance 46 = .ok (.astore_n 3, 1) := by decide +kernel
theorem dX5_readsSubstance_47 : decode cX5_readsSubstance 47 = .ok (.aload_n 3, 1) := by decide +kernel
theorem dX5_readsSubstance_48 : decode cX5_readsSubstance 48 = .ok (.ifnull 22, 3) := by decide +kernel
theorem dX5_readsSubstance_51 : decode cX5_readsSubstance 51 = .ok (.aload_n 0, 1) := by decide +kernel
theorem dX5_readsSubstance_52 : decode cX5_readsSubstance 52 = .ok (.aload_n 3, 1) := by decide +kernel
theorem dX5_readsSubstance_53 : decode cX5_readsSubstance 53 = .ok (.invokevirtual 81, 3) := by decide +kernel
theorem dX5_readsSubstance_56 : decode cX5_readsSubstance 56 = .ok (.ifCond .eq 14, 3) := by decide +kernel
theorem dX5_readsSubstance_59 : decode cX5_readsSubstance 59 = .ok (.aload_n 0, 1) := by decide +kernel
theorem dX5_readsSubstance_60 : decode cX5_readsSubstance 60 = .ok (.invokevirtual 55, 3) := by decide +kernel
theorem dX5_readsSubstance_63 : decode cX5_readsSubstance 63 = .ok (.ifCond .eq 7, 3) := by decide +kernel
theorem dX5_readsSubstance_66 : decode cX5_readsSubstance 66 = .ok (.iconst 1, 1) := by decide +kernel
theorem dX5_readsSubstance_67 : decode cX5_readsSubstance 67 = .ok (.goto 4, 3) := by decide +kernel
theorem dX5_readsSubstance_70 : decode cX5_readsSubstance 70 = .ok (.iconst 0, 1) := by decide +kernel
theorem dX5_readsSubstance_71 : decode cX5_readsSubstance 71 = .ok (.ireturn, 1) := by decide +kernel
theorem dX5_readsPoints_0 : decode cX5_readsPoints 0 = .ok (.iconst 0, 1) := by decide +kernel
theorem dX5_readsPoints_1 : decode cX5_readsPoints 1 = .ok (.istore_n 2, 1) := by decide +kernel
theorem dX5_readsPoints_2 : decode cX5_readsPoints 2 = .ok (.iconst 0, 1) := by decide +kernel
theorem dX5_readsPoints_3 : decode cX5_readsPoints 3 = .ok (.istore_n 3, 1) := by decide +kernel
theorem dX5_readsPoints_4 : decode cX5_readsPoints 4 = .ok (.iconst 0, 1) := by decide +kernel
theorem dX5_readsPoints_5 : decode cX5_readsPoints 5 = .ok (.istore 4, 2) := by decide +kernel
theorem dX5_readsPoints_7 : decode cX5_readsPoints 7 = .ok (.iload 4, 2) := by decide +kernel
theorem dX5_readsPoints_9 : decode cX5_readsPoints 9 = .ok (.iconst 5, 1) := by decide +kernel
theorem dX5_readsPoints_10 : decode cX5_readsPoints 10 = .ok (.if_icmp .ge 80, 3) := by decide +kernel
theorem dX5_readsPoints_13 : decode cX5_readsPoints 13 = .ok (.iload 4, 2) := by decide +kernel
theorem dX5_readsPoints_15 : decode cX5_readsPoints 15 = .ok (.iconst 2, 1) := by decide +kernel
theorem dX5_readsPoints_16 : decode cX5_readsPoints 16 = .ok (.if_icmp .lt 16, 3) := by decide +kernel
theorem dX5_readsPoints_19 : decode cX5_readsPoints 19 = .ok (.aload_n 0, 1) := by decide +kernel
theorem dX5_readsPoints_20 : decode cX5_readsPoints 20 = .ok (.getfield 14, 3) := by decide +kernel
theorem dX5_readsPoints_23 : decode cX5_readsPoints 23 = .ok (.getfield 85, 3) := by decide +kernel
theorem dX5_readsPoints_26 : decode cX5_readsPoints 26 = .ok (.iconst 3, 1) := by decide +kernel
theorem dX5_readsPoints_27 : decode cX5_readsPoints 27 = .ok (.if_icmp .ne 5, 3) := by decide +kernel
theorem dX5_readsPoints_30 : decode cX5_readsPoints 30 = .ok (.iconst 1, 1) := by decide +kernel
theorem dX5_readsPoints_31 : decode cX5_readsPoints 31 = .ok (.ireturn, 1) := by decide +kernel
theorem dX5_readsPoints_32 : decode cX5_readsPoints 32 = .ok (.aload_n 0, 1) := by decide +kernel
theorem dX5_readsPoints_33 : decode cX5_readsPoints 33 = .ok (.iload_n 2, 1) := by decide +kernel
theorem dX5_readsPoints_34 : decode cX5_readsPoints 34 = .ok (.sipush 999, 3) := by decide +kernel
theorem dX5_readsPoints_37 : decode cX5_readsPoints 37 = .ok (.invokevirtual 42, 3) := by decide +kernel
theorem dX5_readsPoints_40 : decode cX5_readsPoints 40 = .ok (.ifCond .ne 5, 3) := by decide +kernel
theorem dX5_readsPoints_43 : decode cX5_readsPoints 43 = .ok (.iconst 0, 1) := by decide +kernel
theorem dX5_readsPoints_44 : decode cX5_readsPoints 44 = .ok (.ireturn, 1) := by decide +kernel
theorem dX5_readsPoints_45 : decode cX5_readsPoints 45 = .ok (.aload_n 0, 1) := by decide +kernel
theorem dX5_readsPoints_46 : decode cX5_readsPoints 46 = .ok (.getfield 46, 3) := by decide +kernel
theorem dX5_readsPoints_49 : decode cX5_readsPoints 49 = .ok (.istore 5, 2) := by decide +kernel
theorem dX5_readsPoints_51 : decode cX5_readsPoints 51 = .ok (.aload_n 0, 1) := by decide +kernel
theorem dX5_readsPoints_52 : decode cX5_readsPoints 52 = .ok (.iload_n 3, 1) := by decide +kernel
theorem dX5_readsPoints_53 : decode cX5_readsPoints 53 = .ok (.sipush 500, 3) := by decide +kernel
theorem dX5_readsPoints_56 : decode cX5_readsPoints 56 = .ok (.invokevirtual 42, 3) := by decide +kernel
theorem dX5_readsPoints_59 : decode cX5_readsPoints 59 = .ok (.ifCond .ne 5, 3) := by decide +kernel
theorem dX5_readsPoints_62 : decode cX5_readsPoints 62 = .ok (.iconst 0, 1) := by decide +kernel
theorem dX5_readsPoints_63 : decode cX5_readsPoints 63 = .ok (.ireturn, 1) := by decide +kernel
theorem dX5_readsPoints_64 : decode cX5_readsPoints 64 = .ok (.aload_n 1, 1) := by decide +kernel
theorem dX5_readsPoints_65 : decode cX5_readsPoints 65 = .ok (.iload 5, 2) := by decide +kernel
theorem dX5_readsPoints_67 : decode cX5_readsPoints 67 = .ok (.aload_n 0, 1) := by decide +kernel
theorem dX5_readsPoints_68 : decode cX5_readsPoints 68 = .ok (.getfield 46, 3) := by decide +kernel
theorem dX5_readsPoints_71 : decode cX5_readsPoints 71 = .ok (.invokevirtual 88, 3) := by decide +kernel
theorem dX5_readsPoints_74 : decode cX5_readsPoints 74 = .ok (.iload 5, 2) := by decide +kernel
theorem dX5_readsPoints_76 : decode cX5_readsPoints 76 = .ok (.iconst 1, 1) := by decide +kernel
theorem dX5_readsPoints_77 : decode cX5_readsPoints 77 = .ok (.iadd, 1) := by decide +kernel
theorem dX5_readsPoints_78 : decode cX5_readsPoints 78 = .ok (.istore_n 2, 1) := by decide +kernel
theorem dX5_readsPoints_79 : decode cX5_readsPoints 79 = .ok (.aload_n 0, 1) := by decide +kernel
theorem dX5_readsPoints_80 : decode cX5_readsPoints 80 = .ok (.getfield 46, 3) := by decide +kernel
theorem dX5_readsPoints_83 : decode cX5_readsPoints 83 = .ok (.istore_n 3, 1) := by decide +kernel
theorem dX5_readsPoints_84 : decode cX5_readsPoints 84 = .ok (.iinc 4 1, 3) := by decide +kernel
theorem dX5_readsPoints_87 : decode cX5_readsPoints 87 = .ok (.goto (-80), 3) := by decide +kernel
theorem dX5_readsPoints_90 : decode cX5_readsPoints 90 = .ok (.aload_n 0, 1) := by decide +kernel
theorem dX5_readsPoints_91 : decode cX5_readsPoints 91 = .ok (.getfield 14, 3) := by decide +kernel
theorem dX5_readsPoints_94 : decode cX5_readsPoints 94 = .ok (.getfield 85, 3) := by decide +kernel
theorem dX5_readsPoints_97 : decode cX5_readsPoints 97 = .ok (.iconst 3, 1) := by decide +kernel
theorem dX5_readsPoints_98 : decode cX5_readsPoints 98 = .ok (.if_icmp .eq 22, 3) := by decide +kernel
theorem dX5_readsPoints_101 : decode cX5_readsPoints 101 = .ok (.aload_n 0, 1) := by decide +kernel
theorem dX5_readsPoints_102 : decode cX5_readsPoints 102 = .ok (.iload_n 2, 1) := by decide +kernel
theorem dX5_readsPoints_103 : decode cX5_readsPoints 103 = .ok (.sipush 999, 3) := by decide +kernel
theorem dX5_readsPoints_106 : decode cX5_readsPoints 106 = .ok (.invokevirtual 93, 3) := by decide +kernel
theorem dX5_readsPoints_109 : decode cX5_readsPoints 109 = .ok (.ifCond .eq 15, 3) := by decide +kernel
theorem dX5_readsPoints_112 : decode cX5_readsPoints 112 = .ok (.aload_n 0, 1) := by decide +kernel
theorem dX5_readsPoints_113 : decode cX5_readsPoints 113 = .ok (.iconst 3, 1) := by decide +kernel
theorem dX5_readsPoints_114 : decode cX5_readsPoints 114 = .ok (.invokevirtual 73, 3) := by decide +kernel
theorem dX5_readsPoints_117 : decode cX5_readsPoints 117 = .ok (.ifCond .eq 7, 3) := by decide +kernel
theorem dX5_readsPoints_120 : decode cX5_readsPoints 120 = .ok (.iconst 1, 1) := by decide +kernel
theorem dX5_readsPoints_121 : decode cX5_readsPoints 121 = .ok (.goto 4, 3) := by decide +kernel
theorem dX5_readsPoints_124 : decode cX5_readsPoints 124 = .ok (.iconst 0, 1) := by decide +kernel
theorem dX5_readsPoints_125 : decode cX5_readsPoints 125 = .ok (.ireturn, 1) := by decide +kernel
theorem dX5_readsStations_0 : decode cX5_readsStations 0 = .ok (.iconst 0, 1) := by decide +kernel
theorem dX5_readsStations_1 : decode cX5_readsStations 1 = .ok (.istore_n 2, 1) := by decide +kernel
theorem dX5_readsStations_2 : decode cX5_readsStations 2 = .ok (.iload_n 2, 1) := by decide +kernel
theorem dX5_readsStations_3 : decode cX5_readsStations 3 = .ok (.iconst 4, 1) := by decide +kernel
theorem dX5_readsStations_4 : decode cX5_readsStations 4 = .ok (.if_icmp .ge 64, 3) := by decide +kernel
theorem dX5_readsStations_7 : decode cX5_readsStations 7 = .ok (.iload_n 2, 1) := by decide +kernel
theorem dX5_readsStations_8 : decode cX5_readsStations 8 = .ok (.ifCond .le 17, 3) := by decide +kernel
theorem dX5_readsStations_11 : decode cX5_readsStations 11 = .ok (.aload_n 0, 1) := by decide +kernel
theorem dX5_readsStations_12 : decode cX5_readsStations 12 = .ok (.getfield 14, 3) := by decide +kernel
theorem dX5_readsStations_15 : decode cX5_readsStations 15 = .ok (.ldc 96, 2) := by decide +kernel
theorem dX5_readsStations_17 : decode cX5_readsStations 17 = .ok (.invokevirtual 66, 3) := by decide +kernel
theorem dX5_readsStations_20 : decode cX5_readsStations 20 = .ok (.ifCond .ne 5, 3) := by decide +kernel
theorem dX5_readsStations_23 : decode cX5_readsStations 23 = .ok (.iconst 1, 1) := by decide +kernel
theorem dX5_readsStations_24 : decode cX5_readsStations 24 = .ok (.ireturn, 1) := by decide +kernel
theorem dX5_readsStations_25 : decode cX5_readsStations 25 = .ok (.aload_n 0, 1) := by decide +kernel
theorem dX5_readsStations_26 : decode cX5_readsStations 26 = .ok (.ldc 96, 2) := by decide +kernel
theorem dX5_readsStations_28 : decode cX5_readsStations 28 = .ok (.invokevirtual 38, 3) := by decide +kernel
theorem dX5_readsStations_31 : decode cX5_readsStations 31 = .ok (.ifCond .eq 12, 3) := by decide +kernel
theorem dX5_readsStations_34 : decode cX5_readsStations 34 = .ok (.aload_n 0, 1) := by decide +kernel
theorem dX5_readsStations_35 : decode cX5_readsStations 35 = .ok (.iconst 0, 1) := by decide +kernel
theorem dX5_readsStations_36 : decode cX5_readsStations 36 = .ok (.iconst 2, 1) := by decide +kernel
theorem dX5_readsStations_37 : decode cX5_readsStations 37 = .ok (.invokevirtual 42, 3) := by decide +kernel
theorem dX5_readsStations_40 : decode cX5_readsStations 40 = .ok (.ifCond .ne 5, 3) := by decide +kernel
theorem dX5_readsStations_43 : decode cX5_readsStations 43 = .ok (.iconst 0, 1) := by decide +kernel
theorem dX5_readsStations_44 : decode cX5_readsStations 44 = .ok (.ireturn, 1) := by decide +kernel
theorem dX5_readsStations_45 : decode cX5_readsStations 45 = .ok (.aload_n 1, 1) := by decide +kernel
theorem dX5_readsStations_46 : decode cX5_readsStations 46 = .ok (.aload_n 0, 1) := by decide +kernel
theorem dX5_readsStations_47 : decode cX5_readsStations 47 = .ok (.getfield 46, 3) := by decide +kernel
theorem dX5_readsStations_50 : decode cX5_readsStations 50 = .ok (.invokevirtual 98, 3) := by decide +kernel
theorem dX5_readsStations_53 : decode cX5_readsStations 53 = .ok (.aload_n 0, 1) := by decide +kernel
theorem dX5_readsStations_54 : decode cX5_readsStations 54 = .ok (.invokevirtual 55, 3) := by decide +kernel
theorem dX5_readsStations_57 : decode cX5_readsStations 57 = .ok (.ifCond .ne 5, 3) := by decide +kernel
theorem dX5_readsStations_60 : decode cX5_readsStations 60 = .ok (.iconst 0, 1) := by decide +kernel
theorem dX5_readsStations_61 : decode cX5_readsStations 61 = .ok (.ireturn, 1) := by decide +kernel
theorem dX5_readsStations_62 : decode cX5_readsStations 62 = .ok (.iinc 2 1, 3) := by decide +kernel
theorem dX5_readsStations_65 : decode cX5_readsStations 65 = .ok (.goto (-63), 3) := by decide +kernel
theorem dX5_readsStations_68 : decode cX5_readsStations 68 = .ok (.aload_n 0, 1) := by decide +kernel
theorem dX5_readsStations_69 : decode cX5_readsStations 69 = .ok (.getfield 14, 3) := by decide +kernel
theorem dX5_readsStations_72 : decode cX5_readsStations 72 = .ok (.ldc 96, 2) := by decide +kernel
theorem dX5_readsStations_74 : decode cX5_readsStations 74 = .ok (.invokevirtual 66, 3) := by decide +kernel
theorem dX5_readsStations_77 : decode cX5_readsStations 77 = .ok (.ifCond .eq 11, 3) := by decide +kernel
theorem dX5_readsStations_80 : decode cX5_readsStations 80 = .ok (.aload_n 0, 1) := by decide +kernel
theorem dX5_readsStations_81 : decode cX5_readsStations 81 = .ok (.iconst 3, 1) := by decide +kernel
theorem dX5_readsStations_82 : decode cX5_readsStations 82 = .ok (.invokevirtual 73, 3) := by decide +kernel
theorem dX5_readsStations_85 : decode cX5_readsStations 85 = .ok (.ifCond .eq 7, 3) := by decide +kernel
theorem dX5_readsStations_88 : decode cX5_readsStations 88 = .ok (.iconst 1, 1) := by decide +kernel
theorem dX5_readsStations_89 : decode cX5_readsStations 89 = .ok (.goto 4, 3) := by decide +kernel
theorem dX5_readsStations_92 : decode cX5_readsStations 92 = .ok (.iconst 0, 1) := by decide +kernel
theorem dX5_readsStations_93 : decode cX5_readsStations 93 = .ok (.ireturn, 1) := by decide +kernel
theorem dX5_readsAllSeries_0 : decode cX5_readsAllSeries 0 = .ok (.iconst 0, 1) := by decide +kernel
theorem dX5_readsAllSeries_1 : decode cX5_readsAllSeries 1 = .ok (.istore_n 2, 1) := by decide +kernel
theorem dX5_readsAllSeries_2 : decode cX5_readsAllSeries 2 = .ok (.iload_n 2, 1) := by decide +kernel
theorem dX5_readsAllSeries_3 : decode cX5_readsAllSeries 3 = .ok (.bipush 12, 2) := by decide +kernel
theorem dX5_readsAllSeries_5 : decode cX5_readsAllSeries 5 = .ok (.if_icmp .ge 32, 3) := by decide +kernel
theorem dX5_readsAllSeries_8 : decode cX5_readsAllSeries 8 = .ok (.aload_n 0, 1) := by decide +kernel
theorem dX5_readsAllSeries_9 : decode cX5_readsAllSeries 9 = .ok (.getfield 14, 3) := by decide +kernel
theorem dX5_readsAllSeries_12 : decode cX5_readsAllSeries 12 = .ok (.getfield 85, 3) := by decide +kernel
theorem dX5_readsAllSeries_15 : decode cX5_readsAllSeries 15 = .ok (.iconst 4, 1) := by decide +kernel
theorem dX5_readsAllSeries_16 : decode cX5_readsAllSeries 16 = .ok (.if_icmp .ne 5, 3) := by decide +kernel
theorem dX5_readsAllSeries_19 : decode cX5_readsAllSeries 19 = .ok (.iconst 1, 1) := by decide +kernel
theorem dX5_readsAllSeries_20 : decode cX5_readsAllSeries 20 = .ok (.ireturn, 1) := by decide +kernel
theorem dX5_readsAllSeries_21 : decode cX5_readsAllSeries 21 = .ok (.aload_n 0, 1) := by decide +kernel
theorem dX5_readsAllSeries_22 : decode cX5_readsAllSeries 22 = .ok (.aload_n 1, 1) := by decide +kernel
theorem dX5_readsAllSeries_23 : decode cX5_readsAllSeries 23 = .ok (.invokevirtual 102, 3) := by decide +kernel
theorem dX5_readsAllSeries_26 : decode cX5_readsAllSeries 26 = .ok (.ifCond .ne 5, 3) := by decide +kernel
theorem dX5_readsAllSeries_29 : decode cX5_readsAllSeries 29 = .ok (.iconst 0, 1) := by decide +kernel
theorem dX5_readsAllSeries_30 : decode cX5_readsAllSeries 30 = .ok (.ireturn, 1) := by decide +kernel
theorem dX5_readsAllSeries_31 : decode cX5_readsAllSeries 31 = .ok (.iinc 2 1, 3) := by decide +kernel
theorem dX5_readsAllSeries_34 : decode cX5_readsAllSeries 34 = .ok (.goto (-32), 3) := by decide +kernel
theorem dX5_readsAllSeries_37 : decode cX5_readsAllSeries 37 = .ok (.aload_n 0, 1) := by decide +kernel
theorem dX5_readsAllSeries_38 : decode cX5_readsAllSeries 38 = .ok (.getfield 14, 3) := by decide +kernel
theorem dX5_readsAllSeries_41 : decode cX5_readsAllSeries 41 = .ok (.getfield 85, 3) := by decide +kernel
theorem dX5_readsAllSeries_44 : decode cX5_readsAllSeries 44 = .ok (.iconst 4, 1) := by decide +kernel
theorem dX5_readsAllSeries_45 : decode cX5_readsAllSeries 45 = .ok (.if_icmp .eq 11, 3) := by decide +kernel
theorem dX5_readsAllSeries_48 : decode cX5_readsAllSeries 48 = .ok (.aload_n 0, 1) := by decide +kernel
theorem dX5_readsAllSeries_49 : decode cX5_readsAllSeries 49 = .ok (.aload_n 1, 1) := by decide +kernel
theorem dX5_readsAllSeries_50 : decode cX5_readsAllSeries 50 = .ok (.invokevirtual 102, 3) := by decide +kernel
theorem dX5_readsAllSeries_53 : decode cX5_readsAllSeries 53 = .ok (.ifCond .eq 7, 3) := by decide +kernel
theorem dX5_readsAllSeries_56 : decode cX5_readsAllSeries 56 = .ok (.iconst 1, 1) := by decide +kernel
theorem dX5_readsAllSeries_57 : decode cX5_readsAllSeries 57 = .ok (.goto 4, 3) := by decide +kernel
theorem dX5_readsAllSeries_60 : decode cX5_readsAllSeries 60 = .ok (.iconst 0, 1) := by decide +kernel
theorem dX5_readsAllSeries_61 : decode cX5_readsAllSeries 61 = .ok (.ireturn, 1) := by decide +kernel
theorem dX5_readsSeries_0 : decode cX5_readsSeries 0 = .ok (.aload_n 0, 1) := by decide +kernel
theorem dX5_readsSeries_1 : decode cX5_readsSeries 1 = .ok (.ldc 105, 2) := by decide +kernel
theorem dX5_readsSeries_3 : decode cX5_readsSeries 3 = .ok (.invokevirtual 38, 3) := by decide +kernel
theorem dX5_readsSeries_6 : decode cX5_readsSeries 6 = .ok (.ifCond .eq 17, 3) := by decide +kernel
theorem dX5_readsSeries_9 : decode cX5_readsSeries 9 = .ok (.aload_n 0, 1) := by decide +kernel
theorem dX5_readsSeries_10 : decode cX5_readsSeries 10 = .ok (.iconst 0, 1) := by decide +kernel
theorem dX5_readsSeries_11 : decode cX5_readsSeries 11 = .ok (.aload_n 1, 1) := by decide +kernel
theorem dX5_readsSeries_12 : decode cX5_readsSeries 12 = .ok (.getfield 107, 3) := by decide +kernel
theorem dX5_readsSeries_15 : decode cX5_readsSeries 15 = .ok (.iconst 1, 1) := by decide +kernel
theorem dX5_readsSeries_16 : decode cX5_readsSeries 16 = .ok (.isub, 1) := by decide +kernel
theorem dX5_readsSeries_17 : decode cX5_readsSeries 17 = .ok (.invokevirtual 42, 3) := by decide +kernel
theorem dX5_readsSeries_20 : decode cX5_readsSeries 20 = .ok (.ifCond .ne 5, 3) := by decide +kernel
theorem dX5_readsSeries_23 : decode cX5_readsSeries 23 = .ok (.iconst 0, 1) := by decide +kernel
theorem dX5_readsSeries_24 : decode cX5_readsSeries 24 = .ok (.ireturn, 1) := by decide +kernel
theorem dX5_readsSeries_25 : decode cX5_readsSeries 25 = .ok (.aload_n 0, 1) := by decide +kernel
theorem dX5_readsSeries_26 : decode cX5_readsSeries 26 = .ok (.getfield 46, 3) := by decide +kernel
theorem dX5_readsSeries_29 : decode cX5_readsSeries 29 = .ok (.istore_n 2, 1) := by decide +kernel
theorem dX5_readsSeries_30 : decode cX5_readsSeries 30 = .ok (.aload_n 0, 1) := by decide +kernel
theorem dX5_readsSeries_31 : decode cX5_readsSeries 31 = .ok (.iconst 0, 1) := by decide +kernel
theorem dX5_readsSeries_32 : decode cX5_readsSeries 32 = .ok (.aload_n 1, 1) := by decide +kernel
theorem dX5_readsSeries_33 : decode cX5_readsSeries 33 = .ok (.getfield 110, 3) := by decide +kernel
theorem dX5_readsSeries_36 : decode cX5_readsSeries 36 = .ok (.iconst 1, 1) := by decide +kernel
theorem dX5_readsSeries_37 : decode cX5_readsSeries 37 = .ok (.isub, 1) := by decide +kernel
theorem dX5_readsSeries_38 : decode cX5_readsSeries 38 = .ok (.invokevirtual 93, 3) := by decide +kernel
theorem dX5_readsSeries_41 : decode cX5_readsSeries 41 = .ok (.ifCond .ne 5, 3) := by decide +kernel
theorem dX5_readsSeries_44 : decode cX5_readsSeries 44 = .ok (.iconst 0, 1) := by decide +kernel
theorem dX5_readsSeries_45 : decode cX5_readsSeries 45 = .ok (.ireturn, 1) := by decide +kernel
theorem dX5_readsSeries_46 : decode cX5_readsSeries 46 = .ok (.aload_n 0, 1) := by decide +kernel
theorem dX5_readsSeries_47 : decode cX5_readsSeries 47 = .ok (.getfield 14, 3) := by decide +kernel
theorem dX5_readsSeries_50 : decode cX5_readsSeries 50 = .ok (.getfield 113, 3) := by decide +kernel
theorem dX5_readsSeries_53 : decode cX5_readsSeries 53 = .ok (.istore_n 3, 1) := by decide +kernel
theorem dX5_readsSeries_54 : decode cX5_readsSeries 54 = .ok (.iconst 1, 1) := by decide +kernel
theorem dX5_readsSeries_55 : decode cX5_readsSeries 55 = .ok (.iload_n 2, 1) := by decide +kernel
theorem dX5_readsSeries_56 : decode cX5_readsSeries 56 = .ok (.iconst 3, 1) := by decide +kernel
theorem dX5_readsSeries_57 : decode cX5_readsSeries 57 = .ok (.imul, 1) := by decide +kernel
theorem dX5_readsSeries_58 : decode cX5_readsSeries 58 = .ok (.iload_n 3, 1) := by decide +kernel
theorem dX5_readsSeries_59 : decode cX5_readsSeries 59 = .ok (.iadd, 1) := by decide +kernel
theorem dX5_readsSeries_60 : decode cX5_readsSeries 60 = .ok (.ishl, 1) := by decide +kernel
theorem dX5_readsSeries_61 : decode cX5_readsSeries 61 = .ok (.istore 4, 2) := by decide +kernel
theorem dX5_readsSeries_63 : decode cX5_readsSeries 63 = .ok (.aload_n 0, 1) := by decide +kernel
theorem dX5_readsSeries_64 : decode cX5_readsSeries 64 = .ok (.getfield 30, 3) := by decide +kernel
theorem dX5_readsSeries_67 : decode cX5_readsSeries 67 = .ok (.iload 4, 2) := by decide +kernel
theorem dX5_readsSeries_69 : decode cX5_readsSeries 69 = .ok (.iand, 1) := by decide +kernel
theorem dX5_readsSeries_70 : decode cX5_readsSeries 70 = .ok (.ifCond .eq 9, 3) := by decide +kernel
theorem dX5_readsSeries_73 : decode cX5_readsSeries 73 = .ok (.aload_n 0, 1) := by decide +kernel
theorem dX5_readsSeries_74 : decode cX5_readsSeries 74 = .ok (.iconst 2, 1) := by decide +kernel
theorem dX5_readsSeries_75 : decode cX5_readsSeries 75 = .ok (.invokevirtual 73, 3) := by decide +kernel
theorem dX5_readsSeries_78 : decode cX5_readsSeries 78 = .ok (.ireturn, 1) := by decide +kernel
theorem dX5_readsSeries_79 : decode cX5_readsSeries 79 = .ok (.aload_n 0, 1) := by decide +kernel
theorem dX5_readsSeries_80 : decode cX5_readsSeries 80 = .ok (.dup, 1) := by decide +kernel
theorem dX5_readsSeries_81 : decode cX5_readsSeries 81 = .ok (.getfield 30, 3) := by decide +kernel
theorem dX5_readsSeries_84 : decode cX5_readsSeries 84 = .ok (.iload 4, 2) := by decide +kernel
theorem dX5_readsSeries_86 : decode cX5_readsSeries 86 = .ok (.ior, 1) := by decide +kernel
theorem dX5_readsSeries_87 : decode cX5_readsSeries 87 = .ok (.putfield 30, 3) := by decide +kernel
theorem dX5_readsSeries_90 : decode cX5_readsSeries 90 = .ok (.aload_n 0, 1) := by decide +kernel
theorem dX5_readsSeries_91 : decode cX5_readsSeries 91 = .ok (.getfield 14, 3) := by decide +kernel
theorem dX5_readsSeries_94 : decode cX5_readsSeries 94 = .ok (.invokevirtual 116, 3) := by decide +kernel
theorem dX5_readsSeries_97 : decode cX5_readsSeries 97 = .ok (.aload_n 0, 1) := by decide +kernel
theorem dX5_readsSeries_98 : decode cX5_readsSeries 98 = .ok (.aload_n 1, 1) := by decide +kernel
theorem dX5_readsSeries_99 : decode cX5_readsSeries 99 = .ok (.iload_n 2, 1) := by decide +kernel
theorem dX5_readsSeries_100 : decode cX5_readsSeries 100 = .ok (.iload_n 3, 1) := by decide +kernel
theorem dX5_readsSeries_101 : decode cX5_readsSeries 101 = .ok (.invokevirtual 119, 3) := by decide +kernel
theorem dX5_readsSeries_104 : decode cX5_readsSeries 104 = .ok (.ifCond .eq 14, 3) := by decide +kernel
theorem dX5_readsSeries_107 : decode cX5_readsSeries 107 = .ok (.aload_n 0, 1) := by decide +kernel
theorem dX5_readsSeries_108 : decode cX5_readsSeries 108 = .ok (.invokevirtual 55, 3) := by decide +kernel
theorem dX5_readsSeries_111 : decode cX5_readsSeries 111 = .ok (.ifCond .eq 7, 3) := by decide +kernel
theorem dX5_readsSeries_114 : decode cX5_readsSeries 114 = .ok (.iconst 1, 1) := by decide +kernel
theorem dX5_readsSeries_115 : decode cX5_readsSeries 115 = .ok (.goto 4, 3) := by decide +kernel
theorem dX5_readsSeries_118 : decode cX5_readsSeries 118 = .ok (.iconst 0, 1) := by decide +kernel
theorem dX5_readsSeries_119 : decode cX5_readsSeries 119 = .ok (.ireturn, 1) := by decide +kernel
theorem dX5_readsReads_0 : decode cX5_readsReads 0 = .ok (.iconst 0, 1) := by decide +kernel
theorem dX5_readsReads_1 : decode cX5_readsReads 1 = .ok (.istore 4, 2) := by decide +kernel
theorem dX5_readsReads_3 : decode cX5_readsReads 3 = .ok (.iload 4, 2) := by decide +kernel
theorem dX5_readsReads_5 : decode cX5_readsReads 5 = .ok (.bipush 24, 2) := by decide +kernel
theorem dX5_readsReads_7 : decode cX5_readsReads 7 = .ok (.if_icmp .ge 88, 3) := by decide +kernel
theorem dX5_readsReads_10 : decode cX5_readsReads 10 = .ok (.iload 4, 2) := by decide +kernel
theorem dX5_readsReads_12 : decode cX5_readsReads 12 = .ok (.ifCond .le 16, 3) := by decide +kernel
theorem dX5_readsReads_15 : decode cX5_readsReads 15 = .ok (.aload_n 0, 1) := by decide +kernel
theorem dX5_readsReads_16 : decode cX5_readsReads 16 = .ok (.getfield 14, 3) := by decide +kernel
theorem dX5_readsReads_19 : decode cX5_readsReads 19 = .ok (.getfield 85, 3) := by decide +kernel
theorem dX5_readsReads_22 : decode cX5_readsReads 22 = .ok (.iconst 3, 1) := by decide +kernel
theorem dX5_readsReads_23 : decode cX5_readsReads 23 = .ok (.if_icmp .ne 5, 3) := by decide +kernel
theorem dX5_readsReads_26 : decode cX5_readsReads 26 = .ok (.iconst 1, 1) := by decide +kernel
theorem dX5_readsReads_27 : decode cX5_readsReads 27 = .ok (.ireturn, 1) := by decide +kernel
theorem dX5_readsReads_28 : decode cX5_readsReads 28 = .ok (.aload_n 0, 1) := by decide +kernel
theorem dX5_readsReads_29 : decode cX5_readsReads 29 = .ok (.invokevirtual 123, 3) := by decide +kernel
theorem dX5_readsReads_32 : decode cX5_readsReads 32 = .ok (.ifCond .ne 5, 3) := by decide +kernel
theorem dX5_readsReads_35 : decode cX5_readsReads 35 = .ok (.iconst 0, 1) := by decide +kernel
theorem dX5_readsReads_36 : decode cX5_readsReads 36 = .ok (.ireturn, 1) := by decide +kernel
theorem dX5_readsReads_37 : decode cX5_readsReads 37 = .ok (.aload_n 1, 1) := by decide +kernel
theorem dX5_readsReads_38 : decode cX5_readsReads 38 = .ok (.aload_n 1, 1) := by decide +kernel
theorem dX5_readsReads_39 : decode cX5_readsReads 39 = .ok (.getfield 126, 3) := by decide +kernel
theorem dX5_readsReads_42 : decode cX5_readsReads 42 = .ok (.iload 4, 2) := by decide +kernel
theorem dX5_readsReads_44 : decode cX5_readsReads 44 = .ok (.iconst 1, 1) := by decide +kernel
theorem dX5_readsReads_45 : decode cX5_readsReads 45 = .ok (.iadd, 1) := by decide +kernel
theorem dX5_readsReads_46 : decode cX5_readsReads 46 = .ok (.invokestatic 129, 3) := by decide +kernel
theorem dX5_readsReads_49 : decode cX5_readsReads 49 = .ok (.putfield 126, 3) := by decide +kernel
theorem dX5_readsReads_52 : decode cX5_readsReads 52 = .ok (.aload_n 1, 1) := by decide +kernel
theorem dX5_readsReads_53 : decode cX5_readsReads 53 = .ok (.iload_n 2, 1) := by decide +kernel
theorem dX5_readsReads_54 : decode cX5_readsReads 54 = .ok (.iload_n 3, 1) := by decide +kernel
theorem dX5_readsReads_55 : decode cX5_readsReads 55 = .ok (.iload 4, 2) := by decide +kernel
theorem dX5_readsReads_57 : decode cX5_readsReads 57 = .ok (.aload_n 0, 1) := by decide +kernel
theorem dX5_readsReads_58 : decode cX5_readsReads 58 = .ok (.getfield 14, 3) := by decide +kernel
theorem dX5_readsReads_61 : decode cX5_readsReads 61 = .ok (.getfield 85, 3) := by decide +kernel
theorem dX5_readsReads_64 : decode cX5_readsReads 64 = .ok (.iconst 2, 1) := by decide +kernel
theorem dX5_readsReads_65 : decode cX5_readsReads 65 = .ok (.if_icmp .ne 13, 3) := by decide +kernel
theorem dX5_readsReads_68 : decode cX5_readsReads 68 = .ok (.aload_n 0, 1) := by decide +kernel
theorem dX5_readsReads_69 : decode cX5_readsReads 69 = .ok (.getfield 14, 3) := by decide +kernel
theorem dX5_readsReads_72 : decode cX5_readsReads 72 = .ok (.getfield 113, 3) := by decide +kernel
theorem dX5_readsReads_75 : decode cX5_readsReads 75 = .ok (.goto 4, 3) := by decide +kernel
theorem dX5_readsReads_78 : decode cX5_readsReads 78 = .ok (.iconst (-1), 1) := by decide +kernel
theorem dX5_readsReads_79 : decode cX5_readsReads 79 = .ok (.invokevirtual 135, 3) := by decide +kernel
theorem dX5_readsReads_82 : decode cX5_readsReads 82 = .ok (.aload_n 0, 1) := by decide +kernel
theorem dX5_readsReads_83 : decode cX5_readsReads 83 = .ok (.getfield 14, 3) := by decide +kernel
theorem dX5_readsReads_86 : decode cX5_readsReads 86 = .ok (.invokevirtual 116, 3) := by decide +kernel
theorem dX5_readsReads_89 : decode cX5_readsReads 89 = .ok (.iinc 4 1, 3) := by decide +kernel
theorem dX5_readsReads_92 : decode cX5_readsReads 92 = .ok (.goto (-89), 3) := by decide +kernel
theorem dX5_readsReads_95 : decode cX5_readsReads 95 = .ok (.aload_n 0, 1) := by decide +kernel
theorem dX5_readsReads_96 : decode cX5_readsReads 96 = .ok (.getfield 14, 3) := by decide +kernel
theorem dX5_readsReads_99 : decode cX5_readsReads 99 = .ok (.getfield 85, 3) := by decide +kernel
theorem dX5_readsReads_102 : decode cX5_readsReads 102 = .ok (.iconst 3, 1) := by decide +kernel
theorem dX5_readsReads_103 : decode cX5_readsReads 103 = .ok (.if_icmp .eq 18, 3) := by decide +kernel
theorem dX5_readsReads_106 : decode cX5_readsReads 106 = .ok (.aload_n 0, 1) := by decide +kernel
theorem dX5_readsReads_107 : decode cX5_readsReads 107 = .ok (.invokevirtual 123, 3) := by decide +kernel
theorem dX5_readsReads_110 : decode cX5_readsReads 110 = .ok (.ifCond .eq 15, 3) := by decide +kernel
theorem dX5_readsReads_113 : decode cX5_readsReads 113 = .ok (.aload_n 0, 1) := by decide +kernel
theorem dX5_readsReads_114 : decode cX5_readsReads 114 = .ok (.iconst 3, 1) := by decide +kernel
theorem dX5_readsReads_115 : decode cX5_readsReads 115 = .ok (.invokevirtual 73, 3) := by decide +kernel
theorem dX5_readsReads_118 : decode cX5_readsReads 118 = .ok (.ifCond .eq 7, 3) := by decide +kernel
theorem dX5_readsReads_121 : decode cX5_readsReads 121 = .ok (.iconst 1, 1) := by decide +kernel
theorem dX5_readsReads_122 : decode cX5_readsReads 122 = .ok (.goto 4, 3) := by decide +kernel
theorem dX5_readsReads_125 : decode cX5_readsReads 125 = .ok (.iconst 0, 1) := by decide +kernel
theorem dX5_readsReads_126 : decode cX5_readsReads 126 = .ok (.ireturn, 1) := by decide +kernel
theorem dX5_isRead_0 : decode cX5_isRead 0 = .ok (.aload_n 0, 1) := by decide +kernel
theorem dX5_isRead_1 : decode cX5_isRead 1 = .ok (.getfield 14, 3) := by decide +kernel
theorem dX5_isRead_4 : decode cX5_isRead 4 = .ok (.ldc 139, 2) := by decide +kernel
theorem dX5_isRead_6 : decode cX5_isRead 6 = .ok (.invokevirtual 66, 3) := by decide +kernel
theorem dX5_isRead_9 : decode cX5_isRead 9 = .ok (.ifCond .ne 14, 3) := by decide +kernel
theorem dX5_isRead_12 : decode cX5_isRead 12 = .ok (.aload_n 0, 1) := by decide +kernel
theorem dX5_isRead_13 : decode cX5_isRead 13 = .ok (.iconst 0, 1) := by decide +kernel
theorem dX5_isRead_14 : decode cX5_isRead 14 = .ok (.sipush 999, 3) := by decide +kernel
theorem dX5_isRead_17 : decode cX5_isRead 17 = .ok (.invokevirtual 93, 3) := by decide +kernel
theorem dX5_isRead_20 : decode cX5_isRead 20 = .ok (.ifCond .eq 7, 3) := by decide +kernel
theorem dX5_isRead_23 : decode cX5_isRead 23 = .ok (.iconst 1, 1) := by decide +kernel
theorem dX5_isRead_24 : decode cX5_isRead 24 = .ok (.goto 4, 3) := by decide +kernel
theorem dX5_isRead_27 : decode cX5_isRead 27 = .ok (.iconst 0, 1) := by decide +kernel
theorem dX5_isRead_28 : decode cX5_isRead 28 = .ok (.ireturn, 1) := by decide +kernel
theorem dX5_takesWord_0 : decode cX5_takesWord 0 = .ok (.aload_n 0, 1) := by decide +kernel
theorem dX5_takesWord_1 : decode cX5_takesWord 1 = .ok (.getfield 14, 3) := by decide +kernel
theorem dX5_takesWord_4 : decode cX5_takesWord 4 = .ok (.aload_n 1, 1) := by decide +kernel
theorem dX5_takesWord_5 : decode cX5_takesWord 5 = .ok (.invokevirtual 66, 3) := by decide +kernel
theorem dX5_takesWord_8 : decode cX5_takesWord 8 = .ok (.ifCond .ne 9, 3) := by decide +kernel
theorem dX5_takesWord_11 : decode cX5_takesWord 11 = .ok (.aload_n 0, 1) := by decide +kernel
theorem dX5_takesWord_12 : decode cX5_takesWord 12 = .ok (.iconst 1, 1) := by decide +kernel
theorem dX5_takesWord_13 : decode cX5_takesWord 13 = .ok (.invokevirtual 73, 3) := by decide +kernel
theorem dX5_takesWord_16 : decode cX5_takesWord 16 = .ok (.ireturn, 1) := by decide +kernel
theorem dX5_takesWord_17 : decode cX5_takesWord 17 = .ok (.aload_n 0, 1) := by decide +kernel
theorem dX5_takesWord_18 : decode cX5_takesWord 18 = .ok (.getfield 14, 3) := by decide +kernel
theorem dX5_takesWord_21 : decode cX5_takesWord 21 = .ok (.invokevirtual 116, 3) := by decide +kernel
theorem dX5_takesWord_24 : decode cX5_takesWord 24 = .ok (.iconst 1, 1) := by decide +kernel
theorem dX5_takesWord_25 : decode cX5_takesWord 25 = .ok (.ireturn, 1) := by decide +kernel
theorem dX5_takesNumber_0 : decode cX5_takesNumber 0 = .ok (.aload_n 0, 1) := by decide +kernel
theorem dX5_takesNumber_1 : decode cX5_takesNumber 1 = .ok (.iload_n 1, 1) := by decide +kernel
theorem dX5_takesNumber_2 : decode cX5_takesNumber 2 = .ok (.iload_n 2, 1) := by decide +kernel
theorem dX5_takesNumber_3 : decode cX5_takesNumber 3 = .ok (.invokevirtual 93, 3) := by decide +kernel
theorem dX5_takesNumber_6 : decode cX5_takesNumber 6 = .ok (.ifCond .ne 5, 3) := by decide +kernel
theorem dX5_takesNumber_9 : decode cX5_takesNumber 9 = .ok (.iconst 0, 1) := by decide +kernel
theorem dX5_takesNumber_10 : decode cX5_takesNumber 10 = .ok (.ireturn, 1) := by decide +kernel
theorem dX5_takesNumber_11 : decode cX5_takesNumber 11 = .ok (.aload_n 0, 1) := by decide +kernel
theorem dX5_takesNumber_12 : decode cX5_takesNumber 12 = .ok (.aload_n 0, 1) := by decide +kernel
theorem dX5_takesNumber_13 : decode cX5_takesNumber 13 = .ok (.getfield 14, 3) := by decide +kernel
theorem dX5_takesNumber_16 : decode cX5_takesNumber 16 = .ok (.getfield 113, 3) := by decide +kernel
theorem dX5_takesNumber_19 : decode cX5_takesNumber 19 = .ok (.putfield 46, 3) := by decide +kernel
theorem dX5_takesNumber_22 : decode cX5_takesNumber 22 = .ok (.aload_n 0, 1) := by decide +kernel
theorem dX5_takesNumber_23 : decode cX5_takesNumber 23 = .ok (.getfield 14, 3) := by decide +kernel
theorem dX5_takesNumber_26 : decode cX5_takesNumber 26 = .ok (.invokevirtual 116, 3) := by decide +kernel
theorem dX5_takesNumber_29 : decode cX5_takesNumber 29 = .ok (.iconst 1, 1) := by decide +kernel
theorem dX5_takesNumber_30 : decode cX5_takesNumber 30 = .ok (.ireturn, 1) := by decide +kernel
theorem dX5_isNumberWithin_0 : decode cX5_isNumberWithin 0 = .ok (.aload_n 0, 1) := by decide +kernel
theorem dX5_isNumberWithin_1 : decode cX5_isNumberWithin 1 = .ok (.getfield 14, 3) := by decide +kernel
theorem dX5_isNumberWithin_4 : decode cX5_isNumberWithin 4 = .ok (.getfield 85, 3) := by decide +kernel
theorem dX5_isNumberWithin_7 : decode cX5_isNumberWithin 7 = .ok (.iconst 2, 1) := by decide +kernel
theorem dX5_isNumberWithin_8 : decode cX5_isNumberWithin 8 = .ok (.if_icmp .eq 9, 3) := by decide +kernel
end
section
theorem dX5_isNumberWithin_11 : decode cX5_isNumberWithin 11 = .ok (.aload_n 0, 1) := by decide +kernel
theorem dX5_isNumberWithin_12 : decode cX5_isNumberWithin 12 = .ok (.iconst 1, 1) := by decide +kernel
theorem dX5_isNumberWithin_13 : decode cX5_isNumberWithin 13 = .ok (.invokevirtual 73, 3) := by decide +kernel
theorem dX5_isNumberWithin_16 : decode cX5_isNumberWithin 16 = .ok (.ireturn, 1) := by decide +kernel
theorem dX5_isNumberWithin_17 : decode cX5_isNumberWithin 17 = .ok (.aload_n 0, 1) := by decide +kernel
theorem dX5_isNumberWithin_18 : decode cX5_isNumberWithin 18 = .ok (.getfield 14, 3) := by decide +kernel
theorem dX5_isNumberWithin_21 : decode cX5_isNumberWithin 21 = .ok (.getfield 113, 3) := by decide +kernel
theorem dX5_isNumberWithin_24 : decode cX5_isNumberWithin 24 = .ok (.iload_n 1, 1) := by decide +kernel
theorem dX5_isNumberWithin_25 : decode cX5_isNumberWithin 25 = .ok (.if_icmp .lt 14, 3) := by decide +kernel
theorem dX5_isNumberWithin_28 : decode cX5_isNumberWithin 28 = .ok (.aload_n 0, 1) := by decide +kernel
theorem dX5_isNumberWithin_29 : decode cX5_isNumberWithin 29 = .ok (.getfield 14, 3) := by decide +kernel
theorem dX5_isNumberWithin_32 : decode cX5_isNumberWithin 32 = .ok (.getfield 113, 3) := by decide +kernel
theorem dX5_isNumberWithin_35 : decode cX5_isNumberWithin 35 = .ok (.iload_n 2, 1) := by decide +kernel
theorem dX5_isNumberWithin_36 : decode cX5_isNumberWithin 36 = .ok (.if_icmp .le 11, 3) := by decide +kernel
theorem dX5_isNumberWithin_39 : decode cX5_isNumberWithin 39 = .ok (.aload_n 0, 1) := by decide +kernel
theorem dX5_isNumberWithin_40 : decode cX5_isNumberWithin 40 = .ok (.iconst 2, 1) := by decide +kernel
theorem dX5_isNumberWithin_41 : decode cX5_isNumberWithin 41 = .ok (.invokevirtual 73, 3) := by decide +kernel
theorem dX5_isNumberWithin_44 : decode cX5_isNumberWithin 44 = .ok (.ifCond .eq 7, 3) := by decide +kernel
theorem dX5_isNumberWithin_47 : decode cX5_isNumberWithin 47 = .ok (.iconst 1, 1) := by decide +kernel
theorem dX5_isNumberWithin_48 : decode cX5_isNumberWithin 48 = .ok (.goto 4, 3) := by decide +kernel
theorem dX5_isNumberWithin_51 : decode cX5_isNumberWithin 51 = .ok (.iconst 0, 1) := by decide +kernel
theorem dX5_isNumberWithin_52 : decode cX5_isNumberWithin 52 = .ok (.ireturn, 1) := by decide +kernel
theorem dX5_takesSemicolon_0 : decode cX5_takesSemicolon 0 = .ok (.aload_n 0, 1) := by decide +kernel
theorem dX5_takesSemicolon_1 : decode cX5_takesSemicolon 1 = .ok (.getfield 14, 3) := by decide +kernel
theorem dX5_takesSemicolon_4 : decode cX5_takesSemicolon 4 = .ok (.getfield 85, 3) := by decide +kernel
theorem dX5_takesSemicolon_7 : decode cX5_takesSemicolon 7 = .ok (.iconst 3, 1) := by decide +kernel
theorem dX5_takesSemicolon_8 : decode cX5_takesSemicolon 8 = .ok (.if_icmp .eq 9, 3) := by decide +kernel
theorem dX5_takesSemicolon_11 : decode cX5_takesSemicolon 11 = .ok (.aload_n 0, 1) := by decide +kernel
theorem dX5_takesSemicolon_12 : decode cX5_takesSemicolon 12 = .ok (.iconst 1, 1) := by decide +kernel
theorem dX5_takesSemicolon_13 : decode cX5_takesSemicolon 13 = .ok (.invokevirtual 73, 3) := by decide +kernel
theorem dX5_takesSemicolon_16 : decode cX5_takesSemicolon 16 = .ok (.ireturn, 1) := by decide +kernel
theorem dX5_takesSemicolon_17 : decode cX5_takesSemicolon 17 = .ok (.aload_n 0, 1) := by decide +kernel
theorem dX5_takesSemicolon_18 : decode cX5_takesSemicolon 18 = .ok (.dup, 1) := by decide +kernel
theorem dX5_takesSemicolon_19 : decode cX5_takesSemicolon 19 = .ok (.getfield 20, 3) := by decide +kernel
theorem dX5_takesSemicolon_22 : decode cX5_takesSemicolon 22 = .ok (.iconst 1, 1) := by decide +kernel
theorem dX5_takesSemicolon_23 : decode cX5_takesSemicolon 23 = .ok (.iadd, 1) := by decide +kernel
theorem dX5_takesSemicolon_24 : decode cX5_takesSemicolon 24 = .ok (.putfield 20, 3) := by decide +kernel
theorem dX5_takesSemicolon_27 : decode cX5_takesSemicolon 27 = .ok (.aload_n 0, 1) := by decide +kernel
theorem dX5_takesSemicolon_28 : decode cX5_takesSemicolon 28 = .ok (.getfield 14, 3) := by decide +kernel
theorem dX5_takesSemicolon_31 : decode cX5_takesSemicolon 31 = .ok (.invokevirtual 116, 3) := by decide +kernel
theorem dX5_takesSemicolon_34 : decode cX5_takesSemicolon 34 = .ok (.iconst 1, 1) := by decide +kernel
theorem dX5_takesSemicolon_35 : decode cX5_takesSemicolon 35 = .ok (.ireturn, 1) := by decide +kernel
theorem dX5_refuses_0 : decode cX5_refuses 0 = .ok (.aload_n 0, 1) := by decide +kernel
theorem dX5_refuses_1 : decode cX5_refuses 1 = .ok (.iload_n 1, 1) := by decide +kernel
theorem dX5_refuses_2 : decode cX5_refuses 2 = .ok (.putfield 24, 3) := by decide +kernel
theorem dX5_refuses_5 : decode cX5_refuses 5 = .ok (.aload_n 0, 1) := by decide +kernel
theorem dX5_refuses_6 : decode cX5_refuses 6 = .ok (.aload_n 0, 1) := by decide +kernel
theorem dX5_refuses_7 : decode cX5_refuses 7 = .ok (.getfield 14, 3) := by decide +kernel
theorem dX5_refuses_10 : decode cX5_refuses 10 = .ok (.getfield 141, 3) := by decide +kernel
theorem dX5_refuses_13 : decode cX5_refuses 13 = .ok (.putfield 27, 3) := by decide +kernel
theorem dX5_refuses_16 : decode cX5_refuses 16 = .ok (.iconst 0, 1) := by decide +kernel
theorem dX5_refuses_17 : decode cX5_refuses 17 = .ok (.ireturn, 1) := by decide +kernel
theorem dX6_init_0 : decode cX6_init 0 = .ok (.aload_n 0, 1) := by decide +kernel
theorem dX6_init_1 : decode cX6_init 1 = .ok (.invokespecial 3, 3) := by decide +kernel
theorem dX6_init_4 : decode cX6_init 4 = .ok (.aload_n 0, 1) := by decide +kernel
theorem dX6_init_5 : decode cX6_init 5 = .ok (.aload_n 1, 1) := by decide +kernel
theorem dX6_init_6 : decode cX6_init 6 = .ok (.putfield 9, 3) := by decide +kernel
theorem dX6_init_9 : decode cX6_init 9 = .ok (.return_, 1) := by decide +kernel
theorem dX6_moveToFirst_0 : decode cX6_moveToFirst 0 = .ok (.aload_n 0, 1) := by decide +kernel
theorem dX6_moveToFirst_1 : decode cX6_moveToFirst 1 = .ok (.iconst 0, 1) := by decide +kernel
theorem dX6_moveToFirst_2 : decode cX6_moveToFirst 2 = .ok (.putfield 15, 3) := by decide +kernel
theorem dX6_moveToFirst_5 : decode cX6_moveToFirst 5 = .ok (.aload_n 0, 1) := by decide +kernel
theorem dX6_moveToFirst_6 : decode cX6_moveToFirst 6 = .ok (.invokevirtual 19, 3) := by decide +kernel
theorem dX6_moveToFirst_9 : decode cX6_moveToFirst 9 = .ok (.return_, 1) := by decide +kernel
theorem dX6_moveToNext_0 : decode cX6_moveToNext 0 = .ok (.aload_n 0, 1) := by decide +kernel
theorem dX6_moveToNext_1 : decode cX6_moveToNext 1 = .ok (.invokevirtual 22, 3) := by decide +kernel
theorem dX6_moveToNext_4 : decode cX6_moveToNext 4 = .ok (.aload_n 0, 1) := by decide +kernel
theorem dX6_moveToNext_5 : decode cX6_moveToNext 5 = .ok (.getfield 9, 3) := by decide +kernel
theorem dX6_moveToNext_8 : decode cX6_moveToNext 8 = .ok (.getfield 25, 3) := by decide +kernel
theorem dX6_moveToNext_11 : decode cX6_moveToNext 11 = .ok (.sipush 600, 3) := by decide +kernel
theorem dX6_moveToNext_14 : decode cX6_moveToNext 14 = .ok (.invokestatic 30, 3) := by decide +kernel
theorem dX6_moveToNext_17 : decode cX6_moveToNext 17 = .ok (.istore_n 1, 1) := by decide +kernel
theorem dX6_moveToNext_18 : decode cX6_moveToNext 18 = .ok (.aload_n 0, 1) := by decide +kernel
theorem dX6_moveToNext_19 : decode cX6_moveToNext 19 = .ok (.getfield 36, 3) := by decide +kernel
theorem dX6_moveToNext_22 : decode cX6_moveToNext 22 = .ok (.iload_n 1, 1) := by decide +kernel
theorem dX6_moveToNext_23 : decode cX6_moveToNext 23 = .ok (.if_icmp .lt 38, 3) := by decide +kernel
theorem dX6_moveToNext_26 : decode cX6_moveToNext 26 = .ok (.aload_n 0, 1) := by decide +kernel
theorem dX6_moveToNext_27 : decode cX6_moveToNext 27 = .ok (.iload_n 1, 1) := by decide +kernel
theorem dX6_moveToNext_28 : decode cX6_moveToNext 28 = .ok (.putfield 36, 3) := by decide +kernel
theorem dX6_moveToNext_31 : decode cX6_moveToNext 31 = .ok (.aload_n 0, 1) := by decide +kernel
theorem dX6_moveToNext_32 : decode cX6_moveToNext 32 = .ok (.iload_n 1, 1) := by decide +kernel
theorem dX6_moveToNext_33 : decode cX6_moveToNext 33 = .ok (.putfield 15, 3) := by decide +kernel
theorem dX6_moveToNext_36 : decode cX6_moveToNext 36 = .ok (.aload_n 0, 1) := by decide +kernel
theorem dX6_moveToNext_37 : decode cX6_moveToNext 37 = .ok (.aload_n 0, 1) := by decide +kernel
theorem dX6_moveToNext_38 : decode cX6_moveToNext 38 = .ok (.getfield 9, 3) := by decide +kernel
theorem dX6_moveToNext_41 : decode cX6_moveToNext 41 = .ok (.getfield 25, 3) := by decide +kernel
theorem dX6_moveToNext_44 : decode cX6_moveToNext 44 = .ok (.sipush 600, 3) := by decide +kernel
theorem dX6_moveToNext_47 : decode cX6_moveToNext 47 = .ok (.if_icmp .le 7, 3) := by decide +kernel
theorem dX6_moveToNext_50 : decode cX6_moveToNext 50 = .ok (.iconst 0, 1) := by decide +kernel
theorem dX6_moveToNext_51 : decode cX6_moveToNext 51 = .ok (.goto 4, 3) := by decide +kernel
theorem dX6_moveToNext_54 : decode cX6_moveToNext 54 = .ok (.iconst 4, 1) := by decide +kernel
theorem dX6_moveToNext_55 : decode cX6_moveToNext 55 = .ok (.putfield 39, 3) := by decide +kernel
theorem dX6_moveToNext_58 : decode cX6_moveToNext 58 = .ok (.goto 41, 3) := by decide +kernel
theorem dX6_moveToNext_61 : decode cX6_moveToNext 61 = .ok (.aload_n 0, 1) := by decide +kernel
theorem dX6_moveToNext_62 : decode cX6_moveToNext 62 = .ok (.getfield 9, 3) := by decide +kernel
theorem dX6_moveToNext_65 : decode cX6_moveToNext 65 = .ok (.aload_n 0, 1) := by decide +kernel
theorem dX6_moveToNext_66 : decode cX6_moveToNext 66 = .ok (.getfield 36, 3) := by decide +kernel
theorem dX6_moveToNext_69 : decode cX6_moveToNext 69 = .ok (.invokevirtual 42, 3) := by decide +kernel
theorem dX6_moveToNext_72 : decode cX6_moveToNext 72 = .ok (.bipush 59, 2) := by decide +kernel
theorem dX6_moveToNext_74 : decode cX6_moveToNext 74 = .ok (.if_icmp .ne 21, 3) := by decide +kernel
theorem dX6_moveToNext_77 : decode cX6_moveToNext 77 = .ok (.aload_n 0, 1) := by decide +kernel
theorem dX6_moveToNext_78 : decode cX6_moveToNext 78 = .ok (.aload_n 0, 1) := by decide +kernel
theorem dX6_moveToNext_79 : decode cX6_moveToNext 79 = .ok (.getfield 36, 3) := by decide +kernel
theorem dX6_moveToNext_82 : decode cX6_moveToNext 82 = .ok (.iconst 1, 1) := by decide +kernel
theorem dX6_moveToNext_83 : decode cX6_moveToNext 83 = .ok (.iadd, 1) := by decide +kernel
theorem dX6_moveToNext_84 : decode cX6_moveToNext 84 = .ok (.putfield 15, 3) := by decide +kernel
theorem dX6_moveToNext_87 : decode cX6_moveToNext 87 = .ok (.aload_n 0, 1) := by decide +kernel
theorem dX6_moveToNext_88 : decode cX6_moveToNext 88 = .ok (.iconst 3, 1) := by decide +kernel
theorem dX6_moveToNext_89 : decode cX6_moveToNext 89 = .ok (.putfield 39, 3) := by decide +kernel
theorem dX6_moveToNext_92 : decode cX6_moveToNext 92 = .ok (.goto 7, 3) := by decide +kernel
theorem dX6_moveToNext_95 : decode cX6_moveToNext 95 = .ok (.aload_n 0, 1) := by decide +kernel
theorem dX6_moveToNext_96 : decode cX6_moveToNext 96 = .ok (.invokevirtual 46, 3) := by decide +kernel
theorem dX6_moveToNext_99 : decode cX6_moveToNext 99 = .ok (.return_, 1) := by decide +kernel
theorem dX6_isWord_0 : decode cX6_isWord 0 = .ok (.aload_n 0, 1) := by decide +kernel
theorem dX6_isWord_1 : decode cX6_isWord 1 = .ok (.getfield 39, 3) := by decide +kernel
theorem dX6_isWord_4 : decode cX6_isWord 4 = .ok (.iconst 1, 1) := by decide +kernel
theorem dX6_isWord_5 : decode cX6_isWord 5 = .ok (.if_icmp .ne 19, 3) := by decide +kernel
theorem dX6_isWord_8 : decode cX6_isWord 8 = .ok (.aload_n 0, 1) := by decide +kernel
theorem dX6_isWord_9 : decode cX6_isWord 9 = .ok (.getfield 15, 3) := by decide +kernel
theorem dX6_isWord_12 : decode cX6_isWord 12 = .ok (.aload_n 0, 1) := by decide +kernel
theorem dX6_isWord_13 : decode cX6_isWord 13 = .ok (.getfield 36, 3) := by decide +kernel
theorem dX6_isWord_16 : decode cX6_isWord 16 = .ok (.isub, 1) := by decide +kernel
theorem dX6_isWord_17 : decode cX6_isWord 17 = .ok (.aload_n 1, 1) := by decide +kernel
theorem dX6_isWord_18 : decode cX6_isWord 18 = .ok (.invokevirtual 49, 3) := by decide +kernel
theorem dX6_isWord_21 : decode cX6_isWord 21 = .ok (.if_icmp .eq 5, 3) := by decide +kernel
theorem dX6_isWord_24 : decode cX6_isWord 24 = .ok (.iconst 0, 1) := by decide +kernel
theorem dX6_isWord_25 : decode cX6_isWord 25 = .ok (.ireturn, 1) := by decide +kernel
theorem dX6_isWord_26 : decode cX6_isWord 26 = .ok (.iconst 0, 1) := by decide +kernel
theorem dX6_isWord_27 : decode cX6_isWord 27 = .ok (.istore_n 2, 1) := by decide +kernel
theorem dX6_isWord_28 : decode cX6_isWord 28 = .ok (.iload_n 2, 1) := by decide +kernel
theorem dX6_isWord_29 : decode cX6_isWord 29 = .ok (.aload_n 1, 1) := by decide +kernel
theorem dX6_isWord_30 : decode cX6_isWord 30 = .ok (.invokevirtual 49, 3) := by decide +kernel
theorem dX6_isWord_33 : decode cX6_isWord 33 = .ok (.if_icmp .ge 32, 3) := by decide +kernel
theorem dX6_isWord_36 : decode cX6_isWord 36 = .ok (.aload_n 0, 1) := by decide +kernel
theorem dX6_isWord_37 : decode cX6_isWord 37 = .ok (.getfield 9, 3) := by decide +kernel
theorem dX6_isWord_40 : decode cX6_isWord 40 = .ok (.aload_n 0, 1) := by decide +kernel
theorem dX6_isWord_41 : decode cX6_isWord 41 = .ok (.getfield 36, 3) := by decide +kernel
theorem dX6_isWord_44 : decode cX6_isWord 44 = .ok (.iload_n 2, 1) := by decide +kernel
theorem dX6_isWord_45 : decode cX6_isWord 45 = .ok (.iadd, 1) := by decide +kernel
theorem dX6_isWord_46 : decode cX6_isWord 46 = .ok (.invokevirtual 42, 3) := by decide +kernel
theorem dX6_isWord_49 : decode cX6_isWord 49 = .ok (.aload_n 1, 1) := by decide +kernel
theorem dX6_isWord_50 : decode cX6_isWord 50 = .ok (.iload_n 2, 1) := by decide +kernel
theorem dX6_isWord_51 : decode cX6_isWord 51 = .ok (.invokevirtual 54, 3) := by decide +kernel
theorem dX6_isWord_54 : decode cX6_isWord 54 = .ok (.if_icmp .eq 5, 3) := by decide +kernel
theorem dX6_isWord_57 : decode cX6_isWord 57 = .ok (.iconst 0, 1) := by decide +kernel
theorem dX6_isWord_58 : decode cX6_isWord 58 = .ok (.ireturn, 1) := by decide +kernel
theorem dX6_isWord_59 : decode cX6_isWord 59 = .ok (.iinc 2 1, 3) := by decide +kernel
theorem dX6_isWord_62 : decode cX6_isWord 62 = .ok (.goto (-34), 3) := by decide +kernel
theorem dX6_isWord_65 : decode cX6_isWord 65 = .ok (.iconst 1, 1) := by decide +kernel
theorem dX6_isWord_66 : decode cX6_isWord 66 = .ok (.ireturn, 1) := by decide +kernel
theorem dX6_skipBlanks_0 : decode cX6_skipBlanks 0 = .ok (.aload_n 0, 1) := by decide +kernel
theorem dX6_skipBlanks_1 : decode cX6_skipBlanks 1 = .ok (.aload_n 0, 1) := by decide +kernel
theorem dX6_skipBlanks_2 : decode cX6_skipBlanks 2 = .ok (.getfield 15, 3) := by decide +kernel
theorem dX6_skipBlanks_5 : decode cX6_skipBlanks 5 = .ok (.putfield 36, 3) := by decide +kernel
theorem dX6_skipBlanks_8 : decode cX6_skipBlanks 8 = .ok (.aload_n 0, 1) := by decide +kernel
theorem dX6_skipBlanks_9 : decode cX6_skipBlanks 9 = .ok (.getfield 36, 3) := by decide +kernel
theorem dX6_skipBlanks_12 : decode cX6_skipBlanks 12 = .ok (.ifCond .lt 66, 3) := by decide +kernel
theorem dX6_skipBlanks_15 : decode cX6_skipBlanks 15 = .ok (.aload_n 0, 1) := by decide +kernel
theorem dX6_skipBlanks_16 : decode cX6_skipBlanks 16 = .ok (.getfield 36, 3) := by decide +kernel
theorem dX6_skipBlanks_19 : decode cX6_skipBlanks 19 = .ok (.aload_n 0, 1) := by decide +kernel
theorem dX6_skipBlanks_20 : decode cX6_skipBlanks 20 = .ok (.getfield 9, 3) := by decide +kernel
theorem dX6_skipBlanks_23 : decode cX6_skipBlanks 23 = .ok (.getfield 25, 3) := by decide +kernel
theorem dX6_skipBlanks_26 : decode cX6_skipBlanks 26 = .ok (.if_icmp .ge 52, 3) := by decide +kernel
theorem dX6_skipBlanks_29 : decode cX6_skipBlanks 29 = .ok (.aload_n 0, 1) := by decide +kernel
theorem dX6_skipBlanks_30 : decode cX6_skipBlanks 30 = .ok (.getfield 36, 3) := by decide +kernel
theorem dX6_skipBlanks_33 : decode cX6_skipBlanks 33 = .ok (.sipush 640, 3) := by decide +kernel
theorem dX6_skipBlanks_36 : decode cX6_skipBlanks 36 = .ok (.if_icmp .ge 42, 3) := by decide +kernel
theorem dX6_skipBlanks_39 : decode cX6_skipBlanks 39 = .ok (.aload_n 0, 1) := by decide +kernel
theorem dX6_skipBlanks_40 : decode cX6_skipBlanks 40 = .ok (.getfield 9, 3) := by decide +kernel
theorem dX6_skipBlanks_43 : decode cX6_skipBlanks 43 = .ok (.getfield 58, 3) := by decide +kernel
theorem dX6_skipBlanks_46 : decode cX6_skipBlanks 46 = .ok (.aload_n 0, 1) := by decide +kernel
theorem dX6_skipBlanks_47 : decode cX6_skipBlanks 47 = .ok (.getfield 36, 3) := by decide +kernel
theorem dX6_skipBlanks_50 : decode cX6_skipBlanks 50 = .ok (.baload, 1) := by decide +kernel
theorem dX6_skipBlanks_51 : decode cX6_skipBlanks 51 = .ok (.istore_n 1, 1) := by decide +kernel
theorem dX6_skipBlanks_52 : decode cX6_skipBlanks 52 = .ok (.iload_n 1, 1) := by decide +kernel
theorem dX6_skipBlanks_53 : decode cX6_skipBlanks 53 = .ok (.bipush 32, 2) := by decide +kernel
theorem dX6_skipBlanks_55 : decode cX6_skipBlanks 55 = .ok (.if_icmp .eq 10, 3) := by decide +kernel
theorem dX6_skipBlanks_58 : decode cX6_skipBlanks 58 = .ok (.iload_n 1, 1) := by decide +kernel
theorem dX6_skipBlanks_59 : decode cX6_skipBlanks 59 = .ok (.bipush 10, 2) := by decide +kernel
theorem dX6_skipBlanks_61 : decode cX6_skipBlanks 61 = .ok (.if_icmp .eq 4, 3) := by decide +kernel
theorem dX6_skipBlanks_64 : decode cX6_skipBlanks 64 = .ok (.return_, 1) := by decide +kernel
theorem dX6_skipBlanks_65 : decode cX6_skipBlanks 65 = .ok (.aload_n 0, 1) := by decide +kernel
theorem dX6_skipBlanks_66 : decode cX6_skipBlanks 66 = .ok (.dup, 1) := by decide +kernel
theorem dX6_skipBlanks_67 : decode cX6_skipBlanks 67 = .ok (.getfield 36, 3) := by decide +kernel
theorem dX6_skipBlanks_70 : decode cX6_skipBlanks 70 = .ok (.iconst 1, 1) := by decide +kernel
theorem dX6_skipBlanks_71 : decode cX6_skipBlanks 71 = .ok (.iadd, 1) := by decide +kernel
theorem dX6_skipBlanks_72 : decode cX6_skipBlanks 72 = .ok (.putfield 36, 3) := by decide +kernel
theorem dX6_skipBlanks_75 : decode cX6_skipBlanks 75 = .ok (.goto (-67), 3) := by decide +kernel
theorem dX6_skipBlanks_78 : decode cX6_skipBlanks 78 = .ok (.return_, 1) := by decide +kernel
theorem dX6_scanRun_0 : decode cX6_scanRun 0 = .ok (.iconst 0, 1) := by decide +kernel
theorem dX6_scanRun_1 : decode cX6_scanRun 1 = .ok (.istore_n 1, 1) := by decide +kernel
theorem dX6_scanRun_2 : decode cX6_scanRun 2 = .ok (.iconst 0, 1) := by decide +kernel
theorem dX6_scanRun_3 : decode cX6_scanRun 3 = .ok (.istore_n 2, 1) := by decide +kernel
theorem dX6_scanRun_4 : decode cX6_scanRun 4 = .ok (.aload_n 0, 1) := by decide +kernel
theorem dX6_scanRun_5 : decode cX6_scanRun 5 = .ok (.iconst 0, 1) := by decide +kernel
theorem dX6_scanRun_6 : decode cX6_scanRun 6 = .ok (.putfield 62, 3) := by decide +kernel
theorem dX6_scanRun_9 : decode cX6_scanRun 9 = .ok (.aload_n 0, 1) := by decide +kernel
theorem dX6_scanRun_10 : decode cX6_scanRun 10 = .ok (.aload_n 0, 1) := by decide +kernel
theorem dX6_scanRun_11 : decode cX6_scanRun 11 = .ok (.getfield 36, 3) := by decide +kernel
theorem dX6_scanRun_14 : decode cX6_scanRun 14 = .ok (.putfield 15, 3) := by decide +kernel
theorem dX6_scanRun_17 : decode cX6_scanRun 17 = .ok (.aload_n 0, 1) := by decide +kernel
theorem dX6_scanRun_18 : decode cX6_scanRun 18 = .ok (.getfield 15, 3) := by decide +kernel
theorem dX6_scanRun_21 : decode cX6_scanRun 21 = .ok (.ifCond .lt 102, 3) := by decide +kernel
theorem dX6_scanRun_24 : decode cX6_scanRun 24 = .ok (.aload_n 0, 1) := by decide +kernel
theorem dX6_scanRun_25 : decode cX6_scanRun 25 = .ok (.getfield 15, 3) := by decide +kernel
theorem dX6_scanRun_28 : decode cX6_scanRun 28 = .ok (.aload_n 0, 1) := by decide +kernel
theorem dX6_scanRun_29 : decode cX6_scanRun 29 = .ok (.getfield 9, 3) := by decide +kernel
theorem dX6_scanRun_32 : decode cX6_scanRun 32 = .ok (.getfield 25, 3) := by decide +kernel
theorem dX6_scanRun_35 : decode cX6_scanRun 35 = .ok (.if_icmp .ge 88, 3) := by decide +kernel
theorem dX6_scanRun_38 : decode cX6_scanRun 38 = .ok (.aload_n 0, 1) := by decide +kernel
theorem dX6_scanRun_39 : decode cX6_scanRun 39 = .ok (.getfield 15, 3) := by decide +kernel
theorem dX6_scanRun_42 : decode cX6_scanRun 42 = .ok (.sipush 640, 3) := by decide +kernel
theorem dX6_scanRun_45 : decode cX6_scanRun 45 = .ok (.if_icmp .ge 78, 3) := by decide +kernel
theorem dX6_scanRun_48 : decode cX6_scanRun 48 = .ok (.aload_n 0, 1) := by decide +kernel
theorem dX6_scanRun_49 : decode cX6_scanRun 49 = .ok (.getfield 9, 3) := by decide +kernel
theorem dX6_scanRun_52 : decode cX6_scanRun 52 = .ok (.getfield 58, 3) := by decide +kernel
theorem dX6_scanRun_55 : decode cX6_scanRun 55 = .ok (.aload_n 0, 1) := by decide +kernel
theorem dX6_scanRun_56 : decode cX6_scanRun 56 = .ok (.getfield 15, 3) := by decide +kernel
theorem dX6_scanRun_59 : decode cX6_scanRun 59 = .ok (.baload, 1) := by decide +kernel
theorem dX6_scanRun_60 : decode cX6_scanRun 60 = .ok (.istore_n 3, 1) := by decide +kernel
theorem dX6_scanRun_61 : decode cX6_scanRun 61 = .ok (.iload_n 3, 1) := by decide +kernel
theorem dX6_scanRun_62 : decode cX6_scanRun 62 = .ok (.bipush 48, 2) := by decide +kernel
theorem dX6_scanRun_64 : decode cX6_scanRun 64 = .ok (.if_icmp .lt 31, 3) := by decide +kernel
theorem dX6_scanRun_67 : decode cX6_scanRun 67 = .ok (.iload_n 3, 1) := by decide +kernel
theorem dX6_scanRun_68 : decode cX6_scanRun 68 = .ok (.bipush 57, 2) := by decide +kernel
theorem dX6_scanRun_70 : decode cX6_scanRun 70 = .ok (.if_icmp .gt 25, 3) := by decide +kernel
theorem dX6_scanRun_73 : decode cX6_scanRun 73 = .ok (.iinc 2 1, 3) := by decide +kernel
theorem dX6_scanRun_76 : decode cX6_scanRun 76 = .ok (.aload_n 0, 1) := by decide +kernel
theorem dX6_scanRun_77 : decode cX6_scanRun 77 = .ok (.aload_n 0, 1) := by decide +kernel
theorem dX6_scanRun_78 : decode cX6_scanRun 78 = .ok (.getfield 62, 3) := by decide +kernel
theorem dX6_scanRun_81 : decode cX6_scanRun 81 = .ok (.bipush 10, 2) := by decide +kernel
theorem dX6_scanRun_83 : decode cX6_scanRun 83 = .ok (.imul, 1) := by decide +kernel
theorem dX6_scanRun_84 : decode cX6_scanRun 84 = .ok (.iload_n 3, 1) := by decide +kernel
theorem dX6_scanRun_85 : decode cX6_scanRun 85 = .ok (.bipush 48, 2) := by decide +kernel
theorem dX6_scanRun_87 : decode cX6_scanRun 87 = .ok (.isub, 1) := by decide +kernel
theorem dX6_scanRun_88 : decode cX6_scanRun 88 = .ok (.iadd, 1) := by decide +kernel
theorem dX6_scanRun_89 : decode cX6_scanRun 89 = .ok (.putfield 62, 3) := by decide +kernel
theorem dX6_scanRun_92 : decode cX6_scanRun 92 = .ok (.goto 18, 3) := by decide +kernel
theorem dX6_scanRun_95 : decode cX6_scanRun 95 = .ok (.iload_n 3, 1) := by decide +kernel
theorem dX6_scanRun_96 : decode cX6_scanRun 96 = .ok (.bipush 97, 2) := by decide +kernel
theorem dX6_scanRun_98 : decode cX6_scanRun 98 = .ok (.if_icmp .lt 25, 3) := by decide +kernel
theorem dX6_scanRun_101 : decode cX6_scanRun 101 = .ok (.iload_n 3, 1) := by decide +kernel
theorem dX6_scanRun_102 : decode cX6_scanRun 102 = .ok (.bipush 122, 2) := by decide +kernel
theorem dX6_scanRun_104 : decode cX6_scanRun 104 = .ok (.if_icmp .gt 19, 3) := by decide +kernel
theorem dX6_scanRun_107 : decode cX6_scanRun 107 = .ok (.iinc 1 1, 3) := by decide +kernel
theorem dX6_scanRun_110 : decode cX6_scanRun 110 = .ok (.aload_n 0, 1) := by decide +kernel
theorem dX6_scanRun_111 : decode cX6_scanRun 111 = .ok (.dup, 1) := by decide +kernel
theorem dX6_scanRun_112 : decode cX6_scanRun 112 = .ok (.getfield 15, 3) := by decide +kernel
theorem dX6_scanRun_115 : decode cX6_scanRun 115 = .ok (.iconst 1, 1) := by decide +kernel
theorem dX6_scanRun_116 : decode cX6_scanRun 116 = .ok (.iadd, 1) := by decide +kernel
theorem dX6_scanRun_117 : decode cX6_scanRun 117 = .ok (.putfield 15, 3) := by decide +kernel
theorem dX6_scanRun_120 : decode cX6_scanRun 120 = .ok (.goto (-103), 3) := by decide +kernel
theorem dX6_scanRun_123 : decode cX6_scanRun 123 = .ok (.iload_n 1, 1) := by decide +kernel
theorem dX6_scanRun_124 : decode cX6_scanRun 124 = .ok (.ifCond .le 15, 3) := by decide +kernel
theorem dX6_scanRun_127 : decode cX6_scanRun 127 = .ok (.iload_n 2, 1) := by decide +kernel
theorem dX6_scanRun_128 : decode cX6_scanRun 128 = .ok (.ifCond .ne 11, 3) := by decide +kernel
theorem dX6_scanRun_131 : decode cX6_scanRun 131 = .ok (.aload_n 0, 1) := by decide +kernel
theorem dX6_scanRun_132 : decode cX6_scanRun 132 = .ok (.iconst 1, 1) := by decide +kernel
theorem dX6_scanRun_133 : decode cX6_scanRun 133 = .ok (.putfield 39, 3) := by decide +kernel
theorem dX6_scanRun_136 : decode cX6_scanRun 136 = .ok (.goto 30, 3) := by decide +kernel
theorem dX6_scanRun_139 : decode cX6_scanRun 139 = .ok (.iload_n 1, 1) := by decide +kernel
theorem dX6_scanRun_140 : decode cX6_scanRun 140 = .ok (.ifCond .ne 21, 3) := by decide +kernel
theorem dX6_scanRun_143 : decode cX6_scanRun 143 = .ok (.iload_n 2, 1) := by decide +kernel
theorem dX6_scanRun_144 : decode cX6_scanRun 144 = .ok (.iconst 1, 1) := by decide +kernel
theorem dX6_scanRun_145 : decode cX6_scanRun 145 = .ok (.if_icmp .lt 16, 3) := by decide +kernel
theorem dX6_scanRun_148 : decode cX6_scanRun 148 = .ok (.iload_n 2, 1) := by decide +kernel
theorem dX6_scanRun_149 : decode cX6_scanRun 149 = .ok (.iconst 3, 1) := by decide +kernel
theorem dX6_scanRun_150 : decode cX6_scanRun 150 = .ok (.if_icmp .gt 11, 3) := by decide +kernel
theorem dX6_scanRun_153 : decode cX6_scanRun 153 = .ok (.aload_n 0, 1) := by decide +kernel
theorem dX6_scanRun_154 : decode cX6_scanRun 154 = .ok (.iconst 2, 1) := by decide +kernel
theorem dX6_scanRun_155 : decode cX6_scanRun 155 = .ok (.putfield 39, 3) := by decide +kernel
theorem dX6_scanRun_158 : decode cX6_scanRun 158 = .ok (.goto 8, 3) := by decide +kernel
theorem dX6_scanRun_161 : decode cX6_scanRun 161 = .ok (.aload_n 0, 1) := by decide +kernel
theorem dX6_scanRun_162 : decode cX6_scanRun 162 = .ok (.iconst 0, 1) := by decide +kernel
theorem dX6_scanRun_163 : decode cX6_scanRun 163 = .ok (.putfield 39, 3) := by decide +kernel
theorem dX6_scanRun_166 : decode cX6_scanRun 166 = .ok (.return_, 1) := by decide +kernel
theorem dX7_init_0 : decode cX7_init 0 = .ok (.aload_n 0, 1) := by decide +kernel
theorem dX7_init_1 : decode cX7_init 1 = .ok (.invokespecial 1, 3) := by decide +kernel
theorem dX7_init_4 : decode cX7_init 4 = .ok (.aload_n 0, 1) := by decide +kernel
theorem dX7_init_5 : decode cX7_init 5 = .ok (.new 7, 3) := by decide +kernel
theorem dX7_init_8 : decode cX7_init 8 = .ok (.dup, 1) := by decide +kernel
theorem dX7_init_9 : decode cX7_init 9 = .ok (.invokespecial 9, 3) := by decide +kernel
theorem dX7_init_12 : decode cX7_init 12 = .ok (.putfield 10, 3) := by decide +kernel
theorem dX7_init_15 : decode cX7_init 15 = .ok (.aload_n 0, 1) := by decide +kernel
theorem dX7_init_16 : decode cX7_init 16 = .ok (.new 16, 3) := by decide +kernel
theorem dX7_init_19 : decode cX7_init 19 = .ok (.dup, 1) := by decide +kernel
theorem dX7_init_20 : decode cX7_init 20 = .ok (.aload_n 0, 1) := by decide +kernel
theorem dX7_init_21 : decode cX7_init 21 = .ok (.getfield 10, 3) := by decide +kernel
theorem dX7_init_24 : decode cX7_init 24 = .ok (.invokespecial 18, 3) := by decide +kernel
theorem dX7_init_27 : decode cX7_init 27 = .ok (.putfield 21, 3) := by decide +kernel
theorem dX7_init_30 : decode cX7_init 30 = .ok (.aload_n 0, 1) := by decide +kernel
theorem dX7_init_31 : decode cX7_init 31 = .ok (.new 25, 3) := by decide +kernel
theorem dX7_init_34 : decode cX7_init 34 = .ok (.dup, 1) := by decide +kernel
theorem dX7_init_35 : decode cX7_init 35 = .ok (.invokespecial 27, 3) := by decide +kernel
theorem dX7_init_38 : decode cX7_init 38 = .ok (.putfield 28, 3) := by decide +kernel
theorem dX7_init_41 : decode cX7_init 41 = .ok (.aload_n 0, 1) := by decide +kernel
theorem dX7_init_42 : decode cX7_init 42 = .ok (.new 32, 3) := by decide +kernel
theorem dX7_init_45 : decode cX7_init 45 = .ok (.dup, 1) := by decide +kernel
theorem dX7_init_46 : decode cX7_init 46 = .ok (.invokespecial 34, 3) := by decide +kernel
theorem dX7_init_49 : decode cX7_init 49 = .ok (.putfield 35, 3) := by decide +kernel
theorem dX7_init_52 : decode cX7_init 52 = .ok (.aload_n 0, 1) := by decide +kernel
theorem dX7_init_53 : decode cX7_init 53 = .ok (.new 32, 3) := by decide +kernel
theorem dX7_init_56 : decode cX7_init 56 = .ok (.dup, 1) := by decide +kernel
theorem dX7_init_57 : decode cX7_init 57 = .ok (.invokespecial 34, 3) := by decide +kernel
theorem dX7_init_60 : decode cX7_init 60 = .ok (.putfield 39, 3) := by decide +kernel
theorem dX7_init_63 : decode cX7_init 63 = .ok (.aload_n 0, 1) := by decide +kernel
theorem dX7_init_64 : decode cX7_init 64 = .ok (.getfield 35, 3) := by decide +kernel
theorem dX7_init_67 : decode cX7_init 67 = .ok (.invokevirtual 42, 3) := by decide +kernel
theorem dX7_init_70 : decode cX7_init 70 = .ok (.return_, 1) := by decide +kernel
theorem dX7_feed_0 : decode cX7_feed 0 = .ok (.aload_n 0, 1) := by decide +kernel
theorem dX7_feed_1 : decode cX7_feed 1 = .ok (.getfield 10, 3) := by decide +kernel
theorem dX7_feed_4 : decode cX7_feed 4 = .ok (.bipush 20, 2) := by decide +kernel
theorem dX7_feed_6 : decode cX7_feed 6 = .ok (.invokevirtual 45, 3) := by decide +kernel
theorem dX7_feed_9 : decode cX7_feed 9 = .ok (.ifCond .ne 5, 3) := by decide +kernel
theorem dX7_feed_12 : decode cX7_feed 12 = .ok (.iconst (-1), 1) := by decide +kernel
theorem dX7_feed_13 : decode cX7_feed 13 = .ok (.ireturn, 1) := by decide +kernel
theorem dX7_feed_14 : decode cX7_feed 14 = .ok (.aload_n 0, 1) := by decide +kernel
theorem dX7_feed_15 : decode cX7_feed 15 = .ok (.getfield 10, 3) := by decide +kernel
theorem dX7_feed_18 : decode cX7_feed 18 = .ok (.iload_n 1, 1) := by decide +kernel
theorem dX7_feed_19 : decode cX7_feed 19 = .ok (.invokevirtual 49, 3) := by decide +kernel
theorem dX7_feed_22 : decode cX7_feed 22 = .ok (.aload_n 0, 1) := by decide +kernel
theorem dX7_feed_23 : decode cX7_feed 23 = .ok (.getfield 10, 3) := by decide +kernel
theorem dX7_feed_26 : decode cX7_feed 26 = .ok (.iload_n 2, 1) := by decide +kernel
theorem dX7_feed_27 : decode cX7_feed 27 = .ok (.invokevirtual 49, 3) := by decide +kernel
theorem dX7_feed_30 : decode cX7_feed 30 = .ok (.aload_n 0, 1) := by decide +kernel
theorem dX7_feed_31 : decode cX7_feed 31 = .ok (.getfield 10, 3) := by decide +kernel
theorem dX7_feed_34 : decode cX7_feed 34 = .ok (.iload_n 3, 1) := by decide +kernel
theorem dX7_feed_35 : decode cX7_feed 35 = .ok (.invokevirtual 49, 3) := by decide +kernel
theorem dX7_feed_38 : decode cX7_feed 38 = .ok (.aload_n 0, 1) := by decide +kernel
theorem dX7_feed_39 : decode cX7_feed 39 = .ok (.getfield 10, 3) := by decide +kernel
theorem dX7_feed_42 : decode cX7_feed 42 = .ok (.iload 4, 2) := by decide +kernel
theorem dX7_feed_44 : decode cX7_feed 44 = .ok (.invokevirtual 49, 3) := by decide +kernel
theorem dX7_feed_47 : decode cX7_feed 47 = .ok (.aload_n 0, 1) := by decide +kernel
theorem dX7_feed_48 : decode cX7_feed 48 = .ok (.getfield 10, 3) := by decide +kernel
theorem dX7_feed_51 : decode cX7_feed 51 = .ok (.iload 5, 2) := by decide +kernel
theorem dX7_feed_53 : decode cX7_feed 53 = .ok (.invokevirtual 49, 3) := by decide +kernel
theorem dX7_feed_56 : decode cX7_feed 56 = .ok (.aload_n 0, 1) := by decide +kernel
theorem dX7_feed_57 : decode cX7_feed 57 = .ok (.getfield 10, 3) := by decide +kernel
theorem dX7_feed_60 : decode cX7_feed 60 = .ok (.getfield 53, 3) := by decide +kernel
theorem dX7_feed_63 : decode cX7_feed 63 = .ok (.ireturn, 1) := by decide +kernel
theorem dX7_end_0 : decode cX7_end 0 = .ok (.aload_n 0, 1) := by decide +kernel
theorem dX7_end_1 : decode cX7_end 1 = .ok (.getfield 10, 3) := by decide +kernel
theorem dX7_end_4 : decode cX7_end 4 = .ok (.iload_n 1, 1) := by decide +kernel
theorem dX7_end_5 : decode cX7_end 5 = .ok (.invokevirtual 57, 3) := by decide +kernel
theorem dX7_end_8 : decode cX7_end 8 = .ok (.ireturn, 1) := by decide +kernel
theorem dX7_text_0 : decode cX7_text 0 = .ok (.aload_n 0, 1) := by decide +kernel
theorem dX7_text_1 : decode cX7_text 1 = .ok (.getfield 39, 3) := by decide +kernel
theorem dX7_text_4 : decode cX7_text 4 = .ok (.invokevirtual 60, 3) := by decide +kernel
theorem dX7_text_7 : decode cX7_text 7 = .ok (.aload_n 0, 1) := by decide +kernel
theorem dX7_text_8 : decode cX7_text 8 = .ok (.getfield 21, 3) := by decide +kernel
theorem dX7_text_11 : decode cX7_text 11 = .ok (.invokevirtual 63, 3) := by decide +kernel
theorem dX7_text_14 : decode cX7_text 14 = .ok (.aload_n 0, 1) := by decide +kernel
theorem dX7_text_15 : decode cX7_text 15 = .ok (.getfield 21, 3) := by decide +kernel
theorem dX7_text_18 : decode cX7_text 18 = .ok (.aload_n 0, 1) := by decide +kernel
theorem dX7_text_19 : decode cX7_text 19 = .ok (.getfield 39, 3) := by decide +kernel
theorem dX7_text_22 : decode cX7_text 22 = .ok (.invokevirtual 66, 3) := by decide +kernel
theorem dX7_text_25 : decode cX7_text 25 = .ok (.ifCond .eq 63, 3) := by decide +kernel
theorem dX7_text_28 : decode cX7_text 28 = .ok (.aload_n 0, 1) := by decide +kernel
theorem dX7_text_29 : decode cX7_text 29 = .ok (.getfield 21, 3) := by decide +kernel
theorem dX7_text_32 : decode cX7_text 32 = .ok (.aload_n 0, 1) := by decide +kernel
theorem dX7_text_33 : decode cX7_text 33 = .ok (.getfield 39, 3) := by decide +kernel
theorem dX7_text_36 : decode cX7_text 36 = .ok (.invokevirtual 70, 3) := by decide +kernel
theorem dX7_text_39 : decode cX7_text 39 = .ok (.ifCond .eq 49, 3) := by decide +kernel
theorem dX7_text_42 : decode cX7_text 42 = .ok (.aload_n 0, 1) := by decide +kernel
theorem dX7_text_43 : decode cX7_text 43 = .ok (.getfield 21, 3) := by decide +kernel
theorem dX7_text_46 : decode cX7_text 46 = .ok (.aload_n 0, 1) := by decide +kernel
theorem dX7_text_47 : decode cX7_text 47 = .ok (.getfield 39, 3) := by decide +kernel
theorem dX7_text_50 : decode cX7_text 50 = .ok (.invokevirtual 73, 3) := by decide +kernel
theorem dX7_text_53 : decode cX7_text 53 = .ok (.ifCond .eq 35, 3) := by decide +kernel
theorem dX7_text_56 : decode cX7_text 56 = .ok (.aload_n 0, 1) := by decide +kernel
theorem dX7_text_57 : decode cX7_text 57 = .ok (.getfield 21, 3) := by decide +kernel
theorem dX7_text_60 : decode cX7_text 60 = .ok (.aload_n 0, 1) := by decide +kernel
theorem dX7_text_61 : decode cX7_text 61 = .ok (.getfield 39, 3) := by decide +kernel
theorem dX7_text_64 : decode cX7_text 64 = .ok (.invokevirtual 76, 3) := by decide +kernel
theorem dX7_text_67 : decode cX7_text 67 = .ok (.ifCond .eq 21, 3) := by decide +kernel
theorem dX7_text_70 : decode cX7_text 70 = .ok (.aload_n 0, 1) := by decide +kernel
theorem dX7_text_71 : decode cX7_text 71 = .ok (.getfield 21, 3) := by decide +kernel
theorem dX7_text_74 : decode cX7_text 74 = .ok (.aload_n 0, 1) := by decide +kernel
theorem dX7_text_75 : decode cX7_text 75 = .ok (.getfield 39, 3) := by decide +kernel
theorem dX7_text_78 : decode cX7_text 78 = .ok (.invokevirtual 79, 3) := by decide +kernel
theorem dX7_text_81 : decode cX7_text 81 = .ok (.ifCond .eq 7, 3) := by decide +kernel
theorem dX7_text_84 : decode cX7_text 84 = .ok (.iconst 1, 1) := by decide +kernel
theorem dX7_text_85 : decode cX7_text 85 = .ok (.goto 4, 3) := by decide +kernel
theorem dX7_text_88 : decode cX7_text 88 = .ok (.iconst 0, 1) := by decide +kernel
theorem dX7_text_89 : decode cX7_text 89 = .ok (.istore_n 1, 1) := by decide +kernel
theorem dX7_text_90 : decode cX7_text 90 = .ok (.aload_n 0, 1) := by decide +kernel
theorem dX7_text_91 : decode cX7_text 91 = .ok (.getfield 10, 3) := by decide +kernel
theorem dX7_text_94 : decode cX7_text 94 = .ok (.iconst 0, 1) := by decide +kernel
theorem dX7_text_95 : decode cX7_text 95 = .ok (.invokevirtual 57, 3) := by decide +kernel
theorem dX7_text_98 : decode cX7_text 98 = .ok (.pop, 1) := by decide +kernel
theorem dX7_text_99 : decode cX7_text 99 = .ok (.iload_n 1, 1) := by decide +kernel
theorem dX7_text_100 : decode cX7_text 100 = .ok (.ifCond .ne 13, 3) := by decide +kernel
theorem dX7_text_103 : decode cX7_text 103 = .ok (.iconst (-1), 1) := by decide +kernel
theorem dX7_text_104 : decode cX7_text 104 = .ok (.aload_n 0, 1) := by decide +kernel
theorem dX7_text_105 : decode cX7_text 105 = .ok (.getfield 21, 3) := by decide +kernel
theorem dX7_text_108 : decode cX7_text 108 = .ok (.getfield 82, 3) := by decide +kernel
theorem dX7_text_111 : decode cX7_text 111 = .ok (.isub, 1) := by decide +kernel
theorem dX7_text_112 : decode cX7_text 112 = .ok (.ireturn, 1) := by decide +kernel
theorem dX7_text_113 : decode cX7_text 113 = .ok (.aload_n 0, 1) := by decide +kernel
theorem dX7_text_114 : decode cX7_text 114 = .ok (.getfield 39, 3) := by decide +kernel
theorem dX7_text_117 : decode cX7_text 117 = .ok (.astore_n 2, 1) := by decide +kernel
theorem dX7_text_118 : decode cX7_text 118 = .ok (.aload_n 0, 1) := by decide +kernel
theorem dX7_text_119 : decode cX7_text 119 = .ok (.aload_n 0, 1) := by decide +kernel
theorem dX7_text_120 : decode cX7_text 120 = .ok (.getfield 35, 3) := by decide +kernel
theorem dX7_text_123 : decode cX7_text 123 = .ok (.putfield 39, 3) := by decide +kernel
theorem dX7_text_126 : decode cX7_text 126 = .ok (.aload_n 0, 1) := by decide +kernel
theorem dX7_text_127 : decode cX7_text 127 = .ok (.aload_n 2, 1) := by decide +kernel
theorem dX7_text_128 : decode cX7_text 128 = .ok (.putfield 35, 3) := by decide +kernel
theorem dX7_text_131 : decode cX7_text 131 = .ok (.aload_n 0, 1) := by decide +kernel
theorem dX7_text_132 : decode cX7_text 132 = .ok (.getfield 28, 3) := by decide +kernel
theorem dX7_text_135 : decode cX7_text 135 = .ok (.invokevirtual 85, 3) := by decide +kernel
theorem dX7_text_138 : decode cX7_text 138 = .ok (.aload_n 0, 1) := by decide +kernel
theorem dX7_text_139 : decode cX7_text 139 = .ok (.getfield 21, 3) := by decide +kernel
theorem dX7_text_142 : decode cX7_text 142 = .ok (.getfield 88, 3) := by decide +kernel
theorem dX7_text_145 : decode cX7_text 145 = .ok (.ireturn, 1) := by decide +kernel
theorem dX7_fault_0 : decode cX7_fault 0 = .ok (.aload_n 0, 1) := by decide +kernel
theorem dX7_fault_1 : decode cX7_fault 1 = .ok (.getfield 21, 3) := by decide +kernel
theorem dX7_fault_4 : decode cX7_fault 4 = .ok (.getfield 91, 3) := by decide +kernel
theorem dX7_fault_7 : decode cX7_fault 7 = .ok (.ireturn, 1) := by decide +kernel
theorem dX7_now_0 : decode cX7_now 0 = .ok (.iload_n 1, 1) := by decide +kernel
theorem dX7_now_1 : decode cX7_now 1 = .ok (.tableswitch 99 0 6 #[43, 51, 59, 67, 75, 83, 91], 43) := by decide +kernel
theorem dX7_now_44 : decode cX7_now 44 = .ok (.aload_n 0, 1) := by decide +kernel
theorem dX7_now_45 : decode cX7_now 45 = .ok (.getfield 35, 3) := by decide +kernel
theorem dX7_now_48 : decode cX7_now 48 = .ok (.getfield 94, 3) := by decide +kernel
theorem dX7_now_51 : decode cX7_now 51 = .ok (.ireturn, 1) := by decide +kernel
theorem dX7_now_52 : decode cX7_now 52 = .ok (.aload_n 0, 1) := by decide +kernel
theorem dX7_now_53 : decode cX7_now 53 = .ok (.getfield 35, 3) := by decide +kernel
theorem dX7_now_56 : decode cX7_now 56 = .ok (.getfield 97, 3) := by decide +kernel
theorem dX7_now_59 : decode cX7_now 59 = .ok (.ireturn, 1) := by decide +kernel
theorem dX7_now_60 : decode cX7_now 60 = .ok (.aload_n 0, 1) := by decide +kernel
theorem dX7_now_61 : decode cX7_now 61 = .ok (.getfield 35, 3) := by decide +kernel
theorem dX7_now_64 : decode cX7_now 64 = .ok (.getfield 100, 3) := by decide +kernel
theorem dX7_now_67 : decode cX7_now 67 = .ok (.ireturn, 1) := by decide +kernel
theorem dX7_now_68 : decode cX7_now 68 = .ok (.aload_n 0, 1) := by decide +kernel
theorem dX7_now_69 : decode cX7_now 69 = .ok (.getfield 35, 3) := by decide +kernel
theorem dX7_now_72 : decode cX7_now 72 = .ok (.invokevirtual 103, 3) := by decide +kernel
theorem dX7_now_75 : decode cX7_now 75 = .ok (.ireturn, 1) := by decide +kernel
theorem dX7_now_76 : decode cX7_now 76 = .ok (.aload_n 0, 1) := by decide +kernel
theorem dX7_now_77 : decode cX7_now 77 = .ok (.getfield 35, 3) := by decide +kernel
theorem dX7_now_80 : decode cX7_now 80 = .ok (.getfield 107, 3) := by decide +kernel
theorem dX7_now_83 : decode cX7_now 83 = .ok (.ireturn, 1) := by decide +kernel
theorem dX7_now_84 : decode cX7_now 84 = .ok (.aload_n 0, 1) := by decide +kernel
theorem dX7_now_85 : decode cX7_now 85 = .ok (.getfield 28, 3) := by decide +kernel
theorem dX7_now_88 : decode cX7_now 88 = .ok (.getfield 110, 3) := by decide +kernel
theorem dX7_now_91 : decode cX7_now 91 = .ok (.ireturn, 1) := by decide +kernel
theorem dX7_now_92 : decode cX7_now 92 = .ok (.aload_n 0, 1) := by decide +kernel
theorem dX7_now_93 : decode cX7_now 93 = .ok (.getfield 10, 3) := by decide +kernel
theorem dX7_now_96 : decode cX7_now 96 = .ok (.getfield 53, 3) := by decide +kernel
theorem dX7_now_99 : decode cX7_now 99 = .ok (.ireturn, 1) := by decide +kernel
theorem dX7_now_100 : decode cX7_now 100 = .ok (.iconst (-1), 1) := by decide +kernel
theorem dX7_now_101 : decode cX7_now 101 = .ok (.ireturn, 1) := by decide +kernel
theorem dX7_read_0 : decode cX7_read 0 = .ok (.aload_n 0, 1) := by decide +kernel
theorem dX7_read_1 : decode cX7_read 1 = .ok (.getfield 35, 3) := by decide +kernel
theorem dX7_read_4 : decode cX7_read 4 = .ok (.iload_n 1, 1) := by decide +kernel
theorem dX7_read_5 : decode cX7_read 5 = .ok (.iload_n 2, 1) := by decide +kernel
theorem dX7_read_6 : decode cX7_read 6 = .ok (.iload_n 3, 1) := by decide +kernel
theorem dX7_read_7 : decode cX7_read 7 = .ok (.invokevirtual 113, 3) := by decide +kernel
theorem dX7_read_10 : decode cX7_read 10 = .ok (.ireturn, 1) := by decide +kernel
theorem dX7_mean_0 : decode cX7_mean 0 = .ok (.aload_n 0, 1) := by decide +kernel
theorem dX7_mean_1 : decode cX7_mean 1 = .ok (.getfield 35, 3) := by decide +kernel
theorem dX7_mean_4 : decode cX7_mean 4 = .ok (.iload_n 1, 1) := by decide +kernel
theorem dX7_mean_5 : decode cX7_mean 5 = .ok (.iload_n 2, 1) := by decide +kernel
theorem dX7_mean_6 : decode cX7_mean 6 = .ok (.iload_n 3, 1) := by decide +kernel
theorem dX7_mean_7 : decode cX7_mean 7 = .ok (.invokevirtual 117, 3) := by decide +kernel
theorem dX7_mean_10 : decode cX7_mean 10 = .ok (.ireturn, 1) := by decide +kernel
theorem dX7_scale_0 : decode cX7_scale 0 = .ok (.aload_n 0, 1) := by decide +kernel
theorem dX7_scale_1 : decode cX7_scale 1 = .ok (.getfield 35, 3) := by decide +kernel
theorem dX7_scale_4 : decode cX7_scale 4 = .ok (.iload_n 1, 1) := by decide +kernel
theorem dX7_scale_5 : decode cX7_scale 5 = .ok (.invokevirtual 120, 3) := by decide +kernel
theorem dX7_scale_8 : decode cX7_scale 8 = .ok (.astore_n 3, 1) := by decide +kernel
theorem dX7_scale_9 : decode cX7_scale 9 = .ok (.aload_n 3, 1) := by decide +kernel
theorem dX7_scale_10 : decode cX7_scale 10 = .ok (.ifnull 14, 3) := by decide +kernel
theorem dX7_scale_13 : decode cX7_scale 13 = .ok (.iload_n 2, 1) := by decide +kernel
theorem dX7_scale_14 : decode cX7_scale 14 = .ok (.ifCond .lt 10, 3) := by decide +kernel
theorem dX7_scale_17 : decode cX7_scale 17 = .ok (.iload_n 2, 1) := by decide +kernel
theorem dX7_scale_18 : decode cX7_scale 18 = .ok (.sipush 999, 3) := by decide +kernel
theorem dX7_scale_21 : decode cX7_scale 21 = .ok (.if_icmp .le 5, 3) := by decide +kernel
theorem dX7_scale_24 : decode cX7_scale 24 = .ok (.iconst (-1), 1) := by decide +kernel
theorem dX7_scale_25 : decode cX7_scale 25 = .ok (.ireturn, 1) := by decide +kernel
theorem dX7_scale_26 : decode cX7_scale 26 = .ok (.aload_n 3, 1) := by decide +kernel
theorem dX7_scale_27 : decode cX7_scale 27 = .ok (.iload_n 2, 1) := by decide +kernel
theorem dX7_scale_28 : decode cX7_scale 28 = .ok (.invokevirtual 124, 3) := by decide +kernel
theorem dX7_scale_31 : decode cX7_scale 31 = .ok (.ireturn, 1) := by decide +kernel
theorem dX7_back_0 : decode cX7_back 0 = .ok (.aload_n 0, 1) := by decide +kernel
theorem dX7_back_1 : decode cX7_back 1 = .ok (.getfield 35, 3) := by decide +kernel
theorem dX7_back_4 : decode cX7_back 4 = .ok (.iload_n 1, 1) := by decide +kernel
theorem dX7_back_5 : decode cX7_back 5 = .ok (.invokevirtual 120, 3) := by decide +kernel
theorem dX7_back_8 : decode cX7_back 8 = .ok (.astore_n 3, 1) := by decide +kernel
theorem dX7_back_9 : decode cX7_back 9 = .ok (.aload_n 3, 1) := by decide +kernel
theorem dX7_back_10 : decode cX7_back 10 = .ok (.ifnull 14, 3) := by decide +kernel
theorem dX7_back_13 : decode cX7_back 13 = .ok (.iload_n 2, 1) := by decide +kernel
theorem dX7_back_14 : decode cX7_back 14 = .ok (.ifCond .lt 10, 3) := by decide +kernel
theorem dX7_back_17 : decode cX7_back 17 = .ok (.iload_n 2, 1) := by decide +kernel
theorem dX7_back_18 : decode cX7_back 18 = .ok (.sipush 500, 3) := by decide +kernel
theorem dX7_back_21 : decode cX7_back 21 = .ok (.if_icmp .le 5, 3) := by decide +kernel
theorem dX7_back_24 : decode cX7_back 24 = .ok (.iconst (-1), 1) := by decide +kernel
theorem dX7_back_25 : decode cX7_back 25 = .ok (.ireturn, 1) := by decide +kernel
theorem dX7_back_26 : decode cX7_back 26 = .ok (.iconst (-1), 1) := by decide +kernel
theorem dX7_back_27 : decode cX7_back 27 = .ok (.istore 4, 2) := by decide +kernel
theorem dX7_back_29 : decode cX7_back 29 = .ok (.sipush 512, 3) := by decide +kernel
theorem dX7_back_32 : decode cX7_back 32 = .ok (.istore 5, 2) := by decide +kernel
theorem dX7_back_34 : decode cX7_back 34 = .ok (.iload 5, 2) := by decide +kernel
theorem dX7_back_36 : decode cX7_back 36 = .ok (.ifCond .le 41, 3) := by decide +kernel
theorem dX7_back_39 : decode cX7_back 39 = .ok (.iload 4, 2) := by decide +kernel
theorem dX7_back_41 : decode cX7_back 41 = .ok (.iload 5, 2) := by decide +kernel
theorem dX7_back_43 : decode cX7_back 43 = .ok (.iadd, 1) := by decide +kernel
theorem dX7_back_44 : decode cX7_back 44 = .ok (.istore 6, 2) := by decide +kernel
theorem dX7_back_46 : decode cX7_back 46 = .ok (.iload 6, 2) := by decide +kernel
theorem dX7_back_48 : decode cX7_back 48 = .ok (.sipush 999, 3) := by decide +kernel
theorem dX7_back_51 : decode cX7_back 51 = .ok (.if_icmp .gt 17, 3) := by decide +kernel
theorem dX7_back_54 : decode cX7_back 54 = .ok (.aload_n 3, 1) := by decide +kernel
theorem dX7_back_55 : decode cX7_back 55 = .ok (.iload 6, 2) := by decide +kernel
theorem dX7_back_57 : decode cX7_back 57 = .ok (.invokevirtual 124, 3) := by decide +kernel
theorem dX7_back_60 : decode cX7_back 60 = .ok (.iload_n 2, 1) := by decide +kernel
theorem dX7_back_61 : decode cX7_back 61 = .ok (.if_icmp .ge 7, 3) := by decide +kernel
theorem dX7_back_64 : decode cX7_back 64 = .ok (.iload 6, 2) := by decide +kernel
theorem dX7_back_66 : decode cX7_back 66 = .ok (.istore 4, 2) := by decide +kernel
theorem dX7_back_68 : decode cX7_back 68 = .ok (.iload 5, 2) := by decide +kernel
theorem dX7_back_70 : decode cX7_back 70 = .ok (.iconst 2, 1) := by decide +kernel
theorem dX7_back_71 : decode cX7_back 71 = .ok (.idiv, 1) := by decide +kernel
theorem dX7_back_72 : decode cX7_back 72 = .ok (.istore 5, 2) := by decide +kernel
theorem dX7_back_74 : decode cX7_back 74 = .ok (.goto (-40), 3) := by decide +kernel
theorem dX7_back_77 : decode cX7_back 77 = .ok (.iload 4, 2) := by decide +kernel
theorem dX7_back_79 : decode cX7_back 79 = .ok (.sipush 999, 3) := by decide +kernel
theorem dX7_back_82 : decode cX7_back 82 = .ok (.if_icmp .ne 8, 3) := by decide +kernel
theorem dX7_back_85 : decode cX7_back 85 = .ok (.bipush (-2), 2) := by decide +kernel
theorem dX7_back_87 : decode cX7_back 87 = .ok (.goto 7, 3) := by decide +kernel
theorem dX7_back_90 : decode cX7_back 90 = .ok (.iload 4, 2) := by decide +kernel
theorem dX7_back_92 : decode cX7_back 92 = .ok (.iconst 1, 1) := by decide +kernel
theorem dX7_back_93 : decode cX7_back 93 = .ok (.iadd, 1) := by decide +kernel
theorem dX7_back_94 : decode cX7_back 94 = .ok (.ireturn, 1) := by decide +kernel
theorem dX7_sub_0 : decode cX7_sub 0 = .ok (.aload_n 0, 1) := by decide +kernel
theorem dX7_sub_1 : decode cX7_sub 1 = .ok (.getfield 35, 3) := by decide +kernel
theorem dX7_sub_4 : decode cX7_sub 4 = .ok (.iload_n 1, 1) := by decide +kernel
theorem dX7_sub_5 : decode cX7_sub 5 = .ok (.iload_n 2, 1) := by decide +kernel
theorem dX7_sub_6 : decode cX7_sub 6 = .ok (.iload_n 3, 1) := by decide +kernel
theorem dX7_sub_7 : decode cX7_sub 7 = .ok (.invokevirtual 130, 3) := by decide +kernel
theorem dX7_sub_10 : decode cX7_sub 10 = .ok (.ireturn, 1) := by decide +kernel
theorem dX7_index_0 : decode cX7_index 0 = .ok (.iload_n 3, 1) := by decide +kernel
theorem dX7_index_1 : decode cX7_index 1 = .ok (.tableswitch 64 0 2 #[27, 37, 47], 27) := by decide +kernel
theorem dX7_index_28 : decode cX7_index 28 = .ok (.aload_n 0, 1) := by decide +kernel
theorem dX7_index_29 : decode cX7_index 29 = .ok (.getfield 35, 3) := by decide +kernel
theorem dX7_index_32 : decode cX7_index 32 = .ok (.iload_n 1, 1) := by decide +kernel
theorem dX7_index_33 : decode cX7_index 33 = .ok (.iload_n 2, 1) := by decide +kernel
theorem dX7_index_34 : decode cX7_index 34 = .ok (.invokevirtual 133, 3) := by decide +kernel
theorem dX7_index_37 : decode cX7_index 37 = .ok (.ireturn, 1) := by decide +kernel
theorem dX7_index_38 : decode cX7_index 38 = .ok (.aload_n 0, 1) := by decide +kernel
theorem dX7_index_39 : decode cX7_index 39 = .ok (.getfield 35, 3) := by decide +kernel
theorem dX7_index_42 : decode cX7_index 42 = .ok (.iload_n 1, 1) := by decide +kernel
theorem dX7_index_43 : decode cX7_index 43 = .ok (.iload_n 2, 1) := by decide +kernel
theorem dX7_index_44 : decode cX7_index 44 = .ok (.invokevirtual 137, 3) := by decide +kernel
theorem dX7_index_47 : decode cX7_index 47 = .ok (.ireturn, 1) := by decide +kernel
theorem dX7_index_48 : decode cX7_index 48 = .ok (.aload_n 0, 1) := by decide +kernel
theorem dX7_index_49 : decode cX7_index 49 = .ok (.getfield 35, 3) := by decide +kernel
theorem dX7_index_52 : decode cX7_index 52 = .ok (.aload_n 0, 1) := by decide +kernel
theorem dX7_index_53 : decode cX7_index 53 = .ok (.getfield 35, 3) := by decide +kernel
theorem dX7_index_56 : decode cX7_index 56 = .ok (.iload_n 1, 1) := by decide +kernel
theorem dX7_index_57 : decode cX7_index 57 = .ok (.iload_n 2, 1) := by decide +kernel
theorem dX7_index_58 : decode cX7_index 58 = .ok (.invokevirtual 133, 3) := by decide +kernel
theorem dX7_index_61 : decode cX7_index 61 = .ok (.invokevirtual 140, 3) := by decide +kernel
theorem dX7_index_64 : decode cX7_index 64 = .ok (.ireturn, 1) := by decide +kernel
theorem dX7_index_65 : decode cX7_index 65 = .ok (.iconst (-1), 1) := by decide +kernel
theorem dX7_index_66 : decode cX7_index 66 = .ok (.ireturn, 1) := by decide +kernel
theorem dX7_district_0 : decode cX7_district 0 = .ok (.iload_n 1, 1) := by decide +kernel
theorem dX7_district_1 : decode cX7_district 1 = .ok (.ifCond .lt 19, 3) := by decide +kernel
theorem dX7_district_4 : decode cX7_district 4 = .ok (.iload_n 1, 1) := by decide +kernel
theorem dX7_district_5 : decode cX7_district 5 = .ok (.iconst 3, 1) := by decide +kernel
theorem dX7_district_6 : decode cX7_district 6 = .ok (.if_icmp .ge 14, 3) := by decide +kernel
theorem dX7_district_9 : decode cX7_district 9 = .ok (.aload_n 0, 1) := by decide +kernel
theorem dX7_district_10 : decode cX7_district 10 = .ok (.getfield 35, 3) := by decide +kernel
theorem dX7_district_13 : decode cX7_district 13 = .ok (.iload_n 2, 1) := by decide +kernel
theorem dX7_district_14 : decode cX7_district 14 = .ok (.invokevirtual 143, 3) := by decide +kernel
theorem dX7_district_17 : decode cX7_district 17 = .ok (.ifCond .ne 5, 3) := by decide +kernel
theorem dX7_district_20 : decode cX7_district 20 = .ok (.iconst (-1), 1) := by decide +kernel
theorem dX7_district_21 : decode cX7_district 21 = .ok (.ireturn, 1) := by decide +kernel
theorem dX7_district_22 : decode cX7_district 22 = .ok (.aload_n 0, 1) := by decide +kernel
theorem dX7_district_23 : decode cX7_district 23 = .ok (.getfield 35, 3) := by decide +kernel
theorem dX7_district_26 : decode cX7_district 26 = .ok (.iload_n 1, 1) := by decide +kernel
theorem dX7_district_27 : decode cX7_district 27 = .ok (.iload_n 2, 1) := by decide +kernel
theorem dX7_district_28 : decode cX7_district 28 = .ok (.invokevirtual 146, 3) := by decide +kernel
theorem dX7_district_31 : decode cX7_district 31 = .ok (.istore 4, 2) := by decide +kernel
theorem dX7_district_33 : decode cX7_district 33 = .ok (.iload_n 3, 1) := by decide +kernel
theorem dX7_district_34 : decode cX7_district 34 = .ok (.tableswitch 72 0 3 #[30, 41, 44, 62], 30) := by decide +kernel
theorem dX7_district_64 : decode cX7_district 64 = .ok (.aload_n 0, 1) := by decide +kernel
theorem dX7_district_65 : decode cX7_district 65 = .ok (.getfield 35, 3) := by decide +kernel
theorem dX7_district_68 : decode cX7_district 68 = .ok (.iload 4, 2) := by decide +kernel
theorem dX7_district_70 : decode cX7_district 70 = .ok (.iload_n 2, 1) := by decide +kernel
theorem dX7_district_71 : decode cX7_district 71 = .ok (.invokevirtual 133, 3) := by decide +kernel
theorem dX7_district_74 : decode cX7_district 74 = .ok (.ireturn, 1) := by decide +kernel
theorem dX7_district_75 : decode cX7_district 75 = .ok (.iload 4, 2) := by decide +kernel
theorem dX7_district_77 : decode cX7_district 77 = .ok (.ireturn, 1) := by decide +kernel
theorem dX7_district_78 : decode cX7_district 78 = .ok (.aload_n 0, 1) := by decide +kernel
theorem dX7_district_79 : decode cX7_district 79 = .ok (.getfield 35, 3) := by decide +kernel
theorem dX7_district_82 : decode cX7_district 82 = .ok (.aload_n 0, 1) := by decide +kernel
theorem dX7_district_83 : decode cX7_district 83 = .ok (.getfield 35, 3) := by decide +kernel
theorem dX7_district_86 : decode cX7_district 86 = .ok (.iload 4, 2) := by decide +kernel
theorem dX7_district_88 : decode cX7_district 88 = .ok (.iload_n 2, 1) := by decide +kernel
theorem dX7_district_89 : decode cX7_district 89 = .ok (.invokevirtual 133, 3) := by decide +kernel
theorem dX7_district_92 : decode cX7_district 92 = .ok (.invokevirtual 140, 3) := by decide +kernel
theorem dX7_district_95 : decode cX7_district 95 = .ok (.ireturn, 1) := by decide +kernel
theorem dX7_district_96 : decode cX7_district 96 = .ok (.aload_n 0, 1) := by decide +kernel
theorem dX7_district_97 : decode cX7_district 97 = .ok (.getfield 35, 3) := by decide +kernel
theorem dX7_district_100 : decode cX7_district 100 = .ok (.iload_n 1, 1) := by decide +kernel
theorem dX7_district_101 : decode cX7_district 101 = .ok (.iload_n 2, 1) := by decide +kernel
theorem dX7_district_102 : decode cX7_district 102 = .ok (.invokevirtual 149, 3) := by decide +kernel
theorem dX7_district_105 : decode cX7_district 105 = .ok (.ireturn, 1) := by decide +kernel
theorem dX7_district_106 : decode cX7_district 106 = .ok (.iconst (-1), 1) := by decide +kernel
theorem dX7_district_107 : decode cX7_district 107 = .ok (.ireturn, 1) := by decide +kernel
theorem dX7_lasts_0 : decode cX7_lasts 0 = .ok (.aload_n 0, 1) := by decide +kernel
theorem dX7_lasts_1 : decode cX7_lasts 1 = .ok (.getfield 35, 3) := by decide +kernel
theorem dX7_lasts_4 : decode cX7_lasts 4 = .ok (.iload_n 1, 1) := by decide +kernel
theorem dX7_lasts_5 : decode cX7_lasts 5 = .ok (.invokevirtual 152, 3) := by decide +kernel
theorem dX7_lasts_8 : decode cX7_lasts 8 = .ok (.ifCond .eq 24, 3) := by decide +kernel
theorem dX7_lasts_11 : decode cX7_lasts 11 = .ok (.aload_n 0, 1) := by decide +kernel
theorem dX7_lasts_12 : decode cX7_lasts 12 = .ok (.getfield 35, 3) := by decide +kernel
theorem dX7_lasts_15 : decode cX7_lasts 15 = .ok (.iload_n 2, 1) := by decide +kernel
theorem dX7_lasts_16 : decode cX7_lasts 16 = .ok (.invokevirtual 143, 3) := by decide +kernel
theorem dX7_lasts_19 : decode cX7_lasts 19 = .ok (.ifCond .eq 13, 3) := by decide +kernel
theorem dX7_lasts_22 : decode cX7_lasts 22 = .ok (.iload_n 3, 1) := by decide +kernel
theorem dX7_lasts_23 : decode cX7_lasts 23 = .ok (.iconst 1, 1) := by decide +kernel
theorem dX7_lasts_24 : decode cX7_lasts 24 = .ok (.if_icmp .lt 8, 3) := by decide +kernel
theorem dX7_lasts_27 : decode cX7_lasts 27 = .ok (.iload_n 3, 1) := by decide +kernel
theorem dX7_lasts_28 : decode cX7_lasts 28 = .ok (.iconst 3, 1) := by decide +kernel
theorem dX7_lasts_29 : decode cX7_lasts 29 = .ok (.if_icmp .le 5, 3) := by decide +kernel
theorem dX7_lasts_32 : decode cX7_lasts 32 = .ok (.iconst (-1), 1) := by decide +kernel
theorem dX7_lasts_33 : decode cX7_lasts 33 = .ok (.ireturn, 1) := by decide +kernel
theorem dX7_lasts_34 : decode cX7_lasts 34 = .ok (.iconst 0, 1) := by decide +kernel
theorem dX7_lasts_35 : decode cX7_lasts 35 = .ok (.istore 4, 2) := by decide +kernel
theorem dX7_lasts_37 : decode cX7_lasts 37 = .ok (.iload_n 2, 1) := by decide +kernel
theorem dX7_lasts_38 : decode cX7_lasts 38 = .ok (.istore 5, 2) := by decide +kernel
theorem dX7_lasts_40 : decode cX7_lasts 40 = .ok (.iload 5, 2) := by decide +kernel
theorem dX7_lasts_42 : decode cX7_lasts 42 = .ok (.ifCond .lt 36, 3) := by decide +kernel
theorem dX7_lasts_45 : decode cX7_lasts 45 = .ok (.aload_n 0, 1) := by decide +kernel
theorem dX7_lasts_46 : decode cX7_lasts 46 = .ok (.getfield 35, 3) := by decide +kernel
theorem dX7_lasts_49 : decode cX7_lasts 49 = .ok (.aload_n 0, 1) := by decide +kernel
theorem dX7_lasts_50 : decode cX7_lasts 50 = .ok (.getfield 35, 3) := by decide +kernel
theorem dX7_lasts_53 : decode cX7_lasts 53 = .ok (.iload_n 1, 1) := by decide +kernel
theorem dX7_lasts_54 : decode cX7_lasts 54 = .ok (.iload 5, 2) := by decide +kernel
theorem dX7_lasts_56 : decode cX7_lasts 56 = .ok (.invokevirtual 133, 3) := by decide +kernel
theorem dX7_lasts_59 : decode cX7_lasts 59 = .ok (.invokevirtual 140, 3) := by decide +kernel
theorem dX7_lasts_62 : decode cX7_lasts 62 = .ok (.iload_n 3, 1) := by decide +kernel
theorem dX7_lasts_63 : decode cX7_lasts 63 = .ok (.if_icmp .ge 6, 3) := by decide +kernel
theorem dX7_lasts_66 : decode cX7_lasts 66 = .ok (.goto 12, 3) := by decide +kernel
theorem dX7_lasts_69 : decode cX7_lasts 69 = .ok (.iinc 4 1, 3) := by decide +kernel
theorem dX7_lasts_72 : decode cX7_lasts 72 = .ok (.iinc 5 (-1), 3) := by decide +kernel
theorem dX7_lasts_75 : decode cX7_lasts 75 = .ok (.goto (-35), 3) := by decide +kernel
theorem dX7_lasts_78 : decode cX7_lasts 78 = .ok (.iload 4, 2) := by decide +kernel
theorem dX7_lasts_80 : decode cX7_lasts 80 = .ok (.ireturn, 1) := by decide +kernel
theorem dX7_worst_0 : decode cX7_worst 0 = .ok (.aload_n 0, 1) := by decide +kernel
theorem dX7_worst_1 : decode cX7_worst 1 = .ok (.getfield 35, 3) := by decide +kernel
theorem dX7_worst_4 : decode cX7_worst 4 = .ok (.iload_n 1, 1) := by decide +kernel
theorem dX7_worst_5 : decode cX7_worst 5 = .ok (.invokevirtual 152, 3) := by decide +kernel
theorem dX7_worst_8 : decode cX7_worst 8 = .ok (.ifCond .eq 25, 3) := by decide +kernel
theorem dX7_worst_11 : decode cX7_worst 11 = .ok (.aload_n 0, 1) := by decide +kernel
theorem dX7_worst_12 : decode cX7_worst 12 = .ok (.getfield 35, 3) := by decide +kernel
theorem dX7_worst_15 : decode cX7_worst 15 = .ok (.iload_n 2, 1) := by decide +kernel
theorem dX7_worst_16 : decode cX7_worst 16 = .ok (.invokevirtual 143, 3) := by decide +kernel
theorem dX7_worst_19 : decode cX7_worst 19 = .ok (.ifCond .eq 14, 3) := by decide +kernel
theorem dX7_worst_22 : decode cX7_worst 22 = .ok (.aload_n 0, 1) := by decide +kernel
theorem dX7_worst_23 : decode cX7_worst 23 = .ok (.getfield 35, 3) := by decide +kernel
theorem dX7_worst_26 : decode cX7_worst 26 = .ok (.iload_n 3, 1) := by decide +kernel
theorem dX7_worst_27 : decode cX7_worst 27 = .ok (.invokevirtual 143, 3) := by decide +kernel
theorem dX7_worst_30 : decode cX7_worst 30 = .ok (.ifCond .ne 5, 3) := by decide +kernel
theorem dX7_worst_33 : decode cX7_worst 33 = .ok (.iconst (-1), 1) := by decide +kernel
theorem dX7_worst_34 : decode cX7_worst 34 = .ok (.ireturn, 1) := by decide +kernel
theorem dX7_worst_35 : decode cX7_worst 35 = .ok (.iconst (-1), 1) := by decide +kernel
theorem dX7_worst_36 : decode cX7_worst 36 = .ok (.istore 4, 2) := by decide +kernel
theorem dX7_worst_38 : decode cX7_worst 38 = .ok (.iconst (-1), 1) := by decide +kernel
theorem dX7_worst_39 : decode cX7_worst 39 = .ok (.istore 5, 2) := by decide +kernel
theorem dX7_worst_41 : decode cX7_worst 41 = .ok (.iload_n 2, 1) := by decide +kernel
theorem dX7_worst_42 : decode cX7_worst 42 = .ok (.istore 6, 2) := by decide +kernel
theorem dX7_worst_44 : decode cX7_worst 44 = .ok (.iload 6, 2) := by decide +kernel
theorem dX7_worst_46 : decode cX7_worst 46 = .ok (.iload_n 3, 1) := by decide +kernel
theorem dX7_worst_47 : decode cX7_worst 47 = .ok (.if_icmp .gt 36, 3) := by decide +kernel
theorem dX7_worst_50 : decode cX7_worst 50 = .ok (.aload_n 0, 1) := by decide +kernel
theorem dX7_worst_51 : decode cX7_worst 51 = .ok (.getfield 35, 3) := by decide +kernel
theorem dX7_worst_54 : decode cX7_worst 54 = .ok (.iload_n 1, 1) := by decide +kernel
theorem dX7_worst_55 : decode cX7_worst 55 = .ok (.iload 6, 2) := by decide +kernel
theorem dX7_worst_57 : decode cX7_worst 57 = .ok (.invokevirtual 133, 3) := by decide +kernel
theorem dX7_worst_60 : decode cX7_worst 60 = .ok (.istore 7, 2) := by decide +kernel
theorem dX7_worst_62 : decode cX7_worst 62 = .ok (.iload 7, 2) := by decide +kernel
theorem dX7_worst_64 : decode cX7_worst 64 = .ok (.iload 4, 2) := by decide +kernel
theorem dX7_worst_66 : decode cX7_worst 66 = .ok (.if_icmp .le 11, 3) := by decide +kernel
theorem dX7_worst_69 : decode cX7_worst 69 = .ok (.iload 7, 2) := by decide +kernel
theorem dX7_worst_71 : decode cX7_worst 71 = .ok (.istore 4, 2) := by decide +kernel
theorem dX7_worst_73 : decode cX7_worst 73 = .ok (.iload 6, 2) := by decide +kernel
theorem dX7_worst_75 : decode cX7_worst 75 = .ok (.istore 5, 2) := by decide +kernel
theorem dX7_worst_77 : decode cX7_worst 77 = .ok (.iinc 6 1, 3) := by decide +kernel
theorem dX7_worst_80 : decode cX7_worst 80 = .ok (.goto (-36), 3) := by decide +kernel
theorem dX7_worst_83 : decode cX7_worst 83 = .ok (.iload 5, 2) := by decide +kernel
theorem dX7_worst_85 : decode cX7_worst 85 = .ok (.ireturn, 1) := by decide +kernel
theorem dX7_forecast_0 : decode cX7_forecast 0 = .ok (.aload_n 0, 1) := by decide +kernel
theorem dX7_forecast_1 : decode cX7_forecast 1 = .ok (.getfield 35, 3) := by decide +kernel
theorem dX7_forecast_4 : decode cX7_forecast 4 = .ok (.iload_n 1, 1) := by decide +kernel
theorem dX7_forecast_5 : decode cX7_forecast 5 = .ok (.iload_n 2, 1) := by decide +kernel
theorem dX7_forecast_6 : decode cX7_forecast 6 = .ok (.iload_n 3, 1) := by decide +kernel
theorem dX7_forecast_7 : decode cX7_forecast 7 = .ok (.invokevirtual 155, 3) := by decide +kernel
theorem dX7_forecast_10 : decode cX7_forecast 10 = .ok (.ireturn, 1) := by decide +kernel
theorem dX7_keeps_0 : decode cX7_keeps 0 = .ok (.aload_n 0, 1) := by decide +kernel
theorem dX7_keeps_1 : decode cX7_keeps 1 = .ok (.getfield 35, 3) := by decide +kernel
theorem dX7_keeps_4 : decode cX7_keeps 4 = .ok (.getfield 94, 3) := by decide +kernel
theorem dX7_keeps_7 : decode cX7_keeps 7 = .ok (.iconst 1, 1) := by decide +kernel
theorem dX7_keeps_8 : decode cX7_keeps 8 = .ok (.isub, 1) := by decide +kernel
theorem dX7_keeps_9 : decode cX7_keeps 9 = .ok (.istore 4, 2) := by decide +kernel
theorem dX7_keeps_11 : decode cX7_keeps 11 = .ok (.aload_n 0, 1) := by decide +kernel
theorem dX7_keeps_12 : decode cX7_keeps 12 = .ok (.getfield 35, 3) := by decide +kernel
theorem dX7_keeps_15 : decode cX7_keeps 15 = .ok (.iload_n 1, 1) := by decide +kernel
theorem dX7_keeps_16 : decode cX7_keeps 16 = .ok (.iload_n 2, 1) := by decide +kernel
theorem dX7_keeps_17 : decode cX7_keeps 17 = .ok (.iload 4, 2) := by decide +kernel
theorem dX7_keeps_19 : decode cX7_keeps 19 = .ok (.invokevirtual 158, 3) := by decide +kernel
theorem dX7_keeps_22 : decode cX7_keeps 22 = .ok (.ifCond .eq 12, 3) := by decide +kernel
theorem dX7_keeps_25 : decode cX7_keeps 25 = .ok (.iload_n 3, 1) := by decide +kernel
theorem dX7_keeps_26 : decode cX7_keeps 26 = .ok (.ifCond .lt 8, 3) := by decide +kernel
theorem dX7_keeps_29 : decode cX7_keeps 29 = .ok (.iload_n 3, 1) := by decide +kernel
theorem dX7_keeps_30 : decode cX7_keeps 30 = .ok (.iconst 3, 1) := by decide +kernel
theorem dX7_keeps_31 : decode cX7_keeps 31 = .ok (.if_icmp .lt 5, 3) := by decide +kernel
theorem dX7_keeps_34 : decode cX7_keeps 34 = .ok (.iconst (-1), 1) := by decide +kernel
theorem dX7_keeps_35 : decode cX7_keeps 35 = .ok (.ireturn, 1) := by decide +kernel
theorem dX7_keeps_36 : decode cX7_keeps 36 = .ok (.aload_n 0, 1) := by decide +kernel
theorem dX7_keeps_37 : decode cX7_keeps 37 = .ok (.getfield 35, 3) := by decide +kernel
theorem dX7_keeps_40 : decode cX7_keeps 40 = .ok (.iload_n 3, 1) := by decide +kernel
theorem dX7_keeps_41 : decode cX7_keeps 41 = .ok (.invokevirtual 162, 3) := by decide +kernel
theorem dX7_keeps_44 : decode cX7_keeps 44 = .ok (.istore 5, 2) := by decide +kernel
theorem dX7_keeps_46 : decode cX7_keeps 46 = .ok (.aload_n 0, 1) := by decide +kernel
theorem dX7_keeps_47 : decode cX7_keeps 47 = .ok (.getfield 35, 3) := by decide +kernel
theorem dX7_keeps_50 : decode cX7_keeps 50 = .ok (.iload_n 1, 1) := by decide +kernel
theorem dX7_keeps_51 : decode cX7_keeps 51 = .ok (.iload_n 2, 1) := by decide +kernel
theorem dX7_keeps_52 : decode cX7_keeps 52 = .ok (.iload 4, 2) := by decide +kernel
theorem dX7_keeps_54 : decode cX7_keeps 54 = .ok (.invokevirtual 113, 3) := by decide +kernel
theorem dX7_keeps_57 : decode cX7_keeps 57 = .ok (.istore 6, 2) := by decide +kernel
theorem dX7_keeps_59 : decode cX7_keeps 59 = .ok (.iconst (-1), 1) := by decide +kernel
theorem dX7_keeps_60 : decode cX7_keeps 60 = .ok (.istore 7, 2) := by decide +kernel
theorem dX7_keeps_62 : decode cX7_keeps 62 = .ok (.sipush 512, 3) := by decide +kernel
theorem dX7_keeps_65 : decode cX7_keeps 65 = .ok (.istore 8, 2) := by decide +kernel
theorem dX7_keeps_67 : decode cX7_keeps 67 = .ok (.iload 8, 2) := by decide +kernel
theorem dX7_keeps_69 : decode cX7_keeps 69 = .ok (.ifCond .le 72, 3) := by decide +kernel
theorem dX7_keeps_72 : decode cX7_keeps 72 = .ok (.iload 7, 2) := by decide +kernel
theorem dX7_keeps_74 : decode cX7_keeps 74 = .ok (.iload 8, 2) := by decide +kernel
theorem dX7_keeps_76 : decode cX7_keeps 76 = .ok (.iadd, 1) := by decide +kernel
theorem dX7_keeps_77 : decode cX7_keeps 77 = .ok (.istore 9, 2) := by decide +kernel
theorem dX7_keeps_79 : decode cX7_keeps 79 = .ok (.iload 9, 2) := by decide +kernel
theorem dX7_keeps_81 : decode cX7_keeps 81 = .ok (.sipush 999, 3) := by decide +kernel
theorem dX7_keeps_84 : decode cX7_keeps 84 = .ok (.if_icmp .le 6, 3) := by decide +kernel
theorem dX7_keeps_87 : decode cX7_keeps 87 = .ok (.goto 45, 3) := by decide +kernel
theorem dX7_keeps_90 : decode cX7_keeps 90 = .ok (.aload_n 0, 1) := by decide +kernel
theorem dX7_keeps_91 : decode cX7_keeps 91 = .ok (.getfield 35, 3) := by decide +kernel
theorem dX7_keeps_94 : decode cX7_keeps 94 = .ok (.iload_n 1, 1) := by decide +kernel
theorem dX7_keeps_95 : decode cX7_keeps 95 = .ok (.iload_n 2, 1) := by decide +kernel
theorem dX7_keeps_96 : decode cX7_keeps 96 = .ok (.iload 4, 2) := by decide +kernel
theorem dX7_keeps_98 : decode cX7_keeps 98 = .ok (.iload 9, 2) := by decide +kernel
theorem dX7_keeps_100 : decode cX7_keeps 100 = .ok (.invokevirtual 165, 3) := by decide +kernel
theorem dX7_keeps_103 : decode cX7_keeps 103 = .ok (.aload_n 0, 1) := by decide +kernel
theorem dX7_keeps_104 : decode cX7_keeps 104 = .ok (.getfield 35, 3) := by decide +kernel
theorem dX7_keeps_107 : decode cX7_keeps 107 = .ok (.iload_n 1, 1) := by decide +kernel
theorem dX7_keeps_108 : decode cX7_keeps 108 = .ok (.iload 4, 2) := by decide +kernel
theorem dX7_keeps_110 : decode cX7_keeps 110 = .ok (.invokevirtual 133, 3) := by decide +kernel
theorem dX7_keeps_113 : decode cX7_keeps 113 = .ok (.istore 10, 2) := by decide +kernel
theorem dX7_keeps_115 : decode cX7_keeps 115 = .ok (.iload 10, 2) := by decide +kernel
theorem dX7_keeps_117 : decode cX7_keeps 117 = .ok (.iconst (-1), 1) := by decide +kernel
theorem dX7_keeps_118 : decode cX7_keeps 118 = .ok (.if_icmp .eq 14, 3) := by decide +kernel
theorem dX7_keeps_121 : decode cX7_keeps 121 = .ok (.iload 10, 2) := by decide +kernel
theorem dX7_keeps_123 : decode cX7_keeps 123 = .ok (.iload 5, 2) := by decide +kernel
theorem dX7_keeps_125 : decode cX7_keeps 125 = .ok (.if_icmp .ge 7, 3) := by decide +kernel
theorem dX7_keeps_128 : decode cX7_keeps 128 = .ok (.iload 9, 2) := by decide +kernel
theorem dX7_keeps_130 : decode cX7_keeps 130 = .ok (.istore 7, 2) := by decide +kernel
theorem dX7_keeps_132 : decode cX7_keeps 132 = .ok (.iload 8, 2) := by decide +kernel
theorem dX7_keeps_134 : decode cX7_keeps 134 = .ok (.iconst 2, 1) := by decide +kernel
theorem dX7_keeps_135 : decode cX7_keeps 135 = .ok (.idiv, 1) := by decide +kernel
theorem dX7_keeps_136 : decode cX7_keeps 136 = .ok (.istore 8, 2) := by decide +kernel
theorem dX7_keeps_138 : decode cX7_keeps 138 = .ok (.goto (-71), 3) := by decide +kernel
theorem dX7_keeps_141 : decode cX7_keeps 141 = .ok (.aload_n 0, 1) := by decide +kernel
theorem dX7_keeps_142 : decode cX7_keeps 142 = .ok (.getfield 35, 3) := by decide +kernel
theorem dX7_keeps_145 : decode cX7_keeps 145 = .ok (.iload_n 1, 1) := by decide +kernel
theorem dX7_keeps_146 : decode cX7_keeps 146 = .ok (.iload_n 2, 1) := by decide +kernel
theorem dX7_keeps_147 : decode cX7_keeps 147 = .ok (.iload 4, 2) := by decide +kernel
theorem dX7_keeps_149 : decode cX7_keeps 149 = .ok (.iload 6, 2) := by decide +kernel
theorem dX7_keeps_151 : decode cX7_keeps 151 = .ok (.invokevirtual 165, 3) := by decide +kernel
theorem dX7_keeps_154 : decode cX7_keeps 154 = .ok (.iload 7, 2) := by decide +kernel
theorem dX7_keeps_156 : decode cX7_keeps 156 = .ok (.ifCond .ge 8, 3) := by decide +kernel
theorem dX7_keeps_159 : decode cX7_keeps 159 = .ok (.bipush (-2), 2) := by decide +kernel
theorem dX7_keeps_161 : decode cX7_keeps 161 = .ok (.goto 5, 3) := by decide +kernel
theorem dX7_keeps_164 : decode cX7_keeps 164 = .ok (.iload 7, 2) := by decide +kernel
theorem dX7_keeps_166 : decode cX7_keeps 166 = .ok (.ireturn, 1) := by decide +kernel
theorem dX7_touches_0 : decode cX7_touches 0 = .ok (.aload_n 0, 1) := by decide +kernel
theorem dX7_touches_1 : decode cX7_touches 1 = .ok (.iload_n 1, 1) := by decide +kernel
theorem dX7_touches_2 : decode cX7_touches 2 = .ok (.iload_n 2, 1) := by decide +kernel
theorem dX7_touches_3 : decode cX7_touches 3 = .ok (.iload_n 3, 1) := by decide +kernel
theorem dX7_touches_4 : decode cX7_touches 4 = .ok (.iload 4, 2) := by decide +kernel
theorem dX7_touches_6 : decode cX7_touches 6 = .ok (.invokevirtual 169, 3) := by decide +kernel
theorem dX7_touches_9 : decode cX7_touches 9 = .ok (.ifCond .ne 5, 3) := by decide +kernel
theorem dX7_touches_12 : decode cX7_touches 12 = .ok (.iconst (-1), 1) := by decide +kernel
theorem dX7_touches_13 : decode cX7_touches 13 = .ok (.ireturn, 1) := by decide +kernel
theorem dX7_touches_14 : decode cX7_touches 14 = .ok (.aload_n 0, 1) := by decide +kernel
theorem dX7_touches_15 : decode cX7_touches 15 = .ok (.iload_n 1, 1) := by decide +kernel
theorem dX7_touches_16 : decode cX7_touches 16 = .ok (.iload_n 2, 1) := by decide +kernel
theorem dX7_touches_17 : decode cX7_touches 17 = .ok (.iload_n 3, 1) := by decide +kernel
theorem dX7_touches_18 : decode cX7_touches 18 = .ok (.iload 4, 2) := by decide +kernel
theorem dX7_touches_20 : decode cX7_touches 20 = .ok (.invokevirtual 173, 3) := by decide +kernel
theorem dX7_touches_23 : decode cX7_touches 23 = .ok (.ireturn, 1) := by decide +kernel
theorem dX7_correct_0 : decode cX7_correct 0 = .ok (.aload_n 0, 1) := by decide +kernel
theorem dX7_correct_1 : decode cX7_correct 1 = .ok (.iload_n 1, 1) := by decide +kernel
theorem dX7_correct_2 : decode cX7_correct 2 = .ok (.iload_n 2, 1) := by decide +kernel
theorem dX7_correct_3 : decode cX7_correct 3 = .ok (.iload_n 3, 1) := by decide +kernel
theorem dX7_correct_4 : decode cX7_correct 4 = .ok (.iload 4, 2) := by decide +kernel
theorem dX7_correct_6 : decode cX7_correct 6 = .ok (.invokevirtual 169, 3) := by decide +kernel
theorem dX7_correct_9 : decode cX7_correct 9 = .ok (.ifCond .ne 6, 3) := by decide +kernel
theorem dX7_correct_12 : decode cX7_correct 12 = .ok (.bipush (-2), 2) := by decide +kernel
theorem dX7_correct_14 : decode cX7_correct 14 = .ok (.ireturn, 1) := by decide +kernel
theorem dX7_correct_15 : decode cX7_correct 15 = .ok (.aload_n 0, 1) := by decide +kernel
theorem dX7_correct_16 : decode cX7_correct 16 = .ok (.iload_n 1, 1) := by decide +kernel
theorem dX7_correct_17 : decode cX7_correct 17 = .ok (.iload_n 2, 1) := by decide +kernel
theorem dX7_correct_18 : decode cX7_correct 18 = .ok (.iload_n 3, 1) := by decide +kernel
theorem dX7_correct_19 : decode cX7_correct 19 = .ok (.iload 4, 2) := by decide +kernel
theorem dX7_correct_21 : decode cX7_correct 21 = .ok (.invokevirtual 173, 3) := by decide +kernel
theorem dX7_correct_24 : decode cX7_correct 24 = .ok (.istore 5, 2) := by decide +kernel
theorem dX7_correct_26 : decode cX7_correct 26 = .ok (.aload_n 0, 1) := by decide +kernel
theorem dX7_correct_27 : decode cX7_correct 27 = .ok (.getfield 28, 3) := by decide +kernel
theorem dX7_correct_30 : decode cX7_correct 30 = .ok (.iconst 1, 1) := by decide +kernel
theorem dX7_correct_31 : decode cX7_correct 31 = .ok (.invokevirtual 177, 3) := by decide +kernel
theorem dX7_correct_34 : decode cX7_correct 34 = .ok (.astore 6, 2) := by decide +kernel
theorem dX7_correct_36 : decode cX7_correct 36 = .ok (.aload 6, 2) := by decide +kernel
theorem dX7_correct_38 : decode cX7_correct 38 = .ok (.iload_n 1, 1) := by decide +kernel
theorem dX7_correct_39 : decode cX7_correct 39 = .ok (.putfield 181, 3) := by decide +kernel
theorem dX7_correct_42 : decode cX7_correct 42 = .ok (.aload 6, 2) := by decide +kernel
theorem dX7_correct_44 : decode cX7_correct 44 = .ok (.iload_n 2, 1) := by decide +kernel
theorem dX7_correct_45 : decode cX7_correct 45 = .ok (.putfield 186, 3) := by decide +kernel
theorem dX7_correct_48 : decode cX7_correct 48 = .ok (.aload 6, 2) := by decide +kernel
theorem dX7_correct_50 : decode cX7_correct 50 = .ok (.iload_n 3, 1) := by decide +kernel
theorem dX7_correct_51 : decode cX7_correct 51 = .ok (.putfield 189, 3) := by decide +kernel
theorem dX7_correct_54 : decode cX7_correct 54 = .ok (.aload 6, 2) := by decide +kernel
theorem dX7_correct_56 : decode cX7_correct 56 = .ok (.aload_n 0, 1) := by decide +kernel
theorem dX7_correct_57 : decode cX7_correct 57 = .ok (.getfield 35, 3) := by decide +kernel
theorem dX7_correct_60 : decode cX7_correct 60 = .ok (.iload_n 1, 1) := by decide +kernel
theorem dX7_correct_61 : decode cX7_correct 61 = .ok (.iload_n 2, 1) := by decide +kernel
theorem dX7_correct_62 : decode cX7_correct 62 = .ok (.iload_n 3, 1) := by decide +kernel
theorem dX7_correct_63 : decode cX7_correct 63 = .ok (.invokevirtual 113, 3) := by decide +kernel
theorem dX7_correct_66 : decode cX7_correct 66 = .ok (.putfield 192, 3) := by decide +kernel
theorem dX7_correct_69 : decode cX7_correct 69 = .ok (.aload_n 0, 1) := by decide +kernel
theorem dX7_correct_70 : decode cX7_correct 70 = .ok (.getfield 35, 3) := by decide +kernel
theorem dX7_correct_73 : decode cX7_correct 73 = .ok (.iload_n 1, 1) := by decide +kernel
theorem dX7_correct_74 : decode cX7_correct 74 = .ok (.iload_n 2, 1) := by decide +kernel
theorem dX7_correct_75 : decode cX7_correct 75 = .ok (.iload_n 3, 1) := by decide +kernel
theorem dX7_correct_76 : decode cX7_correct 76 = .ok (.iload 4, 2) := by decide +kernel
theorem dX7_correct_78 : decode cX7_correct 78 = .ok (.invokevirtual 165, 3) := by decide +kernel
theorem dX7_correct_81 : decode cX7_correct 81 = .ok (.iload 5, 2) := by decide +kernel
theorem dX7_correct_83 : decode cX7_correct 83 = .ok (.invokestatic 195, 3) := by decide +kernel
theorem dX7_correct_86 : decode cX7_correct 86 = .ok (.ireturn, 1) := by decide +kernel
theorem dX7_pass_0 : decode cX7_pass 0 = .ok (.iload_n 1, 1) := by decide +kernel
theorem dX7_pass_1 : decode cX7_pass 1 = .ok (.iconst 1, 1) := by decide +kernel
theorem dX7_pass_2 : decode cX7_pass 2 = .ok (.if_icmp .lt 23, 3) := by decide +kernel
theorem dX7_pass_5 : decode cX7_pass 5 = .ok (.iload_n 1, 1) := by decide +kernel
theorem dX7_pass_6 : decode cX7_pass 6 = .ok (.bipush 12, 2) := by decide +kernel
theorem dX7_pass_8 : decode cX7_pass 8 = .ok (.if_icmp .gt 17, 3) := by decide +kernel
theorem dX7_pass_11 : decode cX7_pass 11 = .ok (.aload_n 0, 1) := by decide +kernel
theorem dX7_pass_12 : decode cX7_pass 12 = .ok (.getfield 35, 3) := by decide +kernel
theorem dX7_pass_15 : decode cX7_pass 15 = .ok (.getfield 94, 3) := by decide +kernel
theorem dX7_pass_18 : decode cX7_pass 18 = .ok (.iload_n 1, 1) := by decide +kernel
theorem dX7_pass_19 : decode cX7_pass 19 = .ok (.iadd, 1) := by decide +kernel
theorem dX7_pass_20 : decode cX7_pass 20 = .ok (.bipush 60, 2) := by decide +kernel
theorem dX7_pass_22 : decode cX7_pass 22 = .ok (.if_icmp .le 5, 3) := by decide +kernel
theorem dX7_pass_25 : decode cX7_pass 25 = .ok (.iconst (-1), 1) := by decide +kernel
theorem dX7_pass_26 : decode cX7_pass 26 = .ok (.ireturn, 1) := by decide +kernel
theorem dX7_pass_27 : decode cX7_pass 27 = .ok (.aload_n 0, 1) := by decide +kernel
theorem dX7_pass_28 : decode cX7_pass 28 = .ok (.getfield 28, 3) := by decide +kernel
theorem dX7_pass_31 : decode cX7_pass 31 = .ok (.iconst 2, 1) := by decide +kernel
theorem dX7_pass_32 : decode cX7_pass 32 = .ok (.invokevirtual 177, 3) := by decide +kernel
theorem dX7_pass_35 : decode cX7_pass 35 = .ok (.astore_n 2, 1) := by decide +kernel
theorem dX7_pass_36 : decode cX7_pass 36 = .ok (.aload_n 2, 1) := by decide +kernel
theorem dX7_pass_37 : decode cX7_pass 37 = .ok (.aload_n 0, 1) := by decide +kernel
theorem dX7_pass_38 : decode cX7_pass 38 = .ok (.getfield 35, 3) := by decide +kernel
theorem dX7_pass_41 : decode cX7_pass 41 = .ok (.getfield 94, 3) := by decide +kernel
theorem dX7_pass_44 : decode cX7_pass 44 = .ok (.putfield 192, 3) := by decide +kernel
theorem dX7_pass_47 : decode cX7_pass 47 = .ok (.aload_n 0, 1) := by decide +kernel
theorem dX7_pass_48 : decode cX7_pass 48 = .ok (.getfield 35, 3) := by decide +kernel
theorem dX7_pass_51 : decode cX7_pass 51 = .ok (.dup, 1) := by decide +kernel
theorem dX7_pass_52 : decode cX7_pass 52 = .ok (.getfield 94, 3) := by decide +kernel
theorem dX7_pass_55 : decode cX7_pass 55 = .ok (.iload_n 1, 1) := by decide +kernel
theorem dX7_pass_56 : decode cX7_pass 56 = .ok (.iadd, 1) := by decide +kernel
theorem dX7_pass_57 : decode cX7_pass 57 = .ok (.putfield 94, 3) := by decide +kernel
theorem dX7_pass_60 : decode cX7_pass 60 = .ok (.aload_n 0, 1) := by decide +kernel
theorem dX7_pass_61 : decode cX7_pass 61 = .ok (.getfield 35, 3) := by decide +kernel
theorem dX7_pass_64 : decode cX7_pass 64 = .ok (.getfield 94, 3) := by decide +kernel
theorem dX7_pass_67 : decode cX7_pass 67 = .ok (.ireturn, 1) := by decide +kernel
theorem dX7_smooth_0 : decode cX7_smooth 0 = .ok (.iload_n 1, 1) := by decide +kernel
theorem dX7_smooth_1 : decode cX7_smooth 1 = .ok (.ifCond .lt 9, 3) := by decide +kernel
theorem dX7_smooth_4 : decode cX7_smooth 4 = .ok (.iload_n 1, 1) := by decide +kernel
theorem dX7_smooth_5 : decode cX7_smooth 5 = .ok (.bipush 100, 2) := by decide +kernel
theorem dX7_smooth_7 : decode cX7_smooth 7 = .ok (.if_icmp .le 5, 3) := by decide +kernel
theorem dX7_smooth_10 : decode cX7_smooth 10 = .ok (.iconst (-1), 1) := by decide +kernel
theorem dX7_smooth_11 : decode cX7_smooth 11 = .ok (.ireturn, 1) := by decide +kernel
theorem dX7_smooth_12 : decode cX7_smooth 12 = .ok (.aload_n 0, 1) := by decide +kernel
theorem dX7_smooth_13 : decode cX7_smooth 13 = .ok (.getfield 28, 3) := by decide +kernel
theorem dX7_smooth_16 : decode cX7_smooth 16 = .ok (.iconst 3, 1) := by decide +kernel
theorem dX7_smooth_17 : decode cX7_smooth 17 = .ok (.invokevirtual 177, 3) := by decide +kernel
theorem dX7_smooth_20 : decode cX7_smooth 20 = .ok (.astore_n 2, 1) := by decide +kernel
theorem dX7_smooth_21 : decode cX7_smooth 21 = .ok (.aload_n 2, 1) := by decide +kernel
theorem dX7_smooth_22 : decode cX7_smooth 22 = .ok (.aload_n 0, 1) := by decide +kernel
theorem dX7_smooth_23 : decode cX7_smooth 23 = .ok (.getfield 35, 3) := by decide +kernel
theorem dX7_smooth_26 : decode cX7_smooth 26 = .ok (.getfield 107, 3) := by decide +kernel
theorem dX7_smooth_29 : decode cX7_smooth 29 = .ok (.putfield 192, 3) := by decide +kernel
theorem dX7_smooth_32 : decode cX7_smooth 32 = .ok (.aload_n 0, 1) := by decide +kernel
theorem dX7_smooth_33 : decode cX7_smooth 33 = .ok (.getfield 35, 3) := by decide +kernel
theorem dX7_smooth_36 : decode cX7_smooth 36 = .ok (.iload_n 1, 1) := by decide +kernel
theorem dX7_smooth_37 : decode cX7_smooth 37 = .ok (.putfield 107, 3) := by decide +kernel
theorem dX7_smooth_40 : decode cX7_smooth 40 = .ok (.aload_n 2, 1) := by decide +kernel
theorem dX7_smooth_41 : decode cX7_smooth 41 = .ok (.getfield 192, 3) := by decide +kernel
theorem dX7_smooth_44 : decode cX7_smooth 44 = .ok (.ireturn, 1) := by decide +kernel
theorem dX7_window_0 : decode cX7_window 0 = .ok (.aload_n 0, 1) := by decide +kernel
theorem dX7_window_1 : decode cX7_window 1 = .ok (.getfield 35, 3) := by decide +kernel
theorem dX7_window_4 : decode cX7_window 4 = .ok (.iload_n 1, 1) := by decide +kernel
theorem dX7_window_5 : decode cX7_window 5 = .ok (.invokevirtual 120, 3) := by decide +kernel
theorem dX7_window_8 : decode cX7_window 8 = .ok (.astore 4, 2) := by decide +kernel
theorem dX7_window_10 : decode cX7_window 10 = .ok (.aload 4, 2) := by decide +kernel
theorem dX7_window_12 : decode cX7_window 12 = .ok (.ifnull 24, 3) := by decide +kernel
theorem dX7_window_15 : decode cX7_window 15 = .ok (.iload_n 2, 1) := by decide +kernel
theorem dX7_window_16 : decode cX7_window 16 = .ok (.iconst 1, 1) := by decide +kernel
theorem dX7_window_17 : decode cX7_window 17 = .ok (.if_icmp .lt 19, 3) := by decide +kernel
theorem dX7_window_20 : decode cX7_window 20 = .ok (.iload_n 2, 1) := by decide +kernel
theorem dX7_window_21 : decode cX7_window 21 = .ok (.bipush 12, 2) := by decide +kernel
theorem dX7_window_23 : decode cX7_window 23 = .ok (.if_icmp .gt 13, 3) := by decide +kernel
theorem dX7_window_26 : decode cX7_window 26 = .ok (.iload_n 3, 1) := by decide +kernel
theorem dX7_window_27 : decode cX7_window 27 = .ok (.iconst 1, 1) := by decide +kernel
theorem dX7_window_28 : decode cX7_window 28 = .ok (.if_icmp .lt 8, 3) := by decide +kernel
theorem dX7_window_31 : decode cX7_window 31 = .ok (.iload_n 3, 1) := by decide +kernel
theorem dX7_window_32 : decode cX7_window 32 = .ok (.iload_n 2, 1) := by decide +kernel
theorem dX7_window_33 : decode cX7_window 33 = .ok (.if_icmp .le 5, 3) := by decide +kernel
theorem dX7_window_36 : decode cX7_window 36 = .ok (.iconst 0, 1) := by decide +kernel
theorem dX7_window_37 : decode cX7_window 37 = .ok (.ireturn, 1) := by decide +kernel
theorem dX7_window_38 : decode cX7_window 38 = .ok (.aload_n 0, 1) := by decide +kernel
theorem dX7_window_39 : decode cX7_window 39 = .ok (.getfield 28, 3) := by decide +kernel
theorem dX7_window_42 : decode cX7_window 42 = .ok (.iconst 4, 1) := by decide +kernel
theorem dX7_window_43 : decode cX7_window 43 = .ok (.invokevirtual 177, 3) := by decide +kernel
theorem dX7_window_46 : decode cX7_window 46 = .ok (.astore 5, 2) := by decide +kernel
theorem dX7_window_48 : decode cX7_window 48 = .ok (.aload 5, 2) := by decide +kernel
theorem dX7_window_50 : decode cX7_window 50 = .ok (.iload_n 1, 1) := by decide +kernel
theorem dX7_window_51 : decode cX7_window 51 = .ok (.putfield 186, 3) := by decide +kernel
theorem dX7_window_54 : decode cX7_window 54 = .ok (.aload 5, 2) := by decide +kernel
theorem dX7_window_56 : decode cX7_window 56 = .ok (.aload 4, 2) := by decide +kernel
theorem dX7_window_58 : decode cX7_window 58 = .ok (.getfield 200, 3) := by decide +kernel
theorem dX7_window_61 : decode cX7_window 61 = .ok (.putfield 192, 3) := by decide +kernel
theorem dX7_window_64 : decode cX7_window 64 = .ok (.aload 5, 2) := by decide +kernel
theorem dX7_window_66 : decode cX7_window 66 = .ok (.aload 4, 2) := by decide +kernel
theorem dX7_window_68 : decode cX7_window 68 = .ok (.getfield 203, 3) := by decide +kernel
theorem dX7_window_71 : decode cX7_window 71 = .ok (.putfield 206, 3) := by decide +kernel
theorem dX7_window_74 : decode cX7_window 74 = .ok (.aload 4, 2) := by decide +kernel
theorem dX7_window_76 : decode cX7_window 76 = .ok (.iload_n 2, 1) := by decide +kernel
theorem dX7_window_77 : decode cX7_window 77 = .ok (.putfield 200, 3) := by decide +kernel
theorem dX7_window_80 : decode cX7_window 80 = .ok (.aload 4, 2) := by decide +kernel
theorem dX7_window_82 : decode cX7_window 82 = .ok (.iload_n 3, 1) := by decide +kernel
theorem dX7_window_83 : decode cX7_window 83 = .ok (.putfield 203, 3) := by decide +kernel
theorem dX7_window_86 : decode cX7_window 86 = .ok (.iconst 1, 1) := by decide +kernel
theorem dX7_window_87 : decode cX7_window 87 = .ok (.ireturn, 1) := by decide +kernel
theorem dX7_undo_0 : decode cX7_undo 0 = .ok (.aload_n 0, 1) := by decide +kernel
theorem dX7_undo_1 : decode cX7_undo 1 = .ok (.getfield 28, 3) := by decide +kernel
theorem dX7_undo_4 : decode cX7_undo 4 = .ok (.invokevirtual 209, 3) := by decide +kernel
theorem dX7_undo_7 : decode cX7_undo 7 = .ok (.astore_n 1, 1) := by decide +kernel
theorem dX7_undo_8 : decode cX7_undo 8 = .ok (.aload_n 1, 1) := by decide +kernel
theorem dX7_undo_9 : decode cX7_undo 9 = .ok (.ifnonnull 5, 3) := by decide +kernel
theorem dX7_undo_12 : decode cX7_undo 12 = .ok (.iconst (-1), 1) := by decide +kernel
theorem dX7_undo_13 : decode cX7_undo 13 = .ok (.ireturn, 1) := by decide +kernel
theorem dX7_undo_14 : decode cX7_undo 14 = .ok (.aload_n 0, 1) := by decide +kernel
theorem dX7_undo_15 : decode cX7_undo 15 = .ok (.aload_n 1, 1) := by decide +kernel
theorem dX7_undo_16 : decode cX7_undo 16 = .ok (.invokevirtual 213, 3) := by decide +kernel
theorem dX7_undo_19 : decode cX7_undo 19 = .ok (.aload_n 0, 1) := by decide +kernel
theorem dX7_undo_20 : decode cX7_undo 20 = .ok (.getfield 28, 3) := by decide +kernel
theorem dX7_undo_23 : decode cX7_undo 23 = .ok (.getfield 110, 3) := by decide +kernel
theorem dX7_undo_26 : decode cX7_undo 26 = .ok (.ireturn, 1) := by decide +kernel
theorem dX7_takeBack_0 : decode cX7_takeBack 0 = .ok (.aload_n 1, 1) := by decide +kernel
theorem dX7_takeBack_1 : decode cX7_takeBack 1 = .ok (.getfield 217, 3) := by decide +kernel
theorem dX7_takeBack_4 : decode cX7_takeBack 4 = .ok (.tableswitch 121 1 4 #[32, 58, 72, 86], 32) := by decide +kernel
theorem dX7_takeBack_36 : decode cX7_takeBack 36 = .ok (.aload_n 0, 1) := by decide +kernel
theorem dX7_takeBack_37 : decode cX7_takeBack 37 = .ok (.getfield 35, 3) := by decide +kernel
theorem dX7_takeBack_40 : decode cX7_takeBack 40 = .ok (.aload_n 1, 1) := by decide +kernel
theorem dX7_takeBack_41 : decode cX7_takeBack 41 = .ok (.getfield 181, 3) := by decide +kernel
theorem dX7_takeBack_44 : decode cX7_takeBack 44 = .ok (.aload_n 1, 1) := by decide +kernel
theorem dX7_takeBack_45 : decode cX7_takeBack 45 = .ok (.getfield 186, 3) := by decide +kernel
theorem dX7_takeBack_48 : decode cX7_takeBack 48 = .ok (.aload_n 1, 1) := by decide +kernel
theorem dX7_takeBack_49 : decode cX7_takeBack 49 = .ok (.getfield 189, 3) := by decide +kernel
theorem dX7_takeBack_52 : decode cX7_takeBack 52 = .ok (.aload_n 1, 1) := by decide +kernel
theorem dX7_takeBack_53 : decode cX7_takeBack 53 = .ok (.getfield 192, 3) := by decide +kernel
theorem dX7_takeBack_56 : decode cX7_takeBack 56 = .ok (.invokevirtual 165, 3) := by decide +kernel
theorem dX7_takeBack_59 : decode cX7_takeBack 59 = .ok (.goto 66, 3) := by decide +kernel
theorem dX7_takeBack_62 : decode cX7_takeBack 62 = .ok (.aload_n 0, 1) := by decide +kernel
theorem dX7_takeBack_63 : decode cX7_takeBack 63 = .ok (.getfield 35, 3) := by decide +kernel
theorem dX7_takeBack_66 : decode cX7_takeBack 66 = .ok (.aload_n 1, 1) := by decide +kernel
theorem dX7_takeBack_67 : decode cX7_takeBack 67 = .ok (.getfield 192, 3) := by decide +kernel
theorem dX7_takeBack_70 : decode cX7_takeBack 70 = .ok (.putfield 94, 3) := by decide +kernel
theorem dX7_takeBack_73 : decode cX7_takeBack 73 = .ok (.goto 52, 3) := by decide +kernel
theorem dX7_takeBack_76 : decode cX7_takeBack 76 = .ok (.aload_n 0, 1) := by decide +kernel
theorem dX7_takeBack_77 : decode cX7_takeBack 77 = .ok (.getfield 35, 3) := by decide +kernel
theorem dX7_takeBack_80 : decode cX7_takeBack 80 = .ok (.aload_n 1, 1) := by decide +kernel
theorem dX7_takeBack_81 : decode cX7_takeBack 81 = .ok (.getfield 192, 3) := by decide +kernel
theorem dX7_takeBack_84 : decode cX7_takeBack 84 = .ok (.putfield 107, 3) := by decide +kernel
theorem dX7_takeBack_87 : decode cX7_takeBack 87 = .ok (.goto 38, 3) := by decide +kernel
theorem dX7_takeBack_90 : decode cX7_takeBack 90 = .ok (.aload_n 0, 1) := by decide +kernel
theorem dX7_takeBack_91 : decode cX7_takeBack 91 = .ok (.getfield 35, 3) := by decide +kernel
theorem dX7_takeBack_94 : decode cX7_takeBack 94 = .ok (.aload_n 1, 1) := by decide +kernel
theorem dX7_takeBack_95 : decode cX7_takeBack 95 = .ok (.getfield 186, 3) := by decide +kernel
theorem dX7_takeBack_98 : decode cX7_takeBack 98 = .ok (.invokevirtual 120, 3) := by decide +kernel
theorem dX7_takeBack_101 : decode cX7_takeBack 101 = .ok (.astore_n 2, 1) := by decide +kernel
theorem dX7_takeBack_102 : decode cX7_takeBack 102 = .ok (.aload_n 2, 1) := by decide +kernel
theorem dX7_takeBack_103 : decode cX7_takeBack 103 = .ok (.ifnull 22, 3) := by decide +kernel
theorem dX7_takeBack_106 : decode cX7_takeBack 106 = .ok (.aload_n 2, 1) := by decide +kernel
theorem dX7_takeBack_107 : decode cX7_takeBack 107 = .ok (.aload_n 1, 1) := by decide +kernel
theorem dX7_takeBack_108 : decode cX7_takeBack 108 = .ok (.getfield 192, 3) := by decide +kernel
theorem dX7_takeBack_111 : decode cX7_takeBack 111 = .ok (.putfield 200, 3) := by decide +kernel
theorem dX7_takeBack_114 : decode cX7_takeBack 114 = .ok (.aload_n 2, 1) := by decide +kernel
theorem dX7_takeBack_115 : decode cX7_takeBack 115 = .ok (.aload_n 1, 1) := by decide +kernel
theorem dX7_takeBack_116 : decode cX7_takeBack 116 = .ok (.getfield 206, 3) := by decide +kernel
theorem dX7_takeBack_119 : decode cX7_takeBack 119 = .ok (.putfield 203, 3) := by decide +kernel
theorem dX7_takeBack_122 : decode cX7_takeBack 122 = .ok (.goto 3, 3) := by decide +kernel
theorem dX7_takeBack_125 : decode cX7_takeBack 125 = .ok (.return_, 1) := by decide +kernel
theorem dX7_canCorrect_0 : decode cX7_canCorrect 0 = .ok (.aload_n 0, 1) := by decide +kernel
theorem dX7_canCorrect_1 : decode cX7_canCorrect 1 = .ok (.getfield 35, 3) := by decide +kernel
theorem dX7_canCorrect_4 : decode cX7_canCorrect 4 = .ok (.iload_n 1, 1) := by decide +kernel
theorem dX7_canCorrect_5 : decode cX7_canCorrect 5 = .ok (.iload_n 2, 1) := by decide +kernel
theorem dX7_canCorrect_6 : decode cX7_canCorrect 6 = .ok (.iload_n 3, 1) := by decide +kernel
theorem dX7_canCorrect_7 : decode cX7_canCorrect 7 = .ok (.invokevirtual 158, 3) := by decide +kernel
theorem dX7_canCorrect_10 : decode cX7_canCorrect 10 = .ok (.ifCond .eq 21, 3) := by decide +kernel
theorem dX7_canCorrect_13 : decode cX7_canCorrect 13 = .ok (.iload 4, 2) := by decide +kernel
theorem dX7_canCorrect_15 : decode cX7_canCorrect 15 = .ok (.iconst (-1), 1) := by decide +kernel
theorem dX7_canCorrect_16 : decode cX7_canCorrect 16 = .ok (.if_icmp .lt 15, 3) := by decide +kernel
theorem dX7_canCorrect_19 : decode cX7_canCorrect 19 = .ok (.iload 4, 2) := by decide +kernel
theorem dX7_canCorrect_21 : decode cX7_canCorrect 21 = .ok (.sipush 999, 3) := by decide +kernel
theorem dX7_canCorrect_24 : decode cX7_canCorrect 24 = .ok (.if_icmp .gt 7, 3) := by decide +kernel
theorem dX7_canCorrect_27 : decode cX7_canCorrect 27 = .ok (.iconst 1, 1) := by decide +kernel
theorem dX7_canCorrect_28 : decode cX7_canCorrect 28 = .ok (.goto 4, 3) := by decide +kernel
theorem dX7_canCorrect_31 : decode cX7_canCorrect 31 = .ok (.iconst 0, 1) := by decide +kernel
theorem dX7_canCorrect_32 : decode cX7_canCorrect 32 = .ok (.ireturn, 1) := by decide +kernel
theorem dX7_touchedHours_0 : decode cX7_touchedHours 0 = .ok (.aload_n 0, 1) := by decide +kernel
theorem dX7_touchedHours_1 : decode cX7_touchedHours 1 = .ok (.getfield 35, 3) := by decide +kernel
theorem dX7_touchedHours_4 : decode cX7_touchedHours 4 = .ok (.iload_n 1, 1) := by decide +kernel
theorem dX7_touchedHours_5 : decode cX7_touchedHours 5 = .ok (.iload_n 2, 1) := by decide +kernel
theorem dX7_touchedHours_6 : decode cX7_touchedHours 6 = .ok (.iload_n 3, 1) := by decide +kernel
theorem dX7_touchedHours_7 : decode cX7_touchedHours 7 = .ok (.invokevirtual 113, 3) := by decide +kernel
theorem dX7_touchedHours_10 : decode cX7_touchedHours 10 = .ok (.istore 5, 2) := by decide +kernel
theorem dX7_touchedHours_12 : decode cX7_touchedHours 12 = .ok (.iconst 0, 1) := by decide +kernel
theorem dX7_touchedHours_13 : decode cX7_touchedHours 13 = .ok (.istore 6, 2) := by decide +kernel
theorem dX7_touchedHours_15 : decode cX7_touchedHours 15 = .ok (.iconst 0, 1) := by decide +kernel
theorem dX7_touchedHours_16 : decode cX7_touchedHours 16 = .ok (.istore 7, 2) := by decide +kernel
theorem dX7_touchedHours_18 : decode cX7_touchedHours 18 = .ok (.iload 7, 2) := by decide +kernel
theorem dX7_touchedHours_20 : decode cX7_touchedHours 20 = .ok (.bipush 12, 2) := by decide +kernel
theorem dX7_touchedHours_22 : decode cX7_touchedHours 22 = .ok (.if_icmp .ge 77, 3) := by decide +kernel
theorem dX7_touchedHours_25 : decode cX7_touchedHours 25 = .ok (.aload_n 0, 1) := by decide +kernel
theorem dX7_touchedHours_26 : decode cX7_touchedHours 26 = .ok (.getfield 35, 3) := by decide +kernel
theorem dX7_touchedHours_29 : decode cX7_touchedHours 29 = .ok (.iload_n 1, 1) := by decide +kernel
theorem dX7_touchedHours_30 : decode cX7_touchedHours 30 = .ok (.iload_n 3, 1) := by decide +kernel
theorem dX7_touchedHours_31 : decode cX7_touchedHours 31 = .ok (.iload 7, 2) := by decide +kernel
theorem dX7_touchedHours_33 : decode cX7_touchedHours 33 = .ok (.iadd, 1) := by decide +kernel
theorem dX7_touchedHours_34 : decode cX7_touchedHours 34 = .ok (.invokevirtual 133, 3) := by decide +kernel
theorem dX7_touchedHours_37 : decode cX7_touchedHours 37 = .ok (.istore 8, 2) := by decide +kernel
theorem dX7_touchedHours_39 : decode cX7_touchedHours 39 = .ok (.aload_n 0, 1) := by decide +kernel
theorem dX7_touchedHours_40 : decode cX7_touchedHours 40 = .ok (.getfield 35, 3) := by decide +kernel
theorem dX7_touchedHours_43 : decode cX7_touchedHours 43 = .ok (.iload_n 1, 1) := by decide +kernel
theorem dX7_touchedHours_44 : decode cX7_touchedHours 44 = .ok (.iload_n 2, 1) := by decide +kernel
theorem dX7_touchedHours_45 : decode cX7_touchedHours 45 = .ok (.iload_n 3, 1) := by decide +kernel
theorem dX7_touchedHours_46 : decode cX7_touchedHours 46 = .ok (.iload 4, 2) := by decide +kernel
theorem dX7_touchedHours_48 : decode cX7_touchedHours 48 = .ok (.invokevirtual 165, 3) := by decide +kernel
theorem dX7_touchedHours_51 : decode cX7_touchedHours 51 = .ok (.aload_n 0, 1) := by decide +kernel
theorem dX7_touchedHours_52 : decode cX7_touchedHours 52 = .ok (.getfield 35, 3) := by decide +kernel
theorem dX7_touchedHours_55 : decode cX7_touchedHours 55 = .ok (.iload_n 1, 1) := by decide +kernel
theorem dX7_touchedHours_56 : decode cX7_touchedHours 56 = .ok (.iload_n 3, 1) := by decide +kernel
theorem dX7_touchedHours_57 : decode cX7_touchedHours 57 = .ok (.iload 7, 2) := by decide +kernel
theorem dX7_touchedHours_59 : decode cX7_touchedHours 59 = .ok (.iadd, 1) := by decide +kernel
theorem dX7_touchedHours_60 : decode cX7_touchedHours 60 = .ok (.invokevirtual 133, 3) := by decide +kernel
theorem dX7_touchedHours_63 : decode cX7_touchedHours 63 = .ok (.istore 9, 2) := by decide +kernel
theorem dX7_touchedHours_65 : decode cX7_touchedHours 65 = .ok (.aload_n 0, 1) := by decide +kernel
theorem dX7_touchedHours_66 : decode cX7_touchedHours 66 = .ok (.getfield 35, 3) := by decide +kernel
theorem dX7_touchedHours_69 : decode cX7_touchedHours 69 = .ok (.iload_n 1, 1) := by decide +kernel
theorem dX7_touchedHours_70 : decode cX7_touchedHours 70 = .ok (.iload_n 2, 1) := by decide +kernel
theorem dX7_touchedHours_71 : decode cX7_touchedHours 71 = .ok (.iload_n 3, 1) := by decide +kernel
theorem dX7_touchedHours_72 : decode cX7_touchedHours 72 = .ok (.iload 5, 2) := by decide +kernel
theorem dX7_touchedHours_74 : decode cX7_touchedHours 74 = .ok (.invokevirtual 165, 3) := by decide +kernel
theorem dX7_touchedHours_77 : decode cX7_touchedHours 77 = .ok (.iload 9, 2) := by decide +kernel
theorem dX7_touchedHours_79 : decode cX7_touchedHours 79 = .ok (.iload 8, 2) := by decide +kernel
theorem dX7_touchedHours_81 : decode cX7_touchedHours 81 = .ok (.if_icmp .eq 12, 3) := by decide +kernel
theorem dX7_touchedHours_84 : decode cX7_touchedHours 84 = .ok (.iload 6, 2) := by decide +kernel
theorem dX7_touchedHours_86 : decode cX7_touchedHours 86 = .ok (.iconst 1, 1) := by decide +kernel
theorem dX7_touchedHours_87 : decode cX7_touchedHours 87 = .ok (.iload 7, 2) := by decide +kernel
theorem dX7_touchedHours_89 : decode cX7_touchedHours 89 = .ok (.ishl, 1) := by decide +kernel
theorem dX7_touchedHours_90 : decode cX7_touchedHours 90 = .ok (.ior, 1) := by decide +kernel
theorem dX7_touchedHours_91 : decode cX7_touchedHours 91 = .ok (.istore 6, 2) := by decide +kernel
theorem dX7_touchedHours_93 : decode cX7_touchedHours 93 = .ok (.iinc 7 1, 3) := by decide +kernel
theorem dX7_touchedHours_96 : decode cX7_touchedHours 96 = .ok (.goto (-78), 3) := by decide +kernel
theorem dX7_touchedHours_99 : decode cX7_touchedHours 99 = .ok (.iload 6, 2) := by decide +kernel
theorem dX7_touchedHours_101 : decode cX7_touchedHours 101 = .ok (.ireturn, 1) := by decide +kernel
theorem dX8_isIn_0 : decode cX8_isIn 0 = .ok (.iload_n 0, 1) := by decide +kernel
theorem dX8_isIn_1 : decode cX8_isIn 1 = .ok (.iload_n 1, 1) := by decide +kernel
theorem dX8_isIn_2 : decode cX8_isIn 2 = .ok (.if_icmp .lt 12, 3) := by decide +kernel
theorem dX8_isIn_5 : decode cX8_isIn 5 = .ok (.iload_n 0, 1) := by decide +kernel
theorem dX8_isIn_6 : decode cX8_isIn 6 = .ok (.iload_n 2, 1) := by decide +kernel
theorem dX8_isIn_7 : decode cX8_isIn 7 = .ok (.if_icmp .gt 7, 3) := by decide +kernel
theorem dX8_isIn_10 : decode cX8_isIn 10 = .ok (.iconst 1, 1) := by decide +kernel
theorem dX8_isIn_11 : decode cX8_isIn 11 = .ok (.goto 4, 3) := by decide +kernel
theorem dX8_isIn_14 : decode cX8_isIn 14 = .ok (.iconst 0, 1) := by decide +kernel
theorem dX8_isIn_15 : decode cX8_isIn 15 = .ok (.ireturn, 1) := by decide +kernel
theorem dX8_lays_0 : decode cX8_lays 0 = .ok (.bipush 24, 2) := by decide +kernel
theorem dX8_lays_2 : decode cX8_lays 2 = .ok (.istore_n 2, 1) := by decide +kernel
theorem dX8_lays_3 : decode cX8_lays 3 = .ok (.iload_n 2, 1) := by decide +kernel
theorem dX8_lays_4 : decode cX8_lays 4 = .ok (.ifCond .lt 35, 3) := by decide +kernel
theorem dX8_lays_7 : decode cX8_lays 7 = .ok (.aload_n 0, 1) := by decide +kernel
theorem dX8_lays_8 : decode cX8_lays 8 = .ok (.getfield 7, 3) := by decide +kernel
theorem dX8_lays_11 : decode cX8_lays 11 = .ok (.aload_n 0, 1) := by decide +kernel
theorem dX8_lays_12 : decode cX8_lays 12 = .ok (.getfield 11, 3) := by decide +kernel
theorem dX8_lays_15 : decode cX8_lays 15 = .ok (.iload_n 1, 1) := by decide +kernel
theorem dX8_lays_16 : decode cX8_lays 16 = .ok (.iload_n 2, 1) := by decide +kernel
theorem dX8_lays_17 : decode cX8_lays 17 = .ok (.iushr, 1) := by decide +kernel
theorem dX8_lays_18 : decode cX8_lays 18 = .ok (.sipush 255, 3) := by decide +kernel
theorem dX8_lays_21 : decode cX8_lays 21 = .ok (.iand, 1) := by decide +kernel
theorem dX8_lays_22 : decode cX8_lays 22 = .ok (.iastore, 1) := by decide +kernel
theorem dX8_lays_23 : decode cX8_lays 23 = .ok (.aload_n 0, 1) := by decide +kernel
theorem dX8_lays_24 : decode cX8_lays 24 = .ok (.dup, 1) := by decide +kernel
theorem dX8_lays_25 : decode cX8_lays 25 = .ok (.getfield 11, 3) := by decide +kernel
theorem dX8_lays_28 : decode cX8_lays 28 = .ok (.iconst 1, 1) := by decide +kernel
theorem dX8_lays_29 : decode cX8_lays 29 = .ok (.iadd, 1) := by decide +kernel
theorem dX8_lays_30 : decode cX8_lays 30 = .ok (.putfield 11, 3) := by decide +kernel
theorem dX8_lays_33 : decode cX8_lays 33 = .ok (.iinc 2 (-8), 3) := by decide +kernel
theorem dX8_lays_36 : decode cX8_lays 36 = .ok (.goto (-33), 3) := by decide +kernel
theorem dX8_lays_39 : decode cX8_lays 39 = .ok (.return_, 1) := by decide +kernel
theorem dX8_feed_0 : decode cX8_feed 0 = .ok (.aload_n 0, 1) := by decide +kernel
theorem dX8_feed_1 : decode cX8_feed 1 = .ok (.getfield 11, 3) := by decide +kernel
theorem dX8_feed_4 : decode cX8_feed 4 = .ok (.bipush 20, 2) := by decide +kernel
theorem dX8_feed_6 : decode cX8_feed 6 = .ok (.iadd, 1) := by decide +kernel
theorem dX8_feed_7 : decode cX8_feed 7 = .ok (.sipush 640, 3) := by decide +kernel
theorem dX8_feed_10 : decode cX8_feed 10 = .ok (.if_icmp .le 5, 3) := by decide +kernel
theorem dX8_feed_13 : decode cX8_feed 13 = .ok (.iconst (-1), 1) := by decide +kernel
theorem dX8_feed_14 : decode cX8_feed 14 = .ok (.ireturn, 1) := by decide +kernel
theorem dX8_feed_15 : decode cX8_feed 15 = .ok (.aload_n 0, 1) := by decide +kernel
theorem dX8_feed_16 : decode cX8_feed 16 = .ok (.iload_n 1, 1) := by decide +kernel
theorem dX8_feed_17 : decode cX8_feed 17 = .ok (.invokevirtual 14, 3) := by decide +kernel
theorem dX8_feed_20 : decode cX8_feed 20 = .ok (.aload_n 0, 1) := by decide +kernel
theorem dX8_feed_21 : decode cX8_feed 21 = .ok (.iload_n 2, 1) := by decide +kernel
theorem dX8_feed_22 : decode cX8_feed 22 = .ok (.invokevirtual 14, 3) := by decide +kernel
theorem dX8_feed_25 : decode cX8_feed 25 = .ok (.aload_n 0, 1) := by decide +kernel
theorem dX8_feed_26 : decode cX8_feed 26 = .ok (.iload_n 3, 1) := by decide +kernel
theorem dX8_feed_27 : decode cX8_feed 27 = .ok (.invokevirtual 14, 3) := by decide +kernel
theorem dX8_feed_30 : decode cX8_feed 30 = .ok (.aload_n 0, 1) := by decide +kernel
theorem dX8_feed_31 : decode cX8_feed 31 = .ok (.iload 4, 2) := by decide +kernel
theorem dX8_feed_33 : decode cX8_feed 33 = .ok (.invokevirtual 14, 3) := by decide +kernel
theorem dX8_feed_36 : decode cX8_feed 36 = .ok (.aload_n 0, 1) := by decide +kernel
theorem dX8_feed_37 : decode cX8_feed 37 = .ok (.iload 5, 2) := by decide +kernel
theorem dX8_feed_39 : decode cX8_feed 39 = .ok (.invokevirtual 14, 3) := by decide +kernel
theorem dX8_feed_42 : decode cX8_feed 42 = .ok (.aload_n 0, 1) := by decide +kernel
theorem dX8_feed_43 : decode cX8_feed 43 = .ok (.getfield 11, 3) := by decide +kernel
theorem dX8_feed_46 : decode cX8_feed 46 = .ok (.ireturn, 1) := by decide +kernel
theorem dX8_end_0 : decode cX8_end 0 = .ok (.iload_n 1, 1) := by decide +kernel
theorem dX8_end_1 : decode cX8_end 1 = .ok (.ifCond .lt 11, 3) := by decide +kernel
theorem dX8_end_4 : decode cX8_end 4 = .ok (.iload_n 1, 1) := by decide +kernel
theorem dX8_end_5 : decode cX8_end 5 = .ok (.aload_n 0, 1) := by decide +kernel
theorem dX8_end_6 : decode cX8_end 6 = .ok (.getfield 11, 3) := by decide +kernel
theorem dX8_end_9 : decode cX8_end 9 = .ok (.if_icmp .le 5, 3) := by decide +kernel
theorem dX8_end_12 : decode cX8_end 12 = .ok (.iconst 0, 1) := by decide +kernel
theorem dX8_end_13 : decode cX8_end 13 = .ok (.ireturn, 1) := by decide +kernel
theorem dX8_end_14 : decode cX8_end 14 = .ok (.aload_n 0, 1) := by decide +kernel
theorem dX8_end_15 : decode cX8_end 15 = .ok (.iload_n 1, 1) := by decide +kernel
theorem dX8_end_16 : decode cX8_end 16 = .ok (.putfield 11, 3) := by decide +kernel
theorem dX8_end_19 : decode cX8_end 19 = .ok (.iconst 1, 1) := by decide +kernel
theorem dX8_end_20 : decode cX8_end 20 = .ok (.ireturn, 1) := by decide +kernel
theorem dX8_tapeAt_0 : decode cX8_tapeAt 0 = .ok (.iload_n 1, 1) := by decide +kernel
theorem dX8_tapeAt_1 : decode cX8_tapeAt 1 = .ok (.aload_n 0, 1) := by decide +kernel
theorem dX8_tapeAt_2 : decode cX8_tapeAt 2 = .ok (.getfield 18, 3) := by decide +kernel
theorem dX8_tapeAt_5 : decode cX8_tapeAt 5 = .ok (.if_icmp .ge 12, 3) := by decide +kernel
theorem dX8_tapeAt_8 : decode cX8_tapeAt 8 = .ok (.aload_n 0, 1) := by decide +kernel
theorem dX8_tapeAt_9 : decode cX8_tapeAt 9 = .ok (.getfield 7, 3) := by decide +kernel
theorem dX8_tapeAt_12 : decode cX8_tapeAt 12 = .ok (.iload_n 1, 1) := by decide +kernel
theorem dX8_tapeAt_13 : decode cX8_tapeAt 13 = .ok (.iaload, 1) := by decide +kernel
theorem dX8_tapeAt_14 : decode cX8_tapeAt 14 = .ok (.goto 4, 3) := by decide +kernel
theorem dX8_tapeAt_17 : decode cX8_tapeAt 17 = .ok (.iconst 0, 1) := by decide +kernel
theorem dX8_tapeAt_18 : decode cX8_tapeAt 18 = .ok (.ireturn, 1) := by decide +kernel
theorem dX8_isDigit_0 : decode cX8_isDigit 0 = .ok (.iload_n 0, 1) := by decide +kernel
theorem dX8_isDigit_1 : decode cX8_isDigit 1 = .ok (.bipush 48, 2) := by decide +kernel
theorem dX8_isDigit_3 : decode cX8_isDigit 3 = .ok (.if_icmp .lt 13, 3) := by decide +kernel
theorem dX8_isDigit_6 : decode cX8_isDigit 6 = .ok (.iload_n 0, 1) := by decide +kernel
theorem dX8_isDigit_7 : decode cX8_isDigit 7 = .ok (.bipush 57, 2) := by decide +kernel
theorem dX8_isDigit_9 : decode cX8_isDigit 9 = .ok (.if_icmp .gt 7, 3) := by decide +kernel
theorem dX8_isDigit_12 : decode cX8_isDigit 12 = .ok (.iconst 1, 1) := by decide +kernel
theorem dX8_isDigit_13 : decode cX8_isDigit 13 = .ok (.goto 4, 3) := by decide +kernel
theorem dX8_isDigit_16 : decode cX8_isDigit 16 = .ok (.iconst 0, 1) := by decide +kernel
theorem dX8_isDigit_17 : decode cX8_isDigit 17 = .ok (.ireturn, 1) := by decide +kernel
theorem dX8_isLetter_0 : decode cX8_isLetter 0 = .ok (.iload_n 0, 1) := by decide +kernel
theorem dX8_isLetter_1 : decode cX8_isLetter 1 = .ok (.bipush 97, 2) := by decide +kernel
theorem dX8_isLetter_3 : decode cX8_isLetter 3 = .ok (.if_icmp .lt 13, 3) := by decide +kernel
theorem dX8_isLetter_6 : decode cX8_isLetter 6 = .ok (.iload_n 0, 1) := by decide +kernel
theorem dX8_isLetter_7 : decode cX8_isLetter 7 = .ok (.bipush 122, 2) := by decide +kernel
theorem dX8_isLetter_9 : decode cX8_isLetter 9 = .ok (.if_icmp .gt 7, 3) := by decide +kernel
theorem dX8_isLetter_12 : decode cX8_isLetter 12 = .ok (.iconst 1, 1) := by decide +kernel
theorem dX8_isLetter_13 : decode cX8_isLetter 13 = .ok (.goto 4, 3) := by decide +kernel
theorem dX8_isLetter_16 : decode cX8_isLetter 16 = .ok (.iconst 0, 1) := by decide +kernel
theorem dX8_isLetter_17 : decode cX8_isLetter 17 = .ok (.ireturn, 1) := by decide +kernel
theorem dX8_go_0 : decode cX8_go 0 = .ok (.aload_n 0, 1) := by decide +kernel
theorem dX8_go_1 : decode cX8_go 1 = .ok (.getfield 21, 3) := by decide +kernel
theorem dX8_go_4 : decode cX8_go 4 = .ok (.aload_n 0, 1) := by decide +kernel
theorem dX8_go_5 : decode cX8_go 5 = .ok (.getfield 18, 3) := by decide +kernel
theorem dX8_go_8 : decode cX8_go 8 = .ok (.if_icmp .ge 44, 3) := by decide +kernel
theorem dX8_go_11 : decode cX8_go 11 = .ok (.aload_n 0, 1) := by decide +kernel
theorem dX8_go_12 : decode cX8_go 12 = .ok (.getfield 7, 3) := by decide +kernel
theorem dX8_go_15 : decode cX8_go 15 = .ok (.aload_n 0, 1) := by decide +kernel
theorem dX8_go_16 : decode cX8_go 16 = .ok (.getfield 21, 3) := by decide +kernel
theorem dX8_go_19 : decode cX8_go 19 = .ok (.iaload, 1) := by decide +kernel
theorem dX8_go_20 : decode cX8_go 20 = .ok (.bipush 32, 2) := by decide +kernel
theorem dX8_go_22 : decode cX8_go 22 = .ok (.if_icmp .eq 17, 3) := by decide +kernel
theorem dX8_go_25 : decode cX8_go 25 = .ok (.aload_n 0, 1) := by decide +kernel
theorem dX8_go_26 : decode cX8_go 26 = .ok (.getfield 7, 3) := by decide +kernel
theorem dX8_go_29 : decode cX8_go 29 = .ok (.aload_n 0, 1) := by decide +kernel
theorem dX8_go_30 : decode cX8_go 30 = .ok (.getfield 21, 3) := by decide +kernel
theorem dX8_go_33 : decode cX8_go 33 = .ok (.iaload, 1) := by decide +kernel
theorem dX8_go_34 : decode cX8_go 34 = .ok (.bipush 10, 2) := by decide +kernel
theorem dX8_go_36 : decode cX8_go 36 = .ok (.if_icmp .ne 16, 3) := by decide +kernel
theorem dX8_go_39 : decode cX8_go 39 = .ok (.aload_n 0, 1) := by decide +kernel
theorem dX8_go_40 : decode cX8_go 40 = .ok (.dup, 1) := by decide +kernel
theorem dX8_go_41 : decode cX8_go 41 = .ok (.getfield 21, 3) := by decide +kernel
theorem dX8_go_44 : decode cX8_go 44 = .ok (.iconst 1, 1) := by decide +kernel
theorem dX8_go_45 : decode cX8_go 45 = .ok (.iadd, 1) := by decide +kernel
theorem dX8_go_46 : decode cX8_go 46 = .ok (.putfield 21, 3) := by decide +kernel
theorem dX8_go_49 : decode cX8_go 49 = .ok (.goto (-49), 3) := by decide +kernel
theorem dX8_go_52 : decode cX8_go 52 = .ok (.aload_n 0, 1) := by decide +kernel
theorem dX8_go_53 : decode cX8_go 53 = .ok (.aload_n 0, 1) := by decide +kernel
theorem dX8_go_54 : decode cX8_go 54 = .ok (.getfield 21, 3) := by decide +kernel
theorem dX8_go_57 : decode cX8_go 57 = .ok (.putfield 24, 3) := by decide +kernel
theorem dX8_go_60 : decode cX8_go 60 = .ok (.aload_n 0, 1) := by decide +kernel
theorem dX8_go_61 : decode cX8_go 61 = .ok (.getfield 18, 3) := by decide +kernel
theorem dX8_go_64 : decode cX8_go 64 = .ok (.sipush 600, 3) := by decide +kernel
theorem dX8_go_67 : decode cX8_go 67 = .ok (.if_icmp .le 26, 3) := by decide +kernel
theorem dX8_go_70 : decode cX8_go 70 = .ok (.aload_n 0, 1) := by decide +kernel
theorem dX8_go_71 : decode cX8_go 71 = .ok (.getfield 24, 3) := by decide +kernel
theorem dX8_go_74 : decode cX8_go 74 = .ok (.sipush 600, 3) := by decide +kernel
theorem dX8_go_77 : decode cX8_go 77 = .ok (.if_icmp .lt 16, 3) := by decide +kernel
theorem dX8_go_80 : decode cX8_go 80 = .ok (.aload_n 0, 1) := by decide +kernel
theorem dX8_go_81 : decode cX8_go 81 = .ok (.sipush 600, 3) := by decide +kernel
theorem dX8_go_84 : decode cX8_go 84 = .ok (.putfield 24, 3) := by decide +kernel
theorem dX8_go_87 : decode cX8_go 87 = .ok (.aload_n 0, 1) := by decide +kernel
theorem dX8_go_88 : decode cX8_go 88 = .ok (.iconst 1, 1) := by decide +kernel
theorem dX8_go_89 : decode cX8_go 89 = .ok (.putfield 27, 3) := by decide +kernel
theorem dX8_go_92 : decode cX8_go 92 = .ok (.return_, 1) := by decide +kernel
theorem dX8_go_93 : decode cX8_go 93 = .ok (.aload_n 0, 1) := by decide +kernel
theorem dX8_go_94 : decode cX8_go 94 = .ok (.getfield 21, 3) := by decide +kernel
theorem dX8_go_97 : decode cX8_go 97 = .ok (.aload_n 0, 1) := by decide +kernel
theorem dX8_go_98 : decode cX8_go 98 = .ok (.getfield 18, 3) := by decide +kernel
theorem dX8_go_101 : decode cX8_go 101 = .ok (.if_icmp .lt 9, 3) := by decide +kernel
theorem dX8_go_104 : decode cX8_go 104 = .ok (.aload_n 0, 1) := by decide +kernel
theorem dX8_go_105 : decode cX8_go 105 = .ok (.iconst 0, 1) := by decide +kernel
theorem dX8_go_106 : decode cX8_go 106 = .ok (.putfield 27, 3) := by decide +kernel
theorem dX8_go_109 : decode cX8_go 109 = .ok (.return_, 1) := by decide +kernel
theorem dX8_go_110 : decode cX8_go 110 = .ok (.aload_n 0, 1) := by decide +kernel
theorem dX8_go_111 : decode cX8_go 111 = .ok (.getfield 7, 3) := by decide +kernel
theorem dX8_go_114 : decode cX8_go 114 = .ok (.aload_n 0, 1) := by decide +kernel
theorem dX8_go_115 : decode cX8_go 115 = .ok (.getfield 21, 3) := by decide +kernel
theorem dX8_go_118 : decode cX8_go 118 = .ok (.iaload, 1) := by decide +kernel
theorem dX8_go_119 : decode cX8_go 119 = .ok (.istore_n 1, 1) := by decide +kernel
theorem dX8_go_120 : decode cX8_go 120 = .ok (.iload_n 1, 1) := by decide +kernel
theorem dX8_go_121 : decode cX8_go 121 = .ok (.invokestatic 30, 3) := by decide +kernel
theorem dX8_go_124 : decode cX8_go 124 = .ok (.ifCond .ne 36, 3) := by decide +kernel
theorem dX8_go_127 : decode cX8_go 127 = .ok (.iload_n 1, 1) := by decide +kernel
theorem dX8_go_128 : decode cX8_go 128 = .ok (.invokestatic 34, 3) := by decide +kernel
theorem dX8_go_131 : decode cX8_go 131 = .ok (.ifCond .ne 29, 3) := by decide +kernel
theorem dX8_go_134 : decode cX8_go 134 = .ok (.aload_n 0, 1) := by decide +kernel
theorem dX8_go_135 : decode cX8_go 135 = .ok (.iload_n 1, 1) := by decide +kernel
theorem dX8_go_136 : decode cX8_go 136 = .ok (.bipush 59, 2) := by decide +kernel
theorem dX8_go_138 : decode cX8_go 138 = .ok (.if_icmp .ne 7, 3) := by decide +kernel
theorem dX8_go_141 : decode cX8_go 141 = .ok (.iconst 4, 1) := by decide +kernel
theorem dX8_go_142 : decode cX8_go 142 = .ok (.goto 4, 3) := by decide +kernel
theorem dX8_go_145 : decode cX8_go 145 = .ok (.iconst 1, 1) := by decide +kernel
theorem dX8_go_146 : decode cX8_go 146 = .ok (.putfield 27, 3) := by decide +kernel
theorem dX8_go_149 : decode cX8_go 149 = .ok (.aload_n 0, 1) := by decide +kernel
theorem dX8_go_150 : decode cX8_go 150 = .ok (.dup, 1) := by decide +kernel
theorem dX8_go_151 : decode cX8_go 151 = .ok (.getfield 21, 3) := by decide +kernel
theorem dX8_go_154 : decode cX8_go 154 = .ok (.iconst 1, 1) := by decide +kernel
theorem dX8_go_155 : decode cX8_go 155 = .ok (.iadd, 1) := by decide +kernel
theorem dX8_go_156 : decode cX8_go 156 = .ok (.putfield 21, 3) := by decide +kernel
theorem dX8_go_159 : decode cX8_go 159 = .ok (.return_, 1) := by decide +kernel
theorem dX8_go_160 : decode cX8_go 160 = .ok (.iload_n 1, 1) := by decide +kernel
theorem dX8_go_161 : decode cX8_go 161 = .ok (.invokestatic 30, 3) := by decide +kernel
theorem dX8_go_164 : decode cX8_go 164 = .ok (.istore_n 2, 1) := by decide +kernel
theorem dX8_go_165 : decode cX8_go 165 = .ok (.iconst 1, 1) := by decide +kernel
theorem dX8_go_166 : decode cX8_go 166 = .ok (.istore_n 3, 1) := by decide +kernel
theorem dX8_go_167 : decode cX8_go 167 = .ok (.aload_n 0, 1) := by decide +kernel
theorem dX8_go_168 : decode cX8_go 168 = .ok (.lconst 0, 1) := by decide +kernel
theorem dX8_go_169 : decode cX8_go 169 = .ok (.putfield 37, 3) := by decide +kernel
theorem dX8_go_172 : decode cX8_go 172 = .ok (.aload_n 0, 1) := by decide +kernel
theorem dX8_go_173 : decode cX8_go 173 = .ok (.iconst 0, 1) := by decide +kernel
theorem dX8_go_174 : decode cX8_go 174 = .ok (.putfield 41, 3) := by decide +kernel
theorem dX8_go_177 : decode cX8_go 177 = .ok (.aload_n 0, 1) := by decide +kernel
theorem dX8_go_178 : decode cX8_go 178 = .ok (.aload_n 0, 1) := by decide +kernel
theorem dX8_go_179 : decode cX8_go 179 = .ok (.getfield 21, 3) := by decide +kernel
theorem dX8_go_182 : decode cX8_go 182 = .ok (.invokevirtual 44, 3) := by decide +kernel
theorem dX8_go_185 : decode cX8_go 185 = .ok (.invokestatic 30, 3) := by decide +kernel
theorem dX8_go_188 : decode cX8_go 188 = .ok (.ifCond .ne 17, 3) := by decide +kernel
theorem dX8_go_191 : decode cX8_go 191 = .ok (.aload_n 0, 1) := by decide +kernel
theorem dX8_go_192 : decode cX8_go 192 = .ok (.aload_n 0, 1) := by decide +kernel
theorem dX8_go_193 : decode cX8_go 193 = .ok (.getfield 21, 3) := by decide +kernel
theorem dX8_go_196 : decode cX8_go 196 = .ok (.invokevirtual 44, 3) := by decide +kernel
theorem dX8_go_199 : decode cX8_go 199 = .ok (.invokestatic 34, 3) := by decide +kernel
theorem dX8_go_202 : decode cX8_go 202 = .ok (.ifCond .eq 110, 3) := by decide +kernel
theorem dX8_go_205 : decode cX8_go 205 = .ok (.aload_n 0, 1) := by decide +kernel
theorem dX8_go_206 : decode cX8_go 206 = .ok (.getfield 7, 3) := by decide +kernel
theorem dX8_go_209 : decode cX8_go 209 = .ok (.aload_n 0, 1) := by decide +kernel
theorem dX8_go_210 : decode cX8_go 210 = .ok (.getfield 21, 3) := by decide +kernel
theorem dX8_go_213 : decode cX8_go 213 = .ok (.iaload, 1) := by decide +kernel
theorem dX8_go_214 : decode cX8_go 214 = .ok (.istore 4, 2) := by decide +kernel
theorem dX8_go_216 : decode cX8_go 216 = .ok (.iload_n 3, 1) := by decide +kernel
theorem dX8_go_217 : decode cX8_go 217 = .ok (.ifCond .eq 16, 3) := by decide +kernel
theorem dX8_go_220 : decode cX8_go 220 = .ok (.iload 4, 2) := by decide +kernel
theorem dX8_go_222 : decode cX8_go 222 = .ok (.invokestatic 30, 3) := by decide +kernel
theorem dX8_go_225 : decode cX8_go 225 = .ok (.iload_n 2, 1) := by decide +kernel
theorem dX8_go_226 : decode cX8_go 226 = .ok (.if_icmp .ne 7, 3) := by decide +kernel
theorem dX8_go_229 : decode cX8_go 229 = .ok (.iconst 1, 1) := by decide +kernel
theorem dX8_go_230 : decode cX8_go 230 = .ok (.goto 4, 3) := by decide +kernel
theorem dX8_go_233 : decode cX8_go 233 = .ok (.iconst 0, 1) := by decide +kernel
theorem dX8_go_234 : decode cX8_go 234 = .ok (.istore_n 3, 1) := by decide +kernel
theorem dX8_go_235 : decode cX8_go 235 = .ok (.aload_n 0, 1) := by decide +kernel
theorem dX8_go_236 : decode cX8_go 236 = .ok (.getfield 21, 3) := by decide +kernel
theorem dX8_go_239 : decode cX8_go 239 = .ok (.aload_n 0, 1) := by decide +kernel
theorem dX8_go_240 : decode cX8_go 240 = .ok (.getfield 24, 3) := by decide +kernel
theorem dX8_go_243 : decode cX8_go 243 = .ok (.isub, 1) := by decide +kernel
theorem dX8_go_244 : decode cX8_go 244 = .ok (.bipush 10, 2) := by decide +kernel
theorem dX8_go_246 : decode cX8_go 246 = .ok (.if_icmp .ge 23, 3) := by decide +kernel
theorem dX8_go_249 : decode cX8_go 249 = .ok (.aload_n 0, 1) := by decide +kernel
theorem dX8_go_250 : decode cX8_go 250 = .ok (.ldc2_w 48, 3) := by decide +kernel
theorem dX8_go_253 : decode cX8_go 253 = .ok (.aload_n 0, 1) := by decide +kernel
theorem dX8_go_254 : decode cX8_go 254 = .ok (.getfield 37, 3) := by decide +kernel
theorem dX8_go_257 : decode cX8_go 257 = .ok (.lmul, 1) := by decide +kernel
theorem dX8_go_258 : decode cX8_go 258 = .ok (.iload 4, 2) := by decide +kernel
theorem dX8_go_260 : decode cX8_go 260 = .ok (.i2l, 1) := by decide +kernel
theorem dX8_go_261 : decode cX8_go 261 = .ok (.ladd, 1) := by decide +kernel
theorem dX8_go_262 : decode cX8_go 262 = .ok (.ldc2_w 50, 3) := by decide +kernel
theorem dX8_go_265 : decode cX8_go 265 = .ok (.lsub, 1) := by decide +kernel
theorem dX8_go_266 : decode cX8_go 266 = .ok (.putfield 37, 3) := by decide +kernel
theorem dX8_go_269 : decode cX8_go 269 = .ok (.aload_n 0, 1) := by decide +kernel
theorem dX8_go_270 : decode cX8_go 270 = .ok (.getfield 21, 3) := by decide +kernel
theorem dX8_go_273 : decode cX8_go 273 = .ok (.aload_n 0, 1) := by decide +kernel
theorem dX8_go_274 : decode cX8_go 274 = .ok (.getfield 24, 3) := by decide +kernel
theorem dX8_go_277 : decode cX8_go 277 = .ok (.isub, 1) := by decide +kernel
theorem dX8_go_278 : decode cX8_go 278 = .ok (.iconst 3, 1) := by decide +kernel
theorem dX8_go_279 : decode cX8_go 279 = .ok (.if_icmp .ge 20, 3) := by decide +kernel
theorem dX8_go_282 : decode cX8_go 282 = .ok (.aload_n 0, 1) := by decide +kernel
theorem dX8_go_283 : decode cX8_go 283 = .ok (.bipush 10, 2) := by decide +kernel
theorem dX8_go_285 : decode cX8_go 285 = .ok (.aload_n 0, 1) := by decide +kernel
theorem dX8_go_286 : decode cX8_go 286 = .ok (.getfield 41, 3) := by decide +kernel
theorem dX8_go_289 : decode cX8_go 289 = .ok (.imul, 1) := by decide +kernel
theorem dX8_go_290 : decode cX8_go 290 = .ok (.iload 4, 2) := by decide +kernel
theorem dX8_go_292 : decode cX8_go 292 = .ok (.iadd, 1) := by decide +kernel
theorem dX8_go_293 : decode cX8_go 293 = .ok (.bipush 48, 2) := by decide +kernel
theorem dX8_go_295 : decode cX8_go 295 = .ok (.isub, 1) := by decide +kernel
theorem dX8_go_296 : decode cX8_go 296 = .ok (.putfield 41, 3) := by decide +kernel
theorem dX8_go_299 : decode cX8_go 299 = .ok (.aload_n 0, 1) := by decide +kernel
theorem dX8_go_300 : decode cX8_go 300 = .ok (.dup, 1) := by decide +kernel
theorem dX8_go_301 : decode cX8_go 301 = .ok (.getfield 21, 3) := by decide +kernel
theorem dX8_go_304 : decode cX8_go 304 = .ok (.iconst 1, 1) := by decide +kernel
theorem dX8_go_305 : decode cX8_go 305 = .ok (.iadd, 1) := by decide +kernel
theorem dX8_go_306 : decode cX8_go 306 = .ok (.putfield 21, 3) := by decide +kernel
theorem dX8_go_309 : decode cX8_go 309 = .ok (.goto (-132), 3) := by decide +kernel
theorem dX8_go_312 : decode cX8_go 312 = .ok (.aload_n 0, 1) := by decide +kernel
theorem dX8_go_313 : decode cX8_go 313 = .ok (.iload_n 3, 1) := by decide +kernel
theorem dX8_go_314 : decode cX8_go 314 = .ok (.ifCond .eq 20, 3) := by decide +kernel
theorem dX8_go_317 : decode cX8_go 317 = .ok (.iload_n 2, 1) := by decide +kernel
theorem dX8_go_318 : decode cX8_go 318 = .ok (.ifCond .ne 20, 3) := by decide +kernel
theorem dX8_go_321 : decode cX8_go 321 = .ok (.aload_n 0, 1) := by decide +kernel
theorem dX8_go_322 : decode cX8_go 322 = .ok (.getfield 21, 3) := by decide +kernel
theorem dX8_go_325 : decode cX8_go 325 = .ok (.aload_n 0, 1) := by decide +kernel
theorem dX8_go_326 : decode cX8_go 326 = .ok (.getfield 24, 3) := by decide +kernel
theorem dX8_go_329 : decode cX8_go 329 = .ok (.isub, 1) := by decide +kernel
theorem dX8_go_330 : decode cX8_go 330 = .ok (.iconst 3, 1) := by decide +kernel
theorem dX8_go_331 : decode cX8_go 331 = .ok (.if_icmp .le 7, 3) := by decide +kernel
theorem dX8_go_334 : decode cX8_go 334 = .ok (.iconst 1, 1) := by decide +kernel
theorem dX8_go_335 : decode cX8_go 335 = .ok (.goto 12, 3) := by decide +kernel
theorem dX8_go_338 : decode cX8_go 338 = .ok (.iload_n 2, 1) := by decide +kernel
theorem dX8_go_339 : decode cX8_go 339 = .ok (.ifCond .eq 7, 3) := by decide +kernel
theorem dX8_go_342 : decode cX8_go 342 = .ok (.iconst 2, 1) := by decide +kernel
theorem dX8_go_343 : decode cX8_go 343 = .ok (.goto 4, 3) := by decide +kernel
theorem dX8_go_346 : decode cX8_go 346 = .ok (.iconst 3, 1) := by decide +kernel
theorem dX8_go_347 : decode cX8_go 347 = .ok (.putfield 27, 3) := by decide +kernel
theorem dX8_go_350 : decode cX8_go 350 = .ok (.return_, 1) := by decide +kernel
theorem dX8_two_0 : decode cX8_two 0 = .ok (.ldc2_w 48, 3) := by decide +kernel
theorem dX8_two_3 : decode cX8_two 3 = .ok (.iload_n 0, 1) := by decide +kernel
theorem dX8_two_4 : decode cX8_two 4 = .ok (.i2l, 1) := by decide +kernel
theorem dX8_two_5 : decode cX8_two 5 = .ok (.ldc2_w 50, 3) := by decide +kernel
theorem dX8_two_8 : decode cX8_two 8 = .ok (.lsub, 1) := by decide +kernel
theorem dX8_two_9 : decode cX8_two 9 = .ok (.lmul, 1) := by decide +kernel
theorem dX8_two_10 : decode cX8_two 10 = .ok (.iload_n 1, 1) := by decide +kernel
theorem dX8_two_11 : decode cX8_two 11 = .ok (.i2l, 1) := by decide +kernel
theorem dX8_two_12 : decode cX8_two 12 = .ok (.ladd, 1) := by decide +kernel
theorem dX8_two_13 : decode cX8_two 13 = .ok (.ldc2_w 50, 3) := by decide +kernel
theorem dX8_two_16 : decode cX8_two 16 = .ok (.lsub, 1) := by decide +kernel
theorem dX8_two_17 : decode cX8_two 17 = .ok (.lreturn, 1) := by decide +kernel
theorem dX8_four_0 : decode cX8_four 0 = .ok (.ldc2_w 52, 3) := by decide +kernel
theorem dX8_four_3 : decode cX8_four 3 = .ok (.iload_n 0, 1) := by decide +kernel
theorem dX8_four_4 : decode cX8_four 4 = .ok (.iload_n 1, 1) := by decide +kernel
theorem dX8_four_5 : decode cX8_four 5 = .ok (.invokestatic 54, 3) := by decide +kernel
theorem dX8_four_8 : decode cX8_four 8 = .ok (.lmul, 1) := by decide +kernel
theorem dX8_four_9 : decode cX8_four 9 = .ok (.iload_n 2, 1) := by decide +kernel
theorem dX8_four_10 : decode cX8_four 10 = .ok (.iload_n 3, 1) := by decide +kernel
theorem dX8_four_11 : decode cX8_four 11 = .ok (.invokestatic 54, 3) := by decide +kernel
theorem dX8_four_14 : decode cX8_four 14 = .ok (.ladd, 1) := by decide +kernel
theorem dX8_four_15 : decode cX8_four 15 = .ok (.lreturn, 1) := by decide +kernel
theorem dX8_six_0 : decode cX8_six 0 = .ok (.ldc2_w 52, 3) := by decide +kernel
theorem dX8_six_3 : decode cX8_six 3 = .ok (.iload_n 0, 1) := by decide +kernel
theorem dX8_six_4 : decode cX8_six 4 = .ok (.iload_n 1, 1) := by decide +kernel
theorem dX8_six_5 : decode cX8_six 5 = .ok (.iload_n 2, 1) := by decide +kernel
theorem dX8_six_6 : decode cX8_six 6 = .ok (.iload_n 3, 1) := by decide +kernel
theorem dX8_six_7 : decode cX8_six 7 = .ok (.invokestatic 58, 3) := by decide +kernel
end
section
theorem dX8_six_10 : decode cX8_six 10 = .ok (.lmul, 1) := by decide +kernel
theorem dX8_six_11 : decode cX8_six 11 = .ok (.iload 4, 2) := by decide +kernel
theorem dX8_six_13 : decode cX8_six 13 = .ok (.iload 5, 2) := by decide +kernel
theorem dX8_six_15 : decode cX8_six 15 = .ok (.invokestatic 54, 3) := by decide +kernel
theorem dX8_six_18 : decode cX8_six 18 = .ok (.ladd, 1) := by decide +kernel
theorem dX8_six_19 : decode cX8_six 19 = .ok (.lreturn, 1) := by decide +kernel
theorem dX8_isWord_0 : decode cX8_isWord 0 = .ok (.aload_n 0, 1) := by decide +kernel
theorem dX8_isWord_1 : decode cX8_isWord 1 = .ok (.getfield 27, 3) := by decide +kernel
theorem dX8_isWord_4 : decode cX8_isWord 4 = .ok (.iconst 2, 1) := by decide +kernel
theorem dX8_isWord_5 : decode cX8_isWord 5 = .ok (.if_icmp .ne 16, 3) := by decide +kernel
theorem dX8_isWord_8 : decode cX8_isWord 8 = .ok (.aload_n 0, 1) := by decide +kernel
theorem dX8_isWord_9 : decode cX8_isWord 9 = .ok (.getfield 37, 3) := by decide +kernel
theorem dX8_isWord_12 : decode cX8_isWord 12 = .ok (.lload_n 1, 1) := by decide +kernel
theorem dX8_isWord_13 : decode cX8_isWord 13 = .ok (.lcmp, 1) := by decide +kernel
theorem dX8_isWord_14 : decode cX8_isWord 14 = .ok (.ifCond .ne 7, 3) := by decide +kernel
theorem dX8_isWord_17 : decode cX8_isWord 17 = .ok (.iconst 1, 1) := by decide +kernel
theorem dX8_isWord_18 : decode cX8_isWord 18 = .ok (.goto 4, 3) := by decide +kernel
theorem dX8_isWord_21 : decode cX8_isWord 21 = .ok (.iconst 0, 1) := by decide +kernel
theorem dX8_isWord_22 : decode cX8_isWord 22 = .ok (.ireturn, 1) := by decide +kernel
theorem dX8_bad_0 : decode cX8_bad 0 = .ok (.aload_n 0, 1) := by decide +kernel
theorem dX8_bad_1 : decode cX8_bad 1 = .ok (.aload_n 0, 1) := by decide +kernel
theorem dX8_bad_2 : decode cX8_bad 2 = .ok (.getfield 27, 3) := by decide +kernel
theorem dX8_bad_5 : decode cX8_bad 5 = .ok (.iconst 1, 1) := by decide +kernel
theorem dX8_bad_6 : decode cX8_bad 6 = .ok (.if_icmp .ne 7, 3) := by decide +kernel
theorem dX8_bad_9 : decode cX8_bad 9 = .ok (.iconst 1, 1) := by decide +kernel
theorem dX8_bad_10 : decode cX8_bad 10 = .ok (.goto 4, 3) := by decide +kernel
theorem dX8_bad_13 : decode cX8_bad 13 = .ok (.iload_n 1, 1) := by decide +kernel
theorem dX8_bad_14 : decode cX8_bad 14 = .ok (.putfield 62, 3) := by decide +kernel
theorem dX8_bad_17 : decode cX8_bad 17 = .ok (.aload_n 0, 1) := by decide +kernel
theorem dX8_bad_18 : decode cX8_bad 18 = .ok (.aload_n 0, 1) := by decide +kernel
theorem dX8_bad_19 : decode cX8_bad 19 = .ok (.getfield 24, 3) := by decide +kernel
theorem dX8_bad_22 : decode cX8_bad 22 = .ok (.putfield 65, 3) := by decide +kernel
theorem dX8_bad_25 : decode cX8_bad 25 = .ok (.iconst 0, 1) := by decide +kernel
theorem dX8_bad_26 : decode cX8_bad 26 = .ok (.ireturn, 1) := by decide +kernel
theorem dX8_init_0 : decode cX8_init 0 = .ok (.aload_n 0, 1) := by decide +kernel
theorem dX8_init_1 : decode cX8_init 1 = .ok (.invokespecial 68, 3) := by decide +kernel
theorem dX8_init_4 : decode cX8_init 4 = .ok (.aload_n 0, 1) := by decide +kernel
theorem dX8_init_5 : decode cX8_init 5 = .ok (.sipush 640, 3) := by decide +kernel
theorem dX8_init_8 : decode cX8_init 8 = .ok (.newarray .int, 2) := by decide +kernel
theorem dX8_init_10 : decode cX8_init 10 = .ok (.putfield 7, 3) := by decide +kernel
theorem dX8_init_13 : decode cX8_init 13 = .ok (.aload_n 0, 1) := by decide +kernel
theorem dX8_init_14 : decode cX8_init 14 = .ok (.sipush 770, 3) := by decide +kernel
theorem dX8_init_17 : decode cX8_init 17 = .ok (.newarray .int, 2) := by decide +kernel
theorem dX8_init_19 : decode cX8_init 19 = .ok (.putfield 74, 3) := by decide +kernel
theorem dX8_init_22 : decode cX8_init 22 = .ok (.aload_n 0, 1) := by decide +kernel
theorem dX8_init_23 : decode cX8_init 23 = .ok (.sipush 770, 3) := by decide +kernel
theorem dX8_init_26 : decode cX8_init 26 = .ok (.newarray .int, 2) := by decide +kernel
theorem dX8_init_28 : decode cX8_init 28 = .ok (.putfield 77, 3) := by decide +kernel
theorem dX8_init_31 : decode cX8_init 31 = .ok (.aload_n 0, 1) := by decide +kernel
theorem dX8_init_32 : decode cX8_init 32 = .ok (.sipush 7700, 3) := by decide +kernel
theorem dX8_init_35 : decode cX8_init 35 = .ok (.newarray .int, 2) := by decide +kernel
theorem dX8_init_37 : decode cX8_init 37 = .ok (.putfield 80, 3) := by decide +kernel
theorem dX8_init_40 : decode cX8_init 40 = .ok (.aload_n 0, 1) := by decide +kernel
theorem dX8_init_41 : decode cX8_init 41 = .ok (.bipush 60, 2) := by decide +kernel
theorem dX8_init_43 : decode cX8_init 43 = .ok (.newarray .int, 2) := by decide +kernel
theorem dX8_init_45 : decode cX8_init 45 = .ok (.putfield 83, 3) := by decide +kernel
theorem dX8_init_48 : decode cX8_init 48 = .ok (.aload_n 0, 1) := by decide +kernel
theorem dX8_init_49 : decode cX8_init 49 = .ok (.getfield 74, 3) := by decide +kernel
theorem dX8_init_52 : decode cX8_init 52 = .ok (.iconst 1, 1) := by decide +kernel
theorem dX8_init_53 : decode cX8_init 53 = .ok (.iconst 1, 1) := by decide +kernel
theorem dX8_init_54 : decode cX8_init 54 = .ok (.iastore, 1) := by decide +kernel
theorem dX8_init_55 : decode cX8_init 55 = .ok (.aload_n 0, 1) := by decide +kernel
theorem dX8_init_56 : decode cX8_init 56 = .ok (.getfield 74, 3) := by decide +kernel
theorem dX8_init_59 : decode cX8_init 59 = .ok (.iconst 2, 1) := by decide +kernel
theorem dX8_init_60 : decode cX8_init 60 = .ok (.iconst 1, 1) := by decide +kernel
theorem dX8_init_61 : decode cX8_init 61 = .ok (.iastore, 1) := by decide +kernel
theorem dX8_init_62 : decode cX8_init 62 = .ok (.aload_n 0, 1) := by decide +kernel
theorem dX8_init_63 : decode cX8_init 63 = .ok (.getfield 74, 3) := by decide +kernel
theorem dX8_init_66 : decode cX8_init 66 = .ok (.iconst 3, 1) := by decide +kernel
theorem dX8_init_67 : decode cX8_init 67 = .ok (.bipush 50, 2) := by decide +kernel
theorem dX8_init_69 : decode cX8_init 69 = .ok (.iastore, 1) := by decide +kernel
theorem dX8_init_70 : decode cX8_init 70 = .ok (.iconst 0, 1) := by decide +kernel
theorem dX8_init_71 : decode cX8_init 71 = .ok (.istore_n 1, 1) := by decide +kernel
theorem dX8_init_72 : decode cX8_init 72 = .ok (.iload_n 1, 1) := by decide +kernel
theorem dX8_init_73 : decode cX8_init 73 = .ok (.iconst 3, 1) := by decide +kernel
theorem dX8_init_74 : decode cX8_init 74 = .ok (.if_icmp .ge 24, 3) := by decide +kernel
theorem dX8_init_77 : decode cX8_init 77 = .ok (.aload_n 0, 1) := by decide +kernel
theorem dX8_init_78 : decode cX8_init 78 = .ok (.getfield 74, 3) := by decide +kernel
theorem dX8_init_81 : decode cX8_init 81 = .ok (.iconst 4, 1) := by decide +kernel
theorem dX8_init_82 : decode cX8_init 82 = .ok (.iload_n 1, 1) := by decide +kernel
theorem dX8_init_83 : decode cX8_init 83 = .ok (.iadd, 1) := by decide +kernel
theorem dX8_init_84 : decode cX8_init 84 = .ok (.bipush 50, 2) := by decide +kernel
theorem dX8_init_86 : decode cX8_init 86 = .ok (.iload_n 1, 1) := by decide +kernel
theorem dX8_init_87 : decode cX8_init 87 = .ok (.imul, 1) := by decide +kernel
theorem dX8_init_88 : decode cX8_init 88 = .ok (.bipush 50, 2) := by decide +kernel
theorem dX8_init_90 : decode cX8_init 90 = .ok (.iadd, 1) := by decide +kernel
theorem dX8_init_91 : decode cX8_init 91 = .ok (.iastore, 1) := by decide +kernel
theorem dX8_init_92 : decode cX8_init 92 = .ok (.iinc 1 1, 3) := by decide +kernel
theorem dX8_init_95 : decode cX8_init 95 = .ok (.goto (-23), 3) := by decide +kernel
theorem dX8_init_98 : decode cX8_init 98 = .ok (.aload_n 0, 1) := by decide +kernel
theorem dX8_init_99 : decode cX8_init 99 = .ok (.getfield 74, 3) := by decide +kernel
theorem dX8_init_102 : decode cX8_init 102 = .ok (.bipush 7, 2) := by decide +kernel
theorem dX8_init_104 : decode cX8_init 104 = .ok (.iconst 1, 1) := by decide +kernel
theorem dX8_init_105 : decode cX8_init 105 = .ok (.iastore, 1) := by decide +kernel
theorem dX8_init_106 : decode cX8_init 106 = .ok (.aload_n 0, 1) := by decide +kernel
theorem dX8_init_107 : decode cX8_init 107 = .ok (.getfield 74, 3) := by decide +kernel
theorem dX8_init_110 : decode cX8_init 110 = .ok (.bipush 8, 2) := by decide +kernel
theorem dX8_init_112 : decode cX8_init 112 = .ok (.iconst 1, 1) := by decide +kernel
theorem dX8_init_113 : decode cX8_init 113 = .ok (.iastore, 1) := by decide +kernel
theorem dX8_init_114 : decode cX8_init 114 = .ok (.aload_n 0, 1) := by decide +kernel
theorem dX8_init_115 : decode cX8_init 115 = .ok (.getfield 74, 3) := by decide +kernel
theorem dX8_init_118 : decode cX8_init 118 = .ok (.bipush 9, 2) := by decide +kernel
theorem dX8_init_120 : decode cX8_init 120 = .ok (.iconst 2, 1) := by decide +kernel
theorem dX8_init_121 : decode cX8_init 121 = .ok (.iastore, 1) := by decide +kernel
theorem dX8_init_122 : decode cX8_init 122 = .ok (.aload_n 0, 1) := by decide +kernel
theorem dX8_init_123 : decode cX8_init 123 = .ok (.getfield 74, 3) := by decide +kernel
theorem dX8_init_126 : decode cX8_init 126 = .ok (.bipush 12, 2) := by decide +kernel
theorem dX8_init_128 : decode cX8_init 128 = .ok (.bipush 100, 2) := by decide +kernel
theorem dX8_init_130 : decode cX8_init 130 = .ok (.iastore, 1) := by decide +kernel
theorem dX8_init_131 : decode cX8_init 131 = .ok (.aload_n 0, 1) := by decide +kernel
theorem dX8_init_132 : decode cX8_init 132 = .ok (.getfield 74, 3) := by decide +kernel
theorem dX8_init_135 : decode cX8_init 135 = .ok (.bipush 13, 2) := by decide +kernel
theorem dX8_init_137 : decode cX8_init 137 = .ok (.bipush 100, 2) := by decide +kernel
theorem dX8_init_139 : decode cX8_init 139 = .ok (.iastore, 1) := by decide +kernel
theorem dX8_init_140 : decode cX8_init 140 = .ok (.return_, 1) := by decide +kernel
theorem dX8_told_0 : decode cX8_told 0 = .ok (.aload_n 0, 1) := by decide +kernel
theorem dX8_told_1 : decode cX8_told 1 = .ok (.getfield 27, 3) := by decide +kernel
theorem dX8_told_4 : decode cX8_told 4 = .ok (.iconst 3, 1) := by decide +kernel
theorem dX8_told_5 : decode cX8_told 5 = .ok (.if_icmp .eq 9, 3) := by decide +kernel
theorem dX8_told_8 : decode cX8_told 8 = .ok (.aload_n 0, 1) := by decide +kernel
theorem dX8_told_9 : decode cX8_told 9 = .ok (.iconst 1, 1) := by decide +kernel
theorem dX8_told_10 : decode cX8_told 10 = .ok (.invokevirtual 86, 3) := by decide +kernel
theorem dX8_told_13 : decode cX8_told 13 = .ok (.ireturn, 1) := by decide +kernel
theorem dX8_told_14 : decode cX8_told 14 = .ok (.aload_n 0, 1) := by decide +kernel
theorem dX8_told_15 : decode cX8_told 15 = .ok (.getfield 41, 3) := by decide +kernel
theorem dX8_told_18 : decode cX8_told 18 = .ok (.iload_n 2, 1) := by decide +kernel
theorem dX8_told_19 : decode cX8_told 19 = .ok (.iload_n 3, 1) := by decide +kernel
theorem dX8_told_20 : decode cX8_told 20 = .ok (.invokestatic 89, 3) := by decide +kernel
theorem dX8_told_23 : decode cX8_told 23 = .ok (.ifCond .ne 9, 3) := by decide +kernel
theorem dX8_told_26 : decode cX8_told 26 = .ok (.aload_n 0, 1) := by decide +kernel
theorem dX8_told_27 : decode cX8_told 27 = .ok (.iconst 2, 1) := by decide +kernel
theorem dX8_told_28 : decode cX8_told 28 = .ok (.invokevirtual 86, 3) := by decide +kernel
theorem dX8_told_31 : decode cX8_told 31 = .ok (.ireturn, 1) := by decide +kernel
theorem dX8_told_32 : decode cX8_told 32 = .ok (.aload_n 0, 1) := by decide +kernel
theorem dX8_told_33 : decode cX8_told 33 = .ok (.getfield 77, 3) := by decide +kernel
theorem dX8_told_36 : decode cX8_told 36 = .ok (.iload_n 1, 1) := by decide +kernel
theorem dX8_told_37 : decode cX8_told 37 = .ok (.aload_n 0, 1) := by decide +kernel
theorem dX8_told_38 : decode cX8_told 38 = .ok (.getfield 41, 3) := by decide +kernel
theorem dX8_told_41 : decode cX8_told 41 = .ok (.iastore, 1) := by decide +kernel
theorem dX8_told_42 : decode cX8_told 42 = .ok (.aload_n 0, 1) := by decide +kernel
theorem dX8_told_43 : decode cX8_told 43 = .ok (.invokevirtual 93, 3) := by decide +kernel
theorem dX8_told_46 : decode cX8_told 46 = .ok (.iconst 1, 1) := by decide +kernel
theorem dX8_told_47 : decode cX8_told 47 = .ok (.ireturn, 1) := by decide +kernel
theorem dX8_readEnd_0 : decode cX8_readEnd 0 = .ok (.aload_n 0, 1) := by decide +kernel
theorem dX8_readEnd_1 : decode cX8_readEnd 1 = .ok (.getfield 27, 3) := by decide +kernel
theorem dX8_readEnd_4 : decode cX8_readEnd 4 = .ok (.iconst 4, 1) := by decide +kernel
theorem dX8_readEnd_5 : decode cX8_readEnd 5 = .ok (.if_icmp .eq 9, 3) := by decide +kernel
theorem dX8_readEnd_8 : decode cX8_readEnd 8 = .ok (.aload_n 0, 1) := by decide +kernel
theorem dX8_readEnd_9 : decode cX8_readEnd 9 = .ok (.iconst 1, 1) := by decide +kernel
theorem dX8_readEnd_10 : decode cX8_readEnd 10 = .ok (.invokevirtual 86, 3) := by decide +kernel
theorem dX8_readEnd_13 : decode cX8_readEnd 13 = .ok (.ireturn, 1) := by decide +kernel
theorem dX8_readEnd_14 : decode cX8_readEnd 14 = .ok (.aload_n 0, 1) := by decide +kernel
theorem dX8_readEnd_15 : decode cX8_readEnd 15 = .ok (.invokevirtual 93, 3) := by decide +kernel
theorem dX8_readEnd_18 : decode cX8_readEnd 18 = .ok (.iconst 1, 1) := by decide +kernel
theorem dX8_readEnd_19 : decode cX8_readEnd 19 = .ok (.ireturn, 1) := by decide +kernel
theorem dX8_readBands_0 : decode cX8_readBands 0 = .ok (.aload_n 0, 1) := by decide +kernel
theorem dX8_readBands_1 : decode cX8_readBands 1 = .ok (.ldc2_w 48, 3) := by decide +kernel
theorem dX8_readBands_4 : decode cX8_readBands 4 = .ok (.bipush 98, 2) := by decide +kernel
theorem dX8_readBands_6 : decode cX8_readBands 6 = .ok (.bipush 97, 2) := by decide +kernel
theorem dX8_readBands_8 : decode cX8_readBands 8 = .ok (.bipush 110, 2) := by decide +kernel
theorem dX8_readBands_10 : decode cX8_readBands 10 = .ok (.bipush 100, 2) := by decide +kernel
theorem dX8_readBands_12 : decode cX8_readBands 12 = .ok (.invokestatic 58, 3) := by decide +kernel
theorem dX8_readBands_15 : decode cX8_readBands 15 = .ok (.lmul, 1) := by decide +kernel
theorem dX8_readBands_16 : decode cX8_readBands 16 = .ok (.ldc2_w 96, 3) := by decide +kernel
theorem dX8_readBands_19 : decode cX8_readBands 19 = .ok (.ladd, 1) := by decide +kernel
theorem dX8_readBands_20 : decode cX8_readBands 20 = .ok (.invokevirtual 98, 3) := by decide +kernel
theorem dX8_readBands_23 : decode cX8_readBands 23 = .ok (.ifCond .ne 9, 3) := by decide +kernel
theorem dX8_readBands_26 : decode cX8_readBands 26 = .ok (.aload_n 0, 1) := by decide +kernel
theorem dX8_readBands_27 : decode cX8_readBands 27 = .ok (.iconst 1, 1) := by decide +kernel
theorem dX8_readBands_28 : decode cX8_readBands 28 = .ok (.invokevirtual 86, 3) := by decide +kernel
theorem dX8_readBands_31 : decode cX8_readBands 31 = .ok (.ireturn, 1) := by decide +kernel
theorem dX8_readBands_32 : decode cX8_readBands 32 = .ok (.aload_n 0, 1) := by decide +kernel
theorem dX8_readBands_33 : decode cX8_readBands 33 = .ok (.invokevirtual 93, 3) := by decide +kernel
theorem dX8_readBands_36 : decode cX8_readBands 36 = .ok (.aload_n 0, 1) := by decide +kernel
theorem dX8_readBands_37 : decode cX8_readBands 37 = .ok (.iconst 4, 1) := by decide +kernel
theorem dX8_readBands_38 : decode cX8_readBands 38 = .ok (.iconst 1, 1) := by decide +kernel
theorem dX8_readBands_39 : decode cX8_readBands 39 = .ok (.sipush 500, 3) := by decide +kernel
theorem dX8_readBands_42 : decode cX8_readBands 42 = .ok (.invokevirtual 102, 3) := by decide +kernel
theorem dX8_readBands_45 : decode cX8_readBands 45 = .ok (.ifCond .eq 49, 3) := by decide +kernel
theorem dX8_readBands_48 : decode cX8_readBands 48 = .ok (.aload_n 0, 1) := by decide +kernel
theorem dX8_readBands_49 : decode cX8_readBands 49 = .ok (.iconst 5, 1) := by decide +kernel
theorem dX8_readBands_50 : decode cX8_readBands 50 = .ok (.aload_n 0, 1) := by decide +kernel
theorem dX8_readBands_51 : decode cX8_readBands 51 = .ok (.getfield 77, 3) := by decide +kernel
theorem dX8_readBands_54 : decode cX8_readBands 54 = .ok (.iconst 4, 1) := by decide +kernel
theorem dX8_readBands_55 : decode cX8_readBands 55 = .ok (.iaload, 1) := by decide +kernel
theorem dX8_readBands_56 : decode cX8_readBands 56 = .ok (.iconst 1, 1) := by decide +kernel
theorem dX8_readBands_57 : decode cX8_readBands 57 = .ok (.iadd, 1) := by decide +kernel
theorem dX8_readBands_58 : decode cX8_readBands 58 = .ok (.sipush 500, 3) := by decide +kernel
theorem dX8_readBands_61 : decode cX8_readBands 61 = .ok (.invokevirtual 102, 3) := by decide +kernel
theorem dX8_readBands_64 : decode cX8_readBands 64 = .ok (.ifCond .eq 30, 3) := by decide +kernel
theorem dX8_readBands_67 : decode cX8_readBands 67 = .ok (.aload_n 0, 1) := by decide +kernel
theorem dX8_readBands_68 : decode cX8_readBands 68 = .ok (.bipush 6, 2) := by decide +kernel
theorem dX8_readBands_70 : decode cX8_readBands 70 = .ok (.aload_n 0, 1) := by decide +kernel
theorem dX8_readBands_71 : decode cX8_readBands 71 = .ok (.getfield 77, 3) := by decide +kernel
theorem dX8_readBands_74 : decode cX8_readBands 74 = .ok (.iconst 5, 1) := by decide +kernel
theorem dX8_readBands_75 : decode cX8_readBands 75 = .ok (.iaload, 1) := by decide +kernel
theorem dX8_readBands_76 : decode cX8_readBands 76 = .ok (.iconst 1, 1) := by decide +kernel
theorem dX8_readBands_77 : decode cX8_readBands 77 = .ok (.iadd, 1) := by decide +kernel
theorem dX8_readBands_78 : decode cX8_readBands 78 = .ok (.sipush 500, 3) := by decide +kernel
theorem dX8_readBands_81 : decode cX8_readBands 81 = .ok (.invokevirtual 102, 3) := by decide +kernel
theorem dX8_readBands_84 : decode cX8_readBands 84 = .ok (.ifCond .eq 10, 3) := by decide +kernel
theorem dX8_readBands_87 : decode cX8_readBands 87 = .ok (.aload_n 0, 1) := by decide +kernel
theorem dX8_readBands_88 : decode cX8_readBands 88 = .ok (.invokevirtual 105, 3) := by decide +kernel
theorem dX8_readBands_91 : decode cX8_readBands 91 = .ok (.ifCond .ne 5, 3) := by decide +kernel
theorem dX8_readBands_94 : decode cX8_readBands 94 = .ok (.iconst 0, 1) := by decide +kernel
theorem dX8_readBands_95 : decode cX8_readBands 95 = .ok (.ireturn, 1) := by decide +kernel
theorem dX8_readBands_96 : decode cX8_readBands 96 = .ok (.aload_n 0, 1) := by decide +kernel
theorem dX8_readBands_97 : decode cX8_readBands 97 = .ok (.bipush 115, 2) := by decide +kernel
theorem dX8_readBands_99 : decode cX8_readBands 99 = .ok (.bipush 109, 2) := by decide +kernel
theorem dX8_readBands_101 : decode cX8_readBands 101 = .ok (.bipush 111, 2) := by decide +kernel
theorem dX8_readBands_103 : decode cX8_readBands 103 = .ok (.bipush 111, 2) := by decide +kernel
theorem dX8_readBands_105 : decode cX8_readBands 105 = .ok (.bipush 116, 2) := by decide +kernel
theorem dX8_readBands_107 : decode cX8_readBands 107 = .ok (.bipush 104, 2) := by decide +kernel
theorem dX8_readBands_109 : decode cX8_readBands 109 = .ok (.invokestatic 109, 3) := by decide +kernel
theorem dX8_readBands_112 : decode cX8_readBands 112 = .ok (.invokevirtual 98, 3) := by decide +kernel
theorem dX8_readBands_115 : decode cX8_readBands 115 = .ok (.ifCond .ne 9, 3) := by decide +kernel
theorem dX8_readBands_118 : decode cX8_readBands 118 = .ok (.aload_n 0, 1) := by decide +kernel
theorem dX8_readBands_119 : decode cX8_readBands 119 = .ok (.iconst 1, 1) := by decide +kernel
theorem dX8_readBands_120 : decode cX8_readBands 120 = .ok (.invokevirtual 86, 3) := by decide +kernel
theorem dX8_readBands_123 : decode cX8_readBands 123 = .ok (.ireturn, 1) := by decide +kernel
theorem dX8_readBands_124 : decode cX8_readBands 124 = .ok (.aload_n 0, 1) := by decide +kernel
theorem dX8_readBands_125 : decode cX8_readBands 125 = .ok (.invokevirtual 93, 3) := by decide +kernel
theorem dX8_readBands_128 : decode cX8_readBands 128 = .ok (.aload_n 0, 1) := by decide +kernel
theorem dX8_readBands_129 : decode cX8_readBands 129 = .ok (.iconst 3, 1) := by decide +kernel
theorem dX8_readBands_130 : decode cX8_readBands 130 = .ok (.iconst 0, 1) := by decide +kernel
theorem dX8_readBands_131 : decode cX8_readBands 131 = .ok (.bipush 100, 2) := by decide +kernel
theorem dX8_readBands_133 : decode cX8_readBands 133 = .ok (.invokevirtual 102, 3) := by decide +kernel
theorem dX8_readBands_136 : decode cX8_readBands 136 = .ok (.ifCond .eq 14, 3) := by decide +kernel
theorem dX8_readBands_139 : decode cX8_readBands 139 = .ok (.aload_n 0, 1) := by decide +kernel
theorem dX8_readBands_140 : decode cX8_readBands 140 = .ok (.invokevirtual 105, 3) := by decide +kernel
theorem dX8_readBands_143 : decode cX8_readBands 143 = .ok (.ifCond .eq 7, 3) := by decide +kernel
theorem dX8_readBands_146 : decode cX8_readBands 146 = .ok (.iconst 1, 1) := by decide +kernel
theorem dX8_readBands_147 : decode cX8_readBands 147 = .ok (.goto 4, 3) := by decide +kernel
theorem dX8_readBands_150 : decode cX8_readBands 150 = .ok (.iconst 0, 1) := by decide +kernel
theorem dX8_readBands_151 : decode cX8_readBands 151 = .ok (.ireturn, 1) := by decide +kernel
theorem dX8_isSubstance_0 : decode cX8_isSubstance 0 = .ok (.aload_n 0, 1) := by decide +kernel
theorem dX8_isSubstance_1 : decode cX8_isSubstance 1 = .ok (.ldc2_w 113, 3) := by decide +kernel
theorem dX8_isSubstance_4 : decode cX8_isSubstance 4 = .ok (.bipush 115, 2) := by decide +kernel
theorem dX8_isSubstance_6 : decode cX8_isSubstance 6 = .ok (.bipush 117, 2) := by decide +kernel
theorem dX8_isSubstance_8 : decode cX8_isSubstance 8 = .ok (.bipush 98, 2) := by decide +kernel
theorem dX8_isSubstance_10 : decode cX8_isSubstance 10 = .ok (.bipush 115, 2) := by decide +kernel
theorem dX8_isSubstance_12 : decode cX8_isSubstance 12 = .ok (.bipush 116, 2) := by decide +kernel
theorem dX8_isSubstance_14 : decode cX8_isSubstance 14 = .ok (.bipush 97, 2) := by decide +kernel
theorem dX8_isSubstance_16 : decode cX8_isSubstance 16 = .ok (.invokestatic 109, 3) := by decide +kernel
theorem dX8_isSubstance_19 : decode cX8_isSubstance 19 = .ok (.lmul, 1) := by decide +kernel
theorem dX8_isSubstance_20 : decode cX8_isSubstance 20 = .ok (.ldc2_w 48, 3) := by decide +kernel
theorem dX8_isSubstance_23 : decode cX8_isSubstance 23 = .ok (.bipush 110, 2) := by decide +kernel
theorem dX8_isSubstance_25 : decode cX8_isSubstance 25 = .ok (.bipush 99, 2) := by decide +kernel
theorem dX8_isSubstance_27 : decode cX8_isSubstance 27 = .ok (.invokestatic 54, 3) := by decide +kernel
theorem dX8_isSubstance_30 : decode cX8_isSubstance 30 = .ok (.lmul, 1) := by decide +kernel
theorem dX8_isSubstance_31 : decode cX8_isSubstance 31 = .ok (.ladd, 1) := by decide +kernel
theorem dX8_isSubstance_32 : decode cX8_isSubstance 32 = .ok (.ldc2_w 115, 3) := by decide +kernel
theorem dX8_isSubstance_35 : decode cX8_isSubstance 35 = .ok (.ladd, 1) := by decide +kernel
theorem dX8_isSubstance_36 : decode cX8_isSubstance 36 = .ok (.invokevirtual 98, 3) := by decide +kernel
theorem dX8_isSubstance_39 : decode cX8_isSubstance 39 = .ok (.ireturn, 1) := by decide +kernel
theorem dX8_isStationWord_0 : decode cX8_isStationWord 0 = .ok (.aload_n 0, 1) := by decide +kernel
theorem dX8_isStationWord_1 : decode cX8_isStationWord 1 = .ok (.ldc2_w 48, 3) := by decide +kernel
theorem dX8_isStationWord_4 : decode cX8_isStationWord 4 = .ok (.bipush 115, 2) := by decide +kernel
theorem dX8_isStationWord_6 : decode cX8_isStationWord 6 = .ok (.bipush 116, 2) := by decide +kernel
theorem dX8_isStationWord_8 : decode cX8_isStationWord 8 = .ok (.bipush 97, 2) := by decide +kernel
theorem dX8_isStationWord_10 : decode cX8_isStationWord 10 = .ok (.bipush 116, 2) := by decide +kernel
theorem dX8_isStationWord_12 : decode cX8_isStationWord 12 = .ok (.bipush 105, 2) := by decide +kernel
theorem dX8_isStationWord_14 : decode cX8_isStationWord 14 = .ok (.bipush 111, 2) := by decide +kernel
theorem dX8_isStationWord_16 : decode cX8_isStationWord 16 = .ok (.invokestatic 109, 3) := by decide +kernel
theorem dX8_isStationWord_19 : decode cX8_isStationWord 19 = .ok (.lmul, 1) := by decide +kernel
theorem dX8_isStationWord_20 : decode cX8_isStationWord 20 = .ok (.ldc2_w 117, 3) := by decide +kernel
theorem dX8_isStationWord_23 : decode cX8_isStationWord 23 = .ok (.ladd, 1) := by decide +kernel
theorem dX8_isStationWord_24 : decode cX8_isStationWord 24 = .ok (.invokevirtual 98, 3) := by decide +kernel
theorem dX8_isStationWord_27 : decode cX8_isStationWord 27 = .ok (.ireturn, 1) := by decide +kernel
theorem dX8_readPoint_0 : decode cX8_readPoint 0 = .ok (.aload_n 0, 1) := by decide +kernel
theorem dX8_readPoint_1 : decode cX8_readPoint 1 = .ok (.getfield 77, 3) := by decide +kernel
theorem dX8_readPoint_4 : decode cX8_readPoint 4 = .ok (.iload_n 1, 1) := by decide +kernel
theorem dX8_readPoint_5 : decode cX8_readPoint 5 = .ok (.iconst 2, 1) := by decide +kernel
theorem dX8_readPoint_6 : decode cX8_readPoint 6 = .ok (.iadd, 1) := by decide +kernel
theorem dX8_readPoint_7 : decode cX8_readPoint 7 = .ok (.iaload, 1) := by decide +kernel
theorem dX8_readPoint_8 : decode cX8_readPoint 8 = .ok (.istore_n 2, 1) := by decide +kernel
theorem dX8_readPoint_9 : decode cX8_readPoint 9 = .ok (.iload_n 1, 1) := by decide +kernel
theorem dX8_readPoint_10 : decode cX8_readPoint 10 = .ok (.iconst 3, 1) := by decide +kernel
theorem dX8_readPoint_11 : decode cX8_readPoint 11 = .ok (.iadd, 1) := by decide +kernel
theorem dX8_readPoint_12 : decode cX8_readPoint 12 = .ok (.iconst 2, 1) := by decide +kernel
theorem dX8_readPoint_13 : decode cX8_readPoint 13 = .ok (.iload_n 2, 1) := by decide +kernel
theorem dX8_readPoint_14 : decode cX8_readPoint 14 = .ok (.imul, 1) := by decide +kernel
theorem dX8_readPoint_15 : decode cX8_readPoint 15 = .ok (.iadd, 1) := by decide +kernel
theorem dX8_readPoint_16 : decode cX8_readPoint 16 = .ok (.istore_n 3, 1) := by decide +kernel
theorem dX8_readPoint_17 : decode cX8_readPoint 17 = .ok (.aload_n 0, 1) := by decide +kernel
theorem dX8_readPoint_18 : decode cX8_readPoint 18 = .ok (.getfield 27, 3) := by decide +kernel
theorem dX8_readPoint_21 : decode cX8_readPoint 21 = .ok (.iconst 3, 1) := by decide +kernel
theorem dX8_readPoint_22 : decode cX8_readPoint 22 = .ok (.if_icmp .eq 9, 3) := by decide +kernel
theorem dX8_readPoint_25 : decode cX8_readPoint 25 = .ok (.aload_n 0, 1) := by decide +kernel
theorem dX8_readPoint_26 : decode cX8_readPoint 26 = .ok (.iconst 1, 1) := by decide +kernel
theorem dX8_readPoint_27 : decode cX8_readPoint 27 = .ok (.invokevirtual 86, 3) := by decide +kernel
theorem dX8_readPoint_30 : decode cX8_readPoint 30 = .ok (.ireturn, 1) := by decide +kernel
theorem dX8_readPoint_31 : decode cX8_readPoint 31 = .ok (.aload_n 0, 1) := by decide +kernel
theorem dX8_readPoint_32 : decode cX8_readPoint 32 = .ok (.getfield 41, 3) := by decide +kernel
theorem dX8_readPoint_35 : decode cX8_readPoint 35 = .ok (.iload_n 2, 1) := by decide +kernel
theorem dX8_readPoint_36 : decode cX8_readPoint 36 = .ok (.ifCond .ne 7, 3) := by decide +kernel
theorem dX8_readPoint_39 : decode cX8_readPoint 39 = .ok (.iconst 0, 1) := by decide +kernel
theorem dX8_readPoint_40 : decode cX8_readPoint 40 = .ok (.goto 13, 3) := by decide +kernel
theorem dX8_readPoint_43 : decode cX8_readPoint 43 = .ok (.aload_n 0, 1) := by decide +kernel
theorem dX8_readPoint_44 : decode cX8_readPoint 44 = .ok (.getfield 77, 3) := by decide +kernel
theorem dX8_readPoint_47 : decode cX8_readPoint 47 = .ok (.iload_n 3, 1) := by decide +kernel
theorem dX8_readPoint_48 : decode cX8_readPoint 48 = .ok (.iconst 2, 1) := by decide +kernel
theorem dX8_readPoint_49 : decode cX8_readPoint 49 = .ok (.isub, 1) := by decide +kernel
theorem dX8_readPoint_50 : decode cX8_readPoint 50 = .ok (.iaload, 1) := by decide +kernel
theorem dX8_readPoint_51 : decode cX8_readPoint 51 = .ok (.iconst 1, 1) := by decide +kernel
theorem dX8_readPoint_52 : decode cX8_readPoint 52 = .ok (.iadd, 1) := by decide +kernel
theorem dX8_readPoint_53 : decode cX8_readPoint 53 = .ok (.sipush 999, 3) := by decide +kernel
theorem dX8_readPoint_56 : decode cX8_readPoint 56 = .ok (.invokestatic 89, 3) := by decide +kernel
theorem dX8_readPoint_59 : decode cX8_readPoint 59 = .ok (.ifCond .ne 9, 3) := by decide +kernel
theorem dX8_readPoint_62 : decode cX8_readPoint 62 = .ok (.aload_n 0, 1) := by decide +kernel
theorem dX8_readPoint_63 : decode cX8_readPoint 63 = .ok (.iconst 2, 1) := by decide +kernel
theorem dX8_readPoint_64 : decode cX8_readPoint 64 = .ok (.invokevirtual 86, 3) := by decide +kernel
theorem dX8_readPoint_67 : decode cX8_readPoint 67 = .ok (.ireturn, 1) := by decide +kernel
theorem dX8_readPoint_68 : decode cX8_readPoint 68 = .ok (.iload_n 2, 1) := by decide +kernel
theorem dX8_readPoint_69 : decode cX8_readPoint 69 = .ok (.iconst 5, 1) := by decide +kernel
theorem dX8_readPoint_70 : decode cX8_readPoint 70 = .ok (.if_icmp .ne 9, 3) := by decide +kernel
theorem dX8_readPoint_73 : decode cX8_readPoint 73 = .ok (.aload_n 0, 1) := by decide +kernel
theorem dX8_readPoint_74 : decode cX8_readPoint 74 = .ok (.iconst 3, 1) := by decide +kernel
theorem dX8_readPoint_75 : decode cX8_readPoint 75 = .ok (.invokevirtual 86, 3) := by decide +kernel
theorem dX8_readPoint_78 : decode cX8_readPoint 78 = .ok (.ireturn, 1) := by decide +kernel
theorem dX8_readPoint_79 : decode cX8_readPoint 79 = .ok (.aload_n 0, 1) := by decide +kernel
theorem dX8_readPoint_80 : decode cX8_readPoint 80 = .ok (.getfield 77, 3) := by decide +kernel
theorem dX8_readPoint_83 : decode cX8_readPoint 83 = .ok (.iload_n 3, 1) := by decide +kernel
theorem dX8_readPoint_84 : decode cX8_readPoint 84 = .ok (.aload_n 0, 1) := by decide +kernel
theorem dX8_readPoint_85 : decode cX8_readPoint 85 = .ok (.getfield 41, 3) := by decide +kernel
theorem dX8_readPoint_88 : decode cX8_readPoint 88 = .ok (.iastore, 1) := by decide +kernel
theorem dX8_readPoint_89 : decode cX8_readPoint 89 = .ok (.aload_n 0, 1) := by decide +kernel
theorem dX8_readPoint_90 : decode cX8_readPoint 90 = .ok (.invokevirtual 93, 3) := by decide +kernel
theorem dX8_readPoint_93 : decode cX8_readPoint 93 = .ok (.aload_n 0, 1) := by decide +kernel
theorem dX8_readPoint_94 : decode cX8_readPoint 94 = .ok (.iload_n 3, 1) := by decide +kernel
theorem dX8_readPoint_95 : decode cX8_readPoint 95 = .ok (.iconst 1, 1) := by decide +kernel
theorem dX8_readPoint_96 : decode cX8_readPoint 96 = .ok (.iadd, 1) := by decide +kernel
theorem dX8_readPoint_97 : decode cX8_readPoint 97 = .ok (.iload_n 2, 1) := by decide +kernel
theorem dX8_readPoint_98 : decode cX8_readPoint 98 = .ok (.ifCond .ne 7, 3) := by decide +kernel
theorem dX8_readPoint_101 : decode cX8_readPoint 101 = .ok (.iconst 0, 1) := by decide +kernel
theorem dX8_readPoint_102 : decode cX8_readPoint 102 = .ok (.goto 11, 3) := by decide +kernel
theorem dX8_readPoint_105 : decode cX8_readPoint 105 = .ok (.aload_n 0, 1) := by decide +kernel
theorem dX8_readPoint_106 : decode cX8_readPoint 106 = .ok (.getfield 77, 3) := by decide +kernel
theorem dX8_readPoint_109 : decode cX8_readPoint 109 = .ok (.iload_n 3, 1) := by decide +kernel
theorem dX8_readPoint_110 : decode cX8_readPoint 110 = .ok (.iconst 1, 1) := by decide +kernel
theorem dX8_readPoint_111 : decode cX8_readPoint 111 = .ok (.isub, 1) := by decide +kernel
theorem dX8_readPoint_112 : decode cX8_readPoint 112 = .ok (.iaload, 1) := by decide +kernel
theorem dX8_readPoint_113 : decode cX8_readPoint 113 = .ok (.sipush 500, 3) := by decide +kernel
theorem dX8_readPoint_116 : decode cX8_readPoint 116 = .ok (.invokevirtual 102, 3) := by decide +kernel
theorem dX8_readPoint_119 : decode cX8_readPoint 119 = .ok (.ifCond .ne 5, 3) := by decide +kernel
theorem dX8_readPoint_122 : decode cX8_readPoint 122 = .ok (.iconst 0, 1) := by decide +kernel
theorem dX8_readPoint_123 : decode cX8_readPoint 123 = .ok (.ireturn, 1) := by decide +kernel
theorem dX8_readPoint_124 : decode cX8_readPoint 124 = .ok (.aload_n 0, 1) := by decide +kernel
theorem dX8_readPoint_125 : decode cX8_readPoint 125 = .ok (.getfield 77, 3) := by decide +kernel
theorem dX8_readPoint_128 : decode cX8_readPoint 128 = .ok (.iload_n 1, 1) := by decide +kernel
theorem dX8_readPoint_129 : decode cX8_readPoint 129 = .ok (.iconst 2, 1) := by decide +kernel
theorem dX8_readPoint_130 : decode cX8_readPoint 130 = .ok (.iadd, 1) := by decide +kernel
theorem dX8_readPoint_131 : decode cX8_readPoint 131 = .ok (.dup2, 1) := by decide +kernel
theorem dX8_readPoint_132 : decode cX8_readPoint 132 = .ok (.iaload, 1) := by decide +kernel
theorem dX8_readPoint_133 : decode cX8_readPoint 133 = .ok (.iconst 1, 1) := by decide +kernel
theorem dX8_readPoint_134 : decode cX8_readPoint 134 = .ok (.iadd, 1) := by decide +kernel
theorem dX8_readPoint_135 : decode cX8_readPoint 135 = .ok (.iastore, 1) := by decide +kernel
theorem dX8_readPoint_136 : decode cX8_readPoint 136 = .ok (.iconst 1, 1) := by decide +kernel
theorem dX8_readPoint_137 : decode cX8_readPoint 137 = .ok (.ireturn, 1) := by decide +kernel
theorem dX8_readSubstance_0 : decode cX8_readSubstance 0 = .ok (.aload_n 0, 1) := by decide +kernel
theorem dX8_readSubstance_1 : decode cX8_readSubstance 1 = .ok (.invokevirtual 119, 3) := by decide +kernel
theorem dX8_readSubstance_4 : decode cX8_readSubstance 4 = .ok (.ifCond .ne 9, 3) := by decide +kernel
theorem dX8_readSubstance_7 : decode cX8_readSubstance 7 = .ok (.aload_n 0, 1) := by decide +kernel
theorem dX8_readSubstance_8 : decode cX8_readSubstance 8 = .ok (.iconst 1, 1) := by decide +kernel
theorem dX8_readSubstance_9 : decode cX8_readSubstance 9 = .ok (.invokevirtual 86, 3) := by decide +kernel
theorem dX8_readSubstance_12 : decode cX8_readSubstance 12 = .ok (.ireturn, 1) := by decide +kernel
theorem dX8_readSubstance_13 : decode cX8_readSubstance 13 = .ok (.aload_n 0, 1) := by decide +kernel
theorem dX8_readSubstance_14 : decode cX8_readSubstance 14 = .ok (.getfield 77, 3) := by decide +kernel
theorem dX8_readSubstance_17 : decode cX8_readSubstance 17 = .ok (.iconst 1, 1) := by decide +kernel
theorem dX8_readSubstance_18 : decode cX8_readSubstance 18 = .ok (.iaload, 1) := by decide +kernel
theorem dX8_readSubstance_19 : decode cX8_readSubstance 19 = .ok (.iconst 3, 1) := by decide +kernel
theorem dX8_readSubstance_20 : decode cX8_readSubstance 20 = .ok (.if_icmp .ne 9, 3) := by decide +kernel
theorem dX8_readSubstance_23 : decode cX8_readSubstance 23 = .ok (.aload_n 0, 1) := by decide +kernel
theorem dX8_readSubstance_24 : decode cX8_readSubstance 24 = .ok (.iconst 3, 1) := by decide +kernel
theorem dX8_readSubstance_25 : decode cX8_readSubstance 25 = .ok (.invokevirtual 86, 3) := by decide +kernel
theorem dX8_readSubstance_28 : decode cX8_readSubstance 28 = .ok (.ireturn, 1) := by decide +kernel
theorem dX8_readSubstance_29 : decode cX8_readSubstance 29 = .ok (.aload_n 0, 1) := by decide +kernel
theorem dX8_readSubstance_30 : decode cX8_readSubstance 30 = .ok (.invokevirtual 93, 3) := by decide +kernel
theorem dX8_readSubstance_33 : decode cX8_readSubstance 33 = .ok (.bipush 7, 2) := by decide +kernel
theorem dX8_readSubstance_35 : decode cX8_readSubstance 35 = .ok (.bipush 13, 2) := by decide +kernel
theorem dX8_readSubstance_37 : decode cX8_readSubstance 37 = .ok (.aload_n 0, 1) := by decide +kernel
theorem dX8_readSubstance_38 : decode cX8_readSubstance 38 = .ok (.getfield 77, 3) := by decide +kernel
theorem dX8_readSubstance_41 : decode cX8_readSubstance 41 = .ok (.iconst 1, 1) := by decide +kernel
theorem dX8_readSubstance_42 : decode cX8_readSubstance 42 = .ok (.iaload, 1) := by decide +kernel
theorem dX8_readSubstance_43 : decode cX8_readSubstance 43 = .ok (.imul, 1) := by decide +kernel
theorem dX8_readSubstance_44 : decode cX8_readSubstance 44 = .ok (.iadd, 1) := by decide +kernel
theorem dX8_readSubstance_45 : decode cX8_readSubstance 45 = .ok (.istore_n 1, 1) := by decide +kernel
theorem dX8_readSubstance_46 : decode cX8_readSubstance 46 = .ok (.aload_n 0, 1) := by decide +kernel
theorem dX8_readSubstance_47 : decode cX8_readSubstance 47 = .ok (.iload_n 1, 1) := by decide +kernel
theorem dX8_readSubstance_48 : decode cX8_readSubstance 48 = .ok (.iconst 0, 1) := by decide +kernel
theorem dX8_readSubstance_49 : decode cX8_readSubstance 49 = .ok (.iadd, 1) := by decide +kernel
theorem dX8_readSubstance_50 : decode cX8_readSubstance 50 = .ok (.iconst 1, 1) := by decide +kernel
theorem dX8_readSubstance_51 : decode cX8_readSubstance 51 = .ok (.bipush 12, 2) := by decide +kernel
theorem dX8_readSubstance_53 : decode cX8_readSubstance 53 = .ok (.invokevirtual 102, 3) := by decide +kernel
theorem dX8_readSubstance_56 : decode cX8_readSubstance 56 = .ok (.ifCond .eq 22, 3) := by decide +kernel
theorem dX8_readSubstance_59 : decode cX8_readSubstance 59 = .ok (.aload_n 0, 1) := by decide +kernel
theorem dX8_readSubstance_60 : decode cX8_readSubstance 60 = .ok (.iload_n 1, 1) := by decide +kernel
theorem dX8_readSubstance_61 : decode cX8_readSubstance 61 = .ok (.iconst 1, 1) := by decide +kernel
theorem dX8_readSubstance_62 : decode cX8_readSubstance 62 = .ok (.iadd, 1) := by decide +kernel
theorem dX8_readSubstance_63 : decode cX8_readSubstance 63 = .ok (.iconst 1, 1) := by decide +kernel
theorem dX8_readSubstance_64 : decode cX8_readSubstance 64 = .ok (.aload_n 0, 1) := by decide +kernel
theorem dX8_readSubstance_65 : decode cX8_readSubstance 65 = .ok (.getfield 77, 3) := by decide +kernel
theorem dX8_readSubstance_68 : decode cX8_readSubstance 68 = .ok (.iload_n 1, 1) := by decide +kernel
theorem dX8_readSubstance_69 : decode cX8_readSubstance 69 = .ok (.iconst 0, 1) := by decide +kernel
theorem dX8_readSubstance_70 : decode cX8_readSubstance 70 = .ok (.iadd, 1) := by decide +kernel
theorem dX8_readSubstance_71 : decode cX8_readSubstance 71 = .ok (.iaload, 1) := by decide +kernel
theorem dX8_readSubstance_72 : decode cX8_readSubstance 72 = .ok (.invokevirtual 102, 3) := by decide +kernel
theorem dX8_readSubstance_75 : decode cX8_readSubstance 75 = .ok (.ifCond .ne 5, 3) := by decide +kernel
theorem dX8_readSubstance_78 : decode cX8_readSubstance 78 = .ok (.iconst 0, 1) := by decide +kernel
theorem dX8_readSubstance_79 : decode cX8_readSubstance 79 = .ok (.ireturn, 1) := by decide +kernel
theorem dX8_readSubstance_80 : decode cX8_readSubstance 80 = .ok (.aload_n 0, 1) := by decide +kernel
theorem dX8_readSubstance_81 : decode cX8_readSubstance 81 = .ok (.getfield 77, 3) := by decide +kernel
theorem dX8_readSubstance_84 : decode cX8_readSubstance 84 = .ok (.iload_n 1, 1) := by decide +kernel
theorem dX8_readSubstance_85 : decode cX8_readSubstance 85 = .ok (.iconst 2, 1) := by decide +kernel
theorem dX8_readSubstance_86 : decode cX8_readSubstance 86 = .ok (.iadd, 1) := by decide +kernel
theorem dX8_readSubstance_87 : decode cX8_readSubstance 87 = .ok (.iaload, 1) := by decide +kernel
theorem dX8_readSubstance_88 : decode cX8_readSubstance 88 = .ok (.iconst 2, 1) := by decide +kernel
theorem dX8_readSubstance_89 : decode cX8_readSubstance 89 = .ok (.if_icmp .lt 11, 3) := by decide +kernel
theorem dX8_readSubstance_92 : decode cX8_readSubstance 92 = .ok (.aload_n 0, 1) := by decide +kernel
theorem dX8_readSubstance_93 : decode cX8_readSubstance 93 = .ok (.getfield 27, 3) := by decide +kernel
theorem dX8_readSubstance_96 : decode cX8_readSubstance 96 = .ok (.iconst 3, 1) := by decide +kernel
theorem dX8_readSubstance_97 : decode cX8_readSubstance 97 = .ok (.if_icmp .ne 13, 3) := by decide +kernel
theorem dX8_readSubstance_100 : decode cX8_readSubstance 100 = .ok (.aload_n 0, 1) := by decide +kernel
theorem dX8_readSubstance_101 : decode cX8_readSubstance 101 = .ok (.iload_n 1, 1) := by decide +kernel
theorem dX8_readSubstance_102 : decode cX8_readSubstance 102 = .ok (.invokevirtual 122, 3) := by decide +kernel
theorem dX8_readSubstance_105 : decode cX8_readSubstance 105 = .ok (.ifCond .ne (-25), 3) := by decide +kernel
theorem dX8_readSubstance_108 : decode cX8_readSubstance 108 = .ok (.iconst 0, 1) := by decide +kernel
theorem dX8_readSubstance_109 : decode cX8_readSubstance 109 = .ok (.ireturn, 1) := by decide +kernel
theorem dX8_readSubstance_110 : decode cX8_readSubstance 110 = .ok (.aload_n 0, 1) := by decide +kernel
theorem dX8_readSubstance_111 : decode cX8_readSubstance 111 = .ok (.getfield 77, 3) := by decide +kernel
theorem dX8_readSubstance_114 : decode cX8_readSubstance 114 = .ok (.iconst 1, 1) := by decide +kernel
theorem dX8_readSubstance_115 : decode cX8_readSubstance 115 = .ok (.dup2, 1) := by decide +kernel
theorem dX8_readSubstance_116 : decode cX8_readSubstance 116 = .ok (.iaload, 1) := by decide +kernel
theorem dX8_readSubstance_117 : decode cX8_readSubstance 117 = .ok (.iconst 1, 1) := by decide +kernel
theorem dX8_readSubstance_118 : decode cX8_readSubstance 118 = .ok (.iadd, 1) := by decide +kernel
theorem dX8_readSubstance_119 : decode cX8_readSubstance 119 = .ok (.iastore, 1) := by decide +kernel
theorem dX8_readSubstance_120 : decode cX8_readSubstance 120 = .ok (.aload_n 0, 1) := by decide +kernel
theorem dX8_readSubstance_121 : decode cX8_readSubstance 121 = .ok (.invokevirtual 105, 3) := by decide +kernel
theorem dX8_readSubstance_124 : decode cX8_readSubstance 124 = .ok (.ireturn, 1) := by decide +kernel
theorem dX8_readStation_0 : decode cX8_readStation 0 = .ok (.aload_n 0, 1) := by decide +kernel
theorem dX8_readStation_1 : decode cX8_readStation 1 = .ok (.invokevirtual 125, 3) := by decide +kernel
theorem dX8_readStation_4 : decode cX8_readStation 4 = .ok (.ifCond .ne 9, 3) := by decide +kernel
theorem dX8_readStation_7 : decode cX8_readStation 7 = .ok (.aload_n 0, 1) := by decide +kernel
theorem dX8_readStation_8 : decode cX8_readStation 8 = .ok (.iconst 1, 1) := by decide +kernel
theorem dX8_readStation_9 : decode cX8_readStation 9 = .ok (.invokevirtual 86, 3) := by decide +kernel
theorem dX8_readStation_12 : decode cX8_readStation 12 = .ok (.ireturn, 1) := by decide +kernel
theorem dX8_readStation_13 : decode cX8_readStation 13 = .ok (.aload_n 0, 1) := by decide +kernel
theorem dX8_readStation_14 : decode cX8_readStation 14 = .ok (.getfield 77, 3) := by decide +kernel
theorem dX8_readStation_17 : decode cX8_readStation 17 = .ok (.iconst 2, 1) := by decide +kernel
theorem dX8_readStation_18 : decode cX8_readStation 18 = .ok (.iaload, 1) := by decide +kernel
theorem dX8_readStation_19 : decode cX8_readStation 19 = .ok (.iconst 4, 1) := by decide +kernel
theorem dX8_readStation_20 : decode cX8_readStation 20 = .ok (.if_icmp .ne 9, 3) := by decide +kernel
theorem dX8_readStation_23 : decode cX8_readStation 23 = .ok (.aload_n 0, 1) := by decide +kernel
theorem dX8_readStation_24 : decode cX8_readStation 24 = .ok (.iconst 3, 1) := by decide +kernel
theorem dX8_readStation_25 : decode cX8_readStation 25 = .ok (.invokevirtual 86, 3) := by decide +kernel
theorem dX8_readStation_28 : decode cX8_readStation 28 = .ok (.ireturn, 1) := by decide +kernel
theorem dX8_readStation_29 : decode cX8_readStation 29 = .ok (.aload_n 0, 1) := by decide +kernel
theorem dX8_readStation_30 : decode cX8_readStation 30 = .ok (.invokevirtual 93, 3) := by decide +kernel
theorem dX8_readStation_33 : decode cX8_readStation 33 = .ok (.aload_n 0, 1) := by decide +kernel
theorem dX8_readStation_34 : decode cX8_readStation 34 = .ok (.bipush 46, 2) := by decide +kernel
theorem dX8_readStation_36 : decode cX8_readStation 36 = .ok (.aload_n 0, 1) := by decide +kernel
theorem dX8_readStation_37 : decode cX8_readStation 37 = .ok (.getfield 77, 3) := by decide +kernel
theorem dX8_readStation_40 : decode cX8_readStation 40 = .ok (.iconst 2, 1) := by decide +kernel
theorem dX8_readStation_41 : decode cX8_readStation 41 = .ok (.iaload, 1) := by decide +kernel
theorem dX8_readStation_42 : decode cX8_readStation 42 = .ok (.iadd, 1) := by decide +kernel
theorem dX8_readStation_43 : decode cX8_readStation 43 = .ok (.iconst 0, 1) := by decide +kernel
theorem dX8_readStation_44 : decode cX8_readStation 44 = .ok (.iconst 2, 1) := by decide +kernel
theorem dX8_readStation_45 : decode cX8_readStation 45 = .ok (.invokevirtual 102, 3) := by decide +kernel
theorem dX8_readStation_48 : decode cX8_readStation 48 = .ok (.ifCond .ne 5, 3) := by decide +kernel
theorem dX8_readStation_51 : decode cX8_readStation 51 = .ok (.iconst 0, 1) := by decide +kernel
theorem dX8_readStation_52 : decode cX8_readStation 52 = .ok (.ireturn, 1) := by decide +kernel
theorem dX8_readStation_53 : decode cX8_readStation 53 = .ok (.aload_n 0, 1) := by decide +kernel
theorem dX8_readStation_54 : decode cX8_readStation 54 = .ok (.getfield 77, 3) := by decide +kernel
theorem dX8_readStation_57 : decode cX8_readStation 57 = .ok (.iconst 2, 1) := by decide +kernel
theorem dX8_readStation_58 : decode cX8_readStation 58 = .ok (.dup2, 1) := by decide +kernel
theorem dX8_readStation_59 : decode cX8_readStation 59 = .ok (.iaload, 1) := by decide +kernel
theorem dX8_readStation_60 : decode cX8_readStation 60 = .ok (.iconst 1, 1) := by decide +kernel
theorem dX8_readStation_61 : decode cX8_readStation 61 = .ok (.iadd, 1) := by decide +kernel
theorem dX8_readStation_62 : decode cX8_readStation 62 = .ok (.iastore, 1) := by decide +kernel
theorem dX8_readStation_63 : decode cX8_readStation 63 = .ok (.aload_n 0, 1) := by decide +kernel
theorem dX8_readStation_64 : decode cX8_readStation 64 = .ok (.invokevirtual 105, 3) := by decide +kernel
theorem dX8_readStation_67 : decode cX8_readStation 67 = .ok (.ireturn, 1) := by decide +kernel
theorem dX8_at_0 : decode cX8_at 0 = .ok (.bipush 50, 2) := by decide +kernel
theorem dX8_at_2 : decode cX8_at 2 = .ok (.bipush 60, 2) := by decide +kernel
theorem dX8_at_4 : decode cX8_at 4 = .ok (.iconst 3, 1) := by decide +kernel
theorem dX8_at_5 : decode cX8_at 5 = .ok (.iload_n 0, 1) := by decide +kernel
theorem dX8_at_6 : decode cX8_at 6 = .ok (.imul, 1) := by decide +kernel
theorem dX8_at_7 : decode cX8_at 7 = .ok (.iload_n 1, 1) := by decide +kernel
theorem dX8_at_8 : decode cX8_at 8 = .ok (.iadd, 1) := by decide +kernel
theorem dX8_at_9 : decode cX8_at 9 = .ok (.imul, 1) := by decide +kernel
theorem dX8_at_10 : decode cX8_at 10 = .ok (.iadd, 1) := by decide +kernel
theorem dX8_at_11 : decode cX8_at 11 = .ok (.iload_n 2, 1) := by decide +kernel
theorem dX8_at_12 : decode cX8_at 12 = .ok (.iadd, 1) := by decide +kernel
theorem dX8_at_13 : decode cX8_at 13 = .ok (.ireturn, 1) := by decide +kernel
theorem dX8_readSeries_0 : decode cX8_readSeries 0 = .ok (.aload_n 0, 1) := by decide +kernel
theorem dX8_readSeries_1 : decode cX8_readSeries 1 = .ok (.invokevirtual 93, 3) := by decide +kernel
theorem dX8_readSeries_4 : decode cX8_readSeries 4 = .ok (.aload_n 0, 1) := by decide +kernel
theorem dX8_readSeries_5 : decode cX8_readSeries 5 = .ok (.getfield 27, 3) := by decide +kernel
theorem dX8_readSeries_8 : decode cX8_readSeries 8 = .ok (.iconst 3, 1) := by decide +kernel
theorem dX8_readSeries_9 : decode cX8_readSeries 9 = .ok (.if_icmp .eq 9, 3) := by decide +kernel
theorem dX8_readSeries_12 : decode cX8_readSeries 12 = .ok (.aload_n 0, 1) := by decide +kernel
theorem dX8_readSeries_13 : decode cX8_readSeries 13 = .ok (.iconst 1, 1) := by decide +kernel
theorem dX8_readSeries_14 : decode cX8_readSeries 14 = .ok (.invokevirtual 86, 3) := by decide +kernel
theorem dX8_readSeries_17 : decode cX8_readSeries 17 = .ok (.ireturn, 1) := by decide +kernel
theorem dX8_readSeries_18 : decode cX8_readSeries 18 = .ok (.aload_n 0, 1) := by decide +kernel
theorem dX8_readSeries_19 : decode cX8_readSeries 19 = .ok (.getfield 41, 3) := by decide +kernel
theorem dX8_readSeries_22 : decode cX8_readSeries 22 = .ok (.aload_n 0, 1) := by decide +kernel
theorem dX8_readSeries_23 : decode cX8_readSeries 23 = .ok (.getfield 77, 3) := by decide +kernel
theorem dX8_readSeries_26 : decode cX8_readSeries 26 = .ok (.iconst 2, 1) := by decide +kernel
theorem dX8_readSeries_27 : decode cX8_readSeries 27 = .ok (.iaload, 1) := by decide +kernel
theorem dX8_readSeries_28 : decode cX8_readSeries 28 = .ok (.if_icmp .lt 9, 3) := by decide +kernel
theorem dX8_readSeries_31 : decode cX8_readSeries 31 = .ok (.aload_n 0, 1) := by decide +kernel
theorem dX8_readSeries_32 : decode cX8_readSeries 32 = .ok (.iconst 2, 1) := by decide +kernel
theorem dX8_readSeries_33 : decode cX8_readSeries 33 = .ok (.invokevirtual 86, 3) := by decide +kernel
theorem dX8_readSeries_36 : decode cX8_readSeries 36 = .ok (.ireturn, 1) := by decide +kernel
theorem dX8_readSeries_37 : decode cX8_readSeries 37 = .ok (.aload_n 0, 1) := by decide +kernel
theorem dX8_readSeries_38 : decode cX8_readSeries 38 = .ok (.getfield 41, 3) := by decide +kernel
theorem dX8_readSeries_41 : decode cX8_readSeries 41 = .ok (.istore_n 1, 1) := by decide +kernel
theorem dX8_readSeries_42 : decode cX8_readSeries 42 = .ok (.aload_n 0, 1) := by decide +kernel
theorem dX8_readSeries_43 : decode cX8_readSeries 43 = .ok (.invokevirtual 93, 3) := by decide +kernel
theorem dX8_readSeries_46 : decode cX8_readSeries 46 = .ok (.aload_n 0, 1) := by decide +kernel
theorem dX8_readSeries_47 : decode cX8_readSeries 47 = .ok (.getfield 27, 3) := by decide +kernel
theorem dX8_readSeries_50 : decode cX8_readSeries 50 = .ok (.iconst 3, 1) := by decide +kernel
theorem dX8_readSeries_51 : decode cX8_readSeries 51 = .ok (.if_icmp .eq 9, 3) := by decide +kernel
theorem dX8_readSeries_54 : decode cX8_readSeries 54 = .ok (.aload_n 0, 1) := by decide +kernel
theorem dX8_readSeries_55 : decode cX8_readSeries 55 = .ok (.iconst 1, 1) := by decide +kernel
theorem dX8_readSeries_56 : decode cX8_readSeries 56 = .ok (.invokevirtual 86, 3) := by decide +kernel
theorem dX8_readSeries_59 : decode cX8_readSeries 59 = .ok (.ireturn, 1) := by decide +kernel
theorem dX8_readSeries_60 : decode cX8_readSeries 60 = .ok (.iconst 3, 1) := by decide +kernel
theorem dX8_readSeries_61 : decode cX8_readSeries 61 = .ok (.iload_n 1, 1) := by decide +kernel
theorem dX8_readSeries_62 : decode cX8_readSeries 62 = .ok (.imul, 1) := by decide +kernel
theorem dX8_readSeries_63 : decode cX8_readSeries 63 = .ok (.aload_n 0, 1) := by decide +kernel
theorem dX8_readSeries_64 : decode cX8_readSeries 64 = .ok (.getfield 41, 3) := by decide +kernel
theorem dX8_readSeries_67 : decode cX8_readSeries 67 = .ok (.iadd, 1) := by decide +kernel
theorem dX8_readSeries_68 : decode cX8_readSeries 68 = .ok (.istore_n 2, 1) := by decide +kernel
theorem dX8_readSeries_69 : decode cX8_readSeries 69 = .ok (.aload_n 0, 1) := by decide +kernel
theorem dX8_readSeries_70 : decode cX8_readSeries 70 = .ok (.getfield 41, 3) := by decide +kernel
theorem dX8_readSeries_73 : decode cX8_readSeries 73 = .ok (.aload_n 0, 1) := by decide +kernel
theorem dX8_readSeries_74 : decode cX8_readSeries 74 = .ok (.getfield 77, 3) := by decide +kernel
theorem dX8_readSeries_77 : decode cX8_readSeries 77 = .ok (.iconst 1, 1) := by decide +kernel
theorem dX8_readSeries_78 : decode cX8_readSeries 78 = .ok (.iaload, 1) := by decide +kernel
theorem dX8_readSeries_79 : decode cX8_readSeries 79 = .ok (.if_icmp .ge 15, 3) := by decide +kernel
theorem dX8_readSeries_82 : decode cX8_readSeries 82 = .ok (.aload_n 0, 1) := by decide +kernel
theorem dX8_readSeries_83 : decode cX8_readSeries 83 = .ok (.getfield 128, 3) := by decide +kernel
theorem dX8_readSeries_86 : decode cX8_readSeries 86 = .ok (.iload_n 2, 1) := by decide +kernel
theorem dX8_readSeries_87 : decode cX8_readSeries 87 = .ok (.ishr, 1) := by decide +kernel
theorem dX8_readSeries_88 : decode cX8_readSeries 88 = .ok (.iconst 1, 1) := by decide +kernel
theorem dX8_readSeries_89 : decode cX8_readSeries 89 = .ok (.iand, 1) := by decide +kernel
theorem dX8_readSeries_90 : decode cX8_readSeries 90 = .ok (.iconst 1, 1) := by decide +kernel
theorem dX8_readSeries_91 : decode cX8_readSeries 91 = .ok (.if_icmp .ne 9, 3) := by decide +kernel
theorem dX8_readSeries_94 : decode cX8_readSeries 94 = .ok (.aload_n 0, 1) := by decide +kernel
theorem dX8_readSeries_95 : decode cX8_readSeries 95 = .ok (.iconst 2, 1) := by decide +kernel
theorem dX8_readSeries_96 : decode cX8_readSeries 96 = .ok (.invokevirtual 86, 3) := by decide +kernel
theorem dX8_readSeries_99 : decode cX8_readSeries 99 = .ok (.ireturn, 1) := by decide +kernel
theorem dX8_readSeries_100 : decode cX8_readSeries 100 = .ok (.aload_n 0, 1) := by decide +kernel
theorem dX8_readSeries_101 : decode cX8_readSeries 101 = .ok (.getfield 41, 3) := by decide +kernel
theorem dX8_readSeries_104 : decode cX8_readSeries 104 = .ok (.istore_n 3, 1) := by decide +kernel
theorem dX8_readSeries_105 : decode cX8_readSeries 105 = .ok (.aload_n 0, 1) := by decide +kernel
theorem dX8_readSeries_106 : decode cX8_readSeries 106 = .ok (.dup, 1) := by decide +kernel
theorem dX8_readSeries_107 : decode cX8_readSeries 107 = .ok (.getfield 128, 3) := by decide +kernel
theorem dX8_readSeries_110 : decode cX8_readSeries 110 = .ok (.iconst 1, 1) := by decide +kernel
theorem dX8_readSeries_111 : decode cX8_readSeries 111 = .ok (.iload_n 2, 1) := by decide +kernel
theorem dX8_readSeries_112 : decode cX8_readSeries 112 = .ok (.ishl, 1) := by decide +kernel
theorem dX8_readSeries_113 : decode cX8_readSeries 113 = .ok (.ior, 1) := by decide +kernel
theorem dX8_readSeries_114 : decode cX8_readSeries 114 = .ok (.putfield 128, 3) := by decide +kernel
theorem dX8_readSeries_117 : decode cX8_readSeries 117 = .ok (.aload_n 0, 1) := by decide +kernel
theorem dX8_readSeries_118 : decode cX8_readSeries 118 = .ok (.invokevirtual 93, 3) := by decide +kernel
theorem dX8_readSeries_121 : decode cX8_readSeries 121 = .ok (.iconst 0, 1) := by decide +kernel
theorem dX8_readSeries_122 : decode cX8_readSeries 122 = .ok (.istore 4, 2) := by decide +kernel
theorem dX8_readSeries_124 : decode cX8_readSeries 124 = .ok (.iload 4, 2) := by decide +kernel
theorem dX8_readSeries_126 : decode cX8_readSeries 126 = .ok (.ifCond .eq 11, 3) := by decide +kernel
theorem dX8_readSeries_129 : decode cX8_readSeries 129 = .ok (.aload_n 0, 1) := by decide +kernel
theorem dX8_readSeries_130 : decode cX8_readSeries 130 = .ok (.getfield 27, 3) := by decide +kernel
theorem dX8_readSeries_133 : decode cX8_readSeries 133 = .ok (.iconst 4, 1) := by decide +kernel
theorem dX8_readSeries_134 : decode cX8_readSeries 134 = .ok (.if_icmp .eq 81, 3) := by decide +kernel
theorem dX8_readSeries_137 : decode cX8_readSeries 137 = .ok (.aload_n 0, 1) := by decide +kernel
theorem dX8_readSeries_138 : decode cX8_readSeries 138 = .ok (.ldc2_w 130, 3) := by decide +kernel
theorem dX8_readSeries_141 : decode cX8_readSeries 141 = .ok (.invokevirtual 98, 3) := by decide +kernel
theorem dX8_readSeries_144 : decode cX8_readSeries 144 = .ok (.istore 5, 2) := by decide +kernel
theorem dX8_readSeries_146 : decode cX8_readSeries 146 = .ok (.iload 5, 2) := by decide +kernel
theorem dX8_readSeries_148 : decode cX8_readSeries 148 = .ok (.ifCond .ne 17, 3) := by decide +kernel
theorem dX8_readSeries_151 : decode cX8_readSeries 151 = .ok (.aload_n 0, 1) := by decide +kernel
theorem dX8_readSeries_152 : decode cX8_readSeries 152 = .ok (.getfield 27, 3) := by decide +kernel
theorem dX8_readSeries_155 : decode cX8_readSeries 155 = .ok (.iconst 3, 1) := by decide +kernel
theorem dX8_readSeries_156 : decode cX8_readSeries 156 = .ok (.if_icmp .eq 9, 3) := by decide +kernel
theorem dX8_readSeries_159 : decode cX8_readSeries 159 = .ok (.aload_n 0, 1) := by decide +kernel
theorem dX8_readSeries_160 : decode cX8_readSeries 160 = .ok (.iconst 1, 1) := by decide +kernel
theorem dX8_readSeries_161 : decode cX8_readSeries 161 = .ok (.invokevirtual 86, 3) := by decide +kernel
theorem dX8_readSeries_164 : decode cX8_readSeries 164 = .ok (.ireturn, 1) := by decide +kernel
theorem dX8_readSeries_165 : decode cX8_readSeries 165 = .ok (.iload 4, 2) := by decide +kernel
theorem dX8_readSeries_167 : decode cX8_readSeries 167 = .ok (.bipush 24, 2) := by decide +kernel
theorem dX8_readSeries_169 : decode cX8_readSeries 169 = .ok (.if_icmp .ne 9, 3) := by decide +kernel
theorem dX8_readSeries_172 : decode cX8_readSeries 172 = .ok (.aload_n 0, 1) := by decide +kernel
theorem dX8_readSeries_173 : decode cX8_readSeries 173 = .ok (.iconst 3, 1) := by decide +kernel
theorem dX8_readSeries_174 : decode cX8_readSeries 174 = .ok (.invokevirtual 86, 3) := by decide +kernel
theorem dX8_readSeries_177 : decode cX8_readSeries 177 = .ok (.ireturn, 1) := by decide +kernel
theorem dX8_readSeries_178 : decode cX8_readSeries 178 = .ok (.aload_n 0, 1) := by decide +kernel
theorem dX8_readSeries_179 : decode cX8_readSeries 179 = .ok (.getfield 77, 3) := by decide +kernel
theorem dX8_readSeries_182 : decode cX8_readSeries 182 = .ok (.iload_n 1, 1) := by decide +kernel
theorem dX8_readSeries_183 : decode cX8_readSeries 183 = .ok (.iload_n 3, 1) := by decide +kernel
theorem dX8_readSeries_184 : decode cX8_readSeries 184 = .ok (.iload 4, 2) := by decide +kernel
theorem dX8_readSeries_186 : decode cX8_readSeries 186 = .ok (.invokestatic 132, 3) := by decide +kernel
theorem dX8_readSeries_189 : decode cX8_readSeries 189 = .ok (.iload 5, 2) := by decide +kernel
theorem dX8_readSeries_191 : decode cX8_readSeries 191 = .ok (.ifCond .eq 7, 3) := by decide +kernel
theorem dX8_readSeries_194 : decode cX8_readSeries 194 = .ok (.iconst 0, 1) := by decide +kernel
theorem dX8_readSeries_195 : decode cX8_readSeries 195 = .ok (.goto 9, 3) := by decide +kernel
theorem dX8_readSeries_198 : decode cX8_readSeries 198 = .ok (.aload_n 0, 1) := by decide +kernel
theorem dX8_readSeries_199 : decode cX8_readSeries 199 = .ok (.getfield 41, 3) := by decide +kernel
theorem dX8_readSeries_202 : decode cX8_readSeries 202 = .ok (.iconst 1, 1) := by decide +kernel
theorem dX8_readSeries_203 : decode cX8_readSeries 203 = .ok (.iadd, 1) := by decide +kernel
theorem dX8_readSeries_204 : decode cX8_readSeries 204 = .ok (.iastore, 1) := by decide +kernel
theorem dX8_readSeries_205 : decode cX8_readSeries 205 = .ok (.iinc 4 1, 3) := by decide +kernel
theorem dX8_readSeries_208 : decode cX8_readSeries 208 = .ok (.aload_n 0, 1) := by decide +kernel
theorem dX8_readSeries_209 : decode cX8_readSeries 209 = .ok (.invokevirtual 93, 3) := by decide +kernel
theorem dX8_readSeries_212 : decode cX8_readSeries 212 = .ok (.goto (-88), 3) := by decide +kernel
theorem dX8_readSeries_215 : decode cX8_readSeries 215 = .ok (.iload 4, 2) := by decide +kernel
theorem dX8_readSeries_217 : decode cX8_readSeries 217 = .ok (.aload_n 0, 1) := by decide +kernel
theorem dX8_readSeries_218 : decode cX8_readSeries 218 = .ok (.getfield 77, 3) := by decide +kernel
theorem dX8_readSeries_221 : decode cX8_readSeries 221 = .ok (.iconst 0, 1) := by decide +kernel
theorem dX8_readSeries_222 : decode cX8_readSeries 222 = .ok (.iaload, 1) := by decide +kernel
theorem dX8_readSeries_223 : decode cX8_readSeries 223 = .ok (.if_icmp .le 11, 3) := by decide +kernel
theorem dX8_readSeries_226 : decode cX8_readSeries 226 = .ok (.aload_n 0, 1) := by decide +kernel
theorem dX8_readSeries_227 : decode cX8_readSeries 227 = .ok (.getfield 77, 3) := by decide +kernel
theorem dX8_readSeries_230 : decode cX8_readSeries 230 = .ok (.iconst 0, 1) := by decide +kernel
theorem dX8_readSeries_231 : decode cX8_readSeries 231 = .ok (.iload 4, 2) := by decide +kernel
theorem dX8_readSeries_233 : decode cX8_readSeries 233 = .ok (.iastore, 1) := by decide +kernel
theorem dX8_readSeries_234 : decode cX8_readSeries 234 = .ok (.aload_n 0, 1) := by decide +kernel
theorem dX8_readSeries_235 : decode cX8_readSeries 235 = .ok (.invokevirtual 93, 3) := by decide +kernel
theorem dX8_readSeries_238 : decode cX8_readSeries 238 = .ok (.iconst 1, 1) := by decide +kernel
theorem dX8_readSeries_239 : decode cX8_readSeries 239 = .ok (.ireturn, 1) := by decide +kernel
theorem dX8_readWhole_0 : decode cX8_readWhole 0 = .ok (.aload_n 0, 1) := by decide +kernel
theorem dX8_readWhole_1 : decode cX8_readWhole 1 = .ok (.invokevirtual 136, 3) := by decide +kernel
theorem dX8_readWhole_4 : decode cX8_readWhole 4 = .ok (.ifCond .ne 5, 3) := by decide +kernel
theorem dX8_readWhole_7 : decode cX8_readWhole 7 = .ok (.iconst 0, 1) := by decide +kernel
theorem dX8_readWhole_8 : decode cX8_readWhole 8 = .ok (.ireturn, 1) := by decide +kernel
theorem dX8_readWhole_9 : decode cX8_readWhole 9 = .ok (.aload_n 0, 1) := by decide +kernel
theorem dX8_readWhole_10 : decode cX8_readWhole 10 = .ok (.iconst 2, 1) := by decide +kernel
theorem dX8_readWhole_11 : decode cX8_readWhole 11 = .ok (.putfield 139, 3) := by decide +kernel
theorem dX8_readWhole_14 : decode cX8_readWhole 14 = .ok (.aload_n 0, 1) := by decide +kernel
theorem dX8_readWhole_15 : decode cX8_readWhole 15 = .ok (.invokevirtual 142, 3) := by decide +kernel
theorem dX8_readWhole_18 : decode cX8_readWhole 18 = .ok (.ifCond .ne 5, 3) := by decide +kernel
theorem dX8_readWhole_21 : decode cX8_readWhole 21 = .ok (.iconst 0, 1) := by decide +kernel
theorem dX8_readWhole_22 : decode cX8_readWhole 22 = .ok (.ireturn, 1) := by decide +kernel
theorem dX8_readWhole_23 : decode cX8_readWhole 23 = .ok (.aload_n 0, 1) := by decide +kernel
theorem dX8_readWhole_24 : decode cX8_readWhole 24 = .ok (.dup, 1) := by decide +kernel
theorem dX8_readWhole_25 : decode cX8_readWhole 25 = .ok (.getfield 139, 3) := by decide +kernel
theorem dX8_readWhole_28 : decode cX8_readWhole 28 = .ok (.iconst 1, 1) := by decide +kernel
theorem dX8_readWhole_29 : decode cX8_readWhole 29 = .ok (.iadd, 1) := by decide +kernel
theorem dX8_readWhole_30 : decode cX8_readWhole 30 = .ok (.putfield 139, 3) := by decide +kernel
theorem dX8_readWhole_33 : decode cX8_readWhole 33 = .ok (.aload_n 0, 1) := by decide +kernel
theorem dX8_readWhole_34 : decode cX8_readWhole 34 = .ok (.invokevirtual 119, 3) := by decide +kernel
theorem dX8_readWhole_37 : decode cX8_readWhole 37 = .ok (.ifCond .ne (-23), 3) := by decide +kernel
theorem dX8_readWhole_40 : decode cX8_readWhole 40 = .ok (.aload_n 0, 1) := by decide +kernel
theorem dX8_readWhole_41 : decode cX8_readWhole 41 = .ok (.invokevirtual 145, 3) := by decide +kernel
theorem dX8_readWhole_44 : decode cX8_readWhole 44 = .ok (.ifCond .ne 5, 3) := by decide +kernel
theorem dX8_readWhole_47 : decode cX8_readWhole 47 = .ok (.iconst 0, 1) := by decide +kernel
theorem dX8_readWhole_48 : decode cX8_readWhole 48 = .ok (.ireturn, 1) := by decide +kernel
theorem dX8_readWhole_49 : decode cX8_readWhole 49 = .ok (.aload_n 0, 1) := by decide +kernel
theorem dX8_readWhole_50 : decode cX8_readWhole 50 = .ok (.dup, 1) := by decide +kernel
theorem dX8_readWhole_51 : decode cX8_readWhole 51 = .ok (.getfield 139, 3) := by decide +kernel
theorem dX8_readWhole_54 : decode cX8_readWhole 54 = .ok (.iconst 1, 1) := by decide +kernel
theorem dX8_readWhole_55 : decode cX8_readWhole 55 = .ok (.iadd, 1) := by decide +kernel
theorem dX8_readWhole_56 : decode cX8_readWhole 56 = .ok (.putfield 139, 3) := by decide +kernel
theorem dX8_readWhole_59 : decode cX8_readWhole 59 = .ok (.aload_n 0, 1) := by decide +kernel
theorem dX8_readWhole_60 : decode cX8_readWhole 60 = .ok (.invokevirtual 125, 3) := by decide +kernel
theorem dX8_readWhole_63 : decode cX8_readWhole 63 = .ok (.ifCond .ne (-23), 3) := by decide +kernel
theorem dX8_readWhole_66 : decode cX8_readWhole 66 = .ok (.aload_n 0, 1) := by decide +kernel
theorem dX8_readWhole_67 : decode cX8_readWhole 67 = .ok (.bipush 115, 2) := by decide +kernel
theorem dX8_readWhole_69 : decode cX8_readWhole 69 = .ok (.bipush 101, 2) := by decide +kernel
theorem dX8_readWhole_71 : decode cX8_readWhole 71 = .ok (.bipush 114, 2) := by decide +kernel
theorem dX8_readWhole_73 : decode cX8_readWhole 73 = .ok (.bipush 105, 2) := by decide +kernel
theorem dX8_readWhole_75 : decode cX8_readWhole 75 = .ok (.bipush 101, 2) := by decide +kernel
theorem dX8_readWhole_77 : decode cX8_readWhole 77 = .ok (.bipush 115, 2) := by decide +kernel
theorem dX8_readWhole_79 : decode cX8_readWhole 79 = .ok (.invokestatic 109, 3) := by decide +kernel
theorem dX8_readWhole_82 : decode cX8_readWhole 82 = .ok (.invokevirtual 98, 3) := by decide +kernel
theorem dX8_readWhole_85 : decode cX8_readWhole 85 = .ok (.ifCond .eq 25, 3) := by decide +kernel
theorem dX8_readWhole_88 : decode cX8_readWhole 88 = .ok (.aload_n 0, 1) := by decide +kernel
theorem dX8_readWhole_89 : decode cX8_readWhole 89 = .ok (.invokevirtual 148, 3) := by decide +kernel
theorem dX8_readWhole_92 : decode cX8_readWhole 92 = .ok (.ifCond .ne 5, 3) := by decide +kernel
theorem dX8_readWhole_95 : decode cX8_readWhole 95 = .ok (.iconst 0, 1) := by decide +kernel
theorem dX8_readWhole_96 : decode cX8_readWhole 96 = .ok (.ireturn, 1) := by decide +kernel
theorem dX8_readWhole_97 : decode cX8_readWhole 97 = .ok (.aload_n 0, 1) := by decide +kernel
theorem dX8_readWhole_98 : decode cX8_readWhole 98 = .ok (.dup, 1) := by decide +kernel
theorem dX8_readWhole_99 : decode cX8_readWhole 99 = .ok (.getfield 139, 3) := by decide +kernel
theorem dX8_readWhole_102 : decode cX8_readWhole 102 = .ok (.iconst 1, 1) := by decide +kernel
theorem dX8_readWhole_103 : decode cX8_readWhole 103 = .ok (.iadd, 1) := by decide +kernel
theorem dX8_readWhole_104 : decode cX8_readWhole 104 = .ok (.putfield 139, 3) := by decide +kernel
theorem dX8_readWhole_107 : decode cX8_readWhole 107 = .ok (.goto (-41), 3) := by decide +kernel
theorem dX8_readWhole_110 : decode cX8_readWhole 110 = .ok (.aload_n 0, 1) := by decide +kernel
theorem dX8_readWhole_111 : decode cX8_readWhole 111 = .ok (.getfield 27, 3) := by decide +kernel
theorem dX8_readWhole_114 : decode cX8_readWhole 114 = .ok (.ifCond .eq 11, 3) := by decide +kernel
theorem dX8_readWhole_117 : decode cX8_readWhole 117 = .ok (.aload_n 0, 1) := by decide +kernel
theorem dX8_readWhole_118 : decode cX8_readWhole 118 = .ok (.iconst 1, 1) := by decide +kernel
theorem dX8_readWhole_119 : decode cX8_readWhole 119 = .ok (.invokevirtual 86, 3) := by decide +kernel
theorem dX8_readWhole_122 : decode cX8_readWhole 122 = .ok (.ifCond .eq 7, 3) := by decide +kernel
theorem dX8_readWhole_125 : decode cX8_readWhole 125 = .ok (.iconst 1, 1) := by decide +kernel
theorem dX8_readWhole_126 : decode cX8_readWhole 126 = .ok (.goto 4, 3) := by decide +kernel
theorem dX8_readWhole_129 : decode cX8_readWhole 129 = .ok (.iconst 0, 1) := by decide +kernel
theorem dX8_readWhole_130 : decode cX8_readWhole 130 = .ok (.ireturn, 1) := by decide +kernel
theorem dX8_text_0 : decode cX8_text 0 = .ok (.aload_n 0, 1) := by decide +kernel
theorem dX8_text_1 : decode cX8_text 1 = .ok (.aload_n 0, 1) := by decide +kernel
theorem dX8_text_2 : decode cX8_text 2 = .ok (.getfield 11, 3) := by decide +kernel
theorem dX8_text_5 : decode cX8_text 5 = .ok (.putfield 18, 3) := by decide +kernel
theorem dX8_text_8 : decode cX8_text 8 = .ok (.aload_n 0, 1) := by decide +kernel
theorem dX8_text_9 : decode cX8_text 9 = .ok (.iconst 0, 1) := by decide +kernel
theorem dX8_text_10 : decode cX8_text 10 = .ok (.putfield 11, 3) := by decide +kernel
theorem dX8_text_13 : decode cX8_text 13 = .ok (.aload_n 0, 1) := by decide +kernel
theorem dX8_text_14 : decode cX8_text 14 = .ok (.iconst 0, 1) := by decide +kernel
theorem dX8_text_15 : decode cX8_text 15 = .ok (.putfield 62, 3) := by decide +kernel
theorem dX8_text_18 : decode cX8_text 18 = .ok (.aload_n 0, 1) := by decide +kernel
theorem dX8_text_19 : decode cX8_text 19 = .ok (.iconst 0, 1) := by decide +kernel
theorem dX8_text_20 : decode cX8_text 20 = .ok (.putfield 21, 3) := by decide +kernel
theorem dX8_text_23 : decode cX8_text 23 = .ok (.aload_n 0, 1) := by decide +kernel
theorem dX8_text_24 : decode cX8_text 24 = .ok (.iconst 0, 1) := by decide +kernel
theorem dX8_text_25 : decode cX8_text 25 = .ok (.putfield 128, 3) := by decide +kernel
theorem dX8_text_28 : decode cX8_text 28 = .ok (.iconst 0, 1) := by decide +kernel
theorem dX8_text_29 : decode cX8_text 29 = .ok (.istore_n 1, 1) := by decide +kernel
theorem dX8_text_30 : decode cX8_text 30 = .ok (.iload_n 1, 1) := by decide +kernel
theorem dX8_text_31 : decode cX8_text 31 = .ok (.sipush 770, 3) := by decide +kernel
theorem dX8_text_34 : decode cX8_text 34 = .ok (.if_icmp .ge 16, 3) := by decide +kernel
theorem dX8_text_37 : decode cX8_text 37 = .ok (.aload_n 0, 1) := by decide +kernel
theorem dX8_text_38 : decode cX8_text 38 = .ok (.getfield 77, 3) := by decide +kernel
theorem dX8_text_41 : decode cX8_text 41 = .ok (.iload_n 1, 1) := by decide +kernel
theorem dX8_text_42 : decode cX8_text 42 = .ok (.iconst 0, 1) := by decide +kernel
theorem dX8_text_43 : decode cX8_text 43 = .ok (.iastore, 1) := by decide +kernel
theorem dX8_text_44 : decode cX8_text 44 = .ok (.iinc 1 1, 3) := by decide +kernel
theorem dX8_text_47 : decode cX8_text 47 = .ok (.goto (-17), 3) := by decide +kernel
theorem dX8_text_50 : decode cX8_text 50 = .ok (.aload_n 0, 1) := by decide +kernel
theorem dX8_text_51 : decode cX8_text 51 = .ok (.invokevirtual 93, 3) := by decide +kernel
theorem dX8_text_54 : decode cX8_text 54 = .ok (.aload_n 0, 1) := by decide +kernel
theorem dX8_text_55 : decode cX8_text 55 = .ok (.invokevirtual 151, 3) := by decide +kernel
theorem dX8_text_58 : decode cX8_text 58 = .ok (.ifCond .ne 10, 3) := by decide +kernel
theorem dX8_text_61 : decode cX8_text 61 = .ok (.iconst (-1), 1) := by decide +kernel
theorem dX8_text_62 : decode cX8_text 62 = .ok (.aload_n 0, 1) := by decide +kernel
theorem dX8_text_63 : decode cX8_text 63 = .ok (.getfield 65, 3) := by decide +kernel
theorem dX8_text_66 : decode cX8_text 66 = .ok (.isub, 1) := by decide +kernel
theorem dX8_text_67 : decode cX8_text 67 = .ok (.ireturn, 1) := by decide +kernel
theorem dX8_text_68 : decode cX8_text 68 = .ok (.iconst 0, 1) := by decide +kernel
theorem dX8_text_69 : decode cX8_text 69 = .ok (.istore_n 1, 1) := by decide +kernel
theorem dX8_text_70 : decode cX8_text 70 = .ok (.iload_n 1, 1) := by decide +kernel
theorem dX8_text_71 : decode cX8_text 71 = .ok (.sipush 770, 3) := by decide +kernel
theorem dX8_text_74 : decode cX8_text 74 = .ok (.if_icmp .ge 21, 3) := by decide +kernel
theorem dX8_text_77 : decode cX8_text 77 = .ok (.aload_n 0, 1) := by decide +kernel
theorem dX8_text_78 : decode cX8_text 78 = .ok (.getfield 74, 3) := by decide +kernel
theorem dX8_text_81 : decode cX8_text 81 = .ok (.iload_n 1, 1) := by decide +kernel
theorem dX8_text_82 : decode cX8_text 82 = .ok (.aload_n 0, 1) := by decide +kernel
theorem dX8_text_83 : decode cX8_text 83 = .ok (.getfield 77, 3) := by decide +kernel
theorem dX8_text_86 : decode cX8_text 86 = .ok (.iload_n 1, 1) := by decide +kernel
theorem dX8_text_87 : decode cX8_text 87 = .ok (.iaload, 1) := by decide +kernel
theorem dX8_text_88 : decode cX8_text 88 = .ok (.iastore, 1) := by decide +kernel
theorem dX8_text_89 : decode cX8_text 89 = .ok (.iinc 1 1, 3) := by decide +kernel
theorem dX8_text_92 : decode cX8_text 92 = .ok (.goto (-22), 3) := by decide +kernel
theorem dX8_text_95 : decode cX8_text 95 = .ok (.aload_n 0, 1) := by decide +kernel
theorem dX8_text_96 : decode cX8_text 96 = .ok (.iconst 0, 1) := by decide +kernel
theorem dX8_text_97 : decode cX8_text 97 = .ok (.putfield 154, 3) := by decide +kernel
theorem dX8_text_100 : decode cX8_text 100 = .ok (.aload_n 0, 1) := by decide +kernel
theorem dX8_text_101 : decode cX8_text 101 = .ok (.getfield 139, 3) := by decide +kernel
theorem dX8_text_104 : decode cX8_text 104 = .ok (.ireturn, 1) := by decide +kernel
theorem dX8_fault_0 : decode cX8_fault 0 = .ok (.aload_n 0, 1) := by decide +kernel
theorem dX8_fault_1 : decode cX8_fault 1 = .ok (.getfield 62, 3) := by decide +kernel
theorem dX8_fault_4 : decode cX8_fault 4 = .ok (.ireturn, 1) := by decide +kernel
theorem dX8_isStation_0 : decode cX8_isStation 0 = .ok (.iload_n 1, 1) := by decide +kernel
theorem dX8_isStation_1 : decode cX8_isStation 1 = .ok (.iconst 0, 1) := by decide +kernel
theorem dX8_isStation_2 : decode cX8_isStation 2 = .ok (.aload_n 0, 1) := by decide +kernel
theorem dX8_isStation_3 : decode cX8_isStation 3 = .ok (.getfield 74, 3) := by decide +kernel
theorem dX8_isStation_6 : decode cX8_isStation 6 = .ok (.iconst 2, 1) := by decide +kernel
theorem dX8_isStation_7 : decode cX8_isStation 7 = .ok (.iaload, 1) := by decide +kernel
theorem dX8_isStation_8 : decode cX8_isStation 8 = .ok (.iconst 1, 1) := by decide +kernel
theorem dX8_isStation_9 : decode cX8_isStation 9 = .ok (.isub, 1) := by decide +kernel
theorem dX8_isStation_10 : decode cX8_isStation 10 = .ok (.invokestatic 89, 3) := by decide +kernel
theorem dX8_isStation_13 : decode cX8_isStation 13 = .ok (.ireturn, 1) := by decide +kernel
theorem dX8_isSubstance__0 : decode cX8_isSubstance_ 0 = .ok (.iload_n 1, 1) := by decide +kernel
theorem dX8_isSubstance__1 : decode cX8_isSubstance_ 1 = .ok (.iconst 0, 1) := by decide +kernel
theorem dX8_isSubstance__2 : decode cX8_isSubstance_ 2 = .ok (.aload_n 0, 1) := by decide +kernel
theorem dX8_isSubstance__3 : decode cX8_isSubstance_ 3 = .ok (.getfield 74, 3) := by decide +kernel
theorem dX8_isSubstance__6 : decode cX8_isSubstance_ 6 = .ok (.iconst 1, 1) := by decide +kernel
theorem dX8_isSubstance__7 : decode cX8_isSubstance_ 7 = .ok (.iaload, 1) := by decide +kernel
theorem dX8_isSubstance__8 : decode cX8_isSubstance_ 8 = .ok (.iconst 1, 1) := by decide +kernel
theorem dX8_isSubstance__9 : decode cX8_isSubstance_ 9 = .ok (.isub, 1) := by decide +kernel
theorem dX8_isSubstance__10 : decode cX8_isSubstance_ 10 = .ok (.invokestatic 89, 3) := by decide +kernel
theorem dX8_isSubstance__13 : decode cX8_isSubstance_ 13 = .ok (.ireturn, 1) := by decide +kernel
theorem dX8_isHour_0 : decode cX8_isHour 0 = .ok (.iload_n 1, 1) := by decide +kernel
theorem dX8_isHour_1 : decode cX8_isHour 1 = .ok (.iconst 0, 1) := by decide +kernel
theorem dX8_isHour_2 : decode cX8_isHour 2 = .ok (.aload_n 0, 1) := by decide +kernel
theorem dX8_isHour_3 : decode cX8_isHour 3 = .ok (.getfield 74, 3) := by decide +kernel
theorem dX8_isHour_6 : decode cX8_isHour 6 = .ok (.iconst 0, 1) := by decide +kernel
theorem dX8_isHour_7 : decode cX8_isHour 7 = .ok (.iaload, 1) := by decide +kernel
theorem dX8_isHour_8 : decode cX8_isHour 8 = .ok (.iconst 1, 1) := by decide +kernel
theorem dX8_isHour_9 : decode cX8_isHour 9 = .ok (.isub, 1) := by decide +kernel
theorem dX8_isHour_10 : decode cX8_isHour 10 = .ok (.invokestatic 89, 3) := by decide +kernel
theorem dX8_isHour_13 : decode cX8_isHour 13 = .ok (.ireturn, 1) := by decide +kernel
theorem dX8_are_0 : decode cX8_are 0 = .ok (.aload_n 0, 1) := by decide +kernel
theorem dX8_are_1 : decode cX8_are 1 = .ok (.iload_n 1, 1) := by decide +kernel
theorem dX8_are_2 : decode cX8_are 2 = .ok (.invokevirtual 157, 3) := by decide +kernel
theorem dX8_are_5 : decode cX8_are 5 = .ok (.ifCond .eq 23, 3) := by decide +kernel
theorem dX8_are_8 : decode cX8_are 8 = .ok (.aload_n 0, 1) := by decide +kernel
theorem dX8_are_9 : decode cX8_are 9 = .ok (.iload_n 2, 1) := by decide +kernel
theorem dX8_are_10 : decode cX8_are 10 = .ok (.invokevirtual 160, 3) := by decide +kernel
theorem dX8_are_13 : decode cX8_are 13 = .ok (.ifCond .eq 15, 3) := by decide +kernel
theorem dX8_are_16 : decode cX8_are 16 = .ok (.aload_n 0, 1) := by decide +kernel
theorem dX8_are_17 : decode cX8_are 17 = .ok (.iload_n 3, 1) := by decide +kernel
theorem dX8_are_18 : decode cX8_are 18 = .ok (.invokevirtual 162, 3) := by decide +kernel
theorem dX8_are_21 : decode cX8_are 21 = .ok (.ifCond .eq 7, 3) := by decide +kernel
theorem dX8_are_24 : decode cX8_are 24 = .ok (.iconst 1, 1) := by decide +kernel
theorem dX8_are_25 : decode cX8_are 25 = .ok (.goto 4, 3) := by decide +kernel
theorem dX8_are_28 : decode cX8_are 28 = .ok (.iconst 0, 1) := by decide +kernel
theorem dX8_are_29 : decode cX8_are 29 = .ok (.ireturn, 1) := by decide +kernel
theorem dX8_its_0 : decode cX8_its 0 = .ok (.aload_n 0, 1) := by decide +kernel
theorem dX8_its_1 : decode cX8_its 1 = .ok (.getfield 74, 3) := by decide +kernel
theorem dX8_its_4 : decode cX8_its 4 = .ok (.bipush 7, 2) := by decide +kernel
theorem dX8_its_6 : decode cX8_its 6 = .ok (.bipush 13, 2) := by decide +kernel
theorem dX8_its_8 : decode cX8_its 8 = .ok (.iload_n 1, 1) := by decide +kernel
theorem dX8_its_9 : decode cX8_its 9 = .ok (.imul, 1) := by decide +kernel
theorem dX8_its_10 : decode cX8_its 10 = .ok (.iadd, 1) := by decide +kernel
theorem dX8_its_11 : decode cX8_its 11 = .ok (.iload_n 2, 1) := by decide +kernel
theorem dX8_its_12 : decode cX8_its 12 = .ok (.iadd, 1) := by decide +kernel
theorem dX8_its_13 : decode cX8_its 13 = .ok (.iaload, 1) := by decide +kernel
theorem dX8_its_14 : decode cX8_its 14 = .ok (.ireturn, 1) := by decide +kernel
theorem dX8_readOf_0 : decode cX8_readOf 0 = .ok (.aload_n 0, 1) := by decide +kernel
theorem dX8_readOf_1 : decode cX8_readOf 1 = .ok (.getfield 74, 3) := by decide +kernel
theorem dX8_readOf_4 : decode cX8_readOf 4 = .ok (.iload_n 1, 1) := by decide +kernel
theorem dX8_readOf_5 : decode cX8_readOf 5 = .ok (.iload_n 2, 1) := by decide +kernel
theorem dX8_readOf_6 : decode cX8_readOf 6 = .ok (.iload_n 3, 1) := by decide +kernel
theorem dX8_readOf_7 : decode cX8_readOf 7 = .ok (.invokestatic 132, 3) := by decide +kernel
theorem dX8_readOf_10 : decode cX8_readOf 10 = .ok (.iaload, 1) := by decide +kernel
theorem dX8_readOf_11 : decode cX8_readOf 11 = .ok (.iconst 1, 1) := by decide +kernel
theorem dX8_readOf_12 : decode cX8_readOf 12 = .ok (.isub, 1) := by decide +kernel
theorem dX8_readOf_13 : decode cX8_readOf 13 = .ok (.ireturn, 1) := by decide +kernel
theorem dX8_meanOf_0 : decode cX8_meanOf 0 = .ok (.iconst 0, 1) := by decide +kernel
theorem dX8_meanOf_1 : decode cX8_meanOf 1 = .ok (.istore 4, 2) := by decide +kernel
theorem dX8_meanOf_3 : decode cX8_meanOf 3 = .ok (.iconst 0, 1) := by decide +kernel
theorem dX8_meanOf_4 : decode cX8_meanOf 4 = .ok (.istore 5, 2) := by decide +kernel
theorem dX8_meanOf_6 : decode cX8_meanOf 6 = .ok (.iconst 0, 1) := by decide +kernel
theorem dX8_meanOf_7 : decode cX8_meanOf 7 = .ok (.istore 6, 2) := by decide +kernel
theorem dX8_meanOf_9 : decode cX8_meanOf 9 = .ok (.iconst 0, 1) := by decide +kernel
theorem dX8_meanOf_10 : decode cX8_meanOf 10 = .ok (.istore 7, 2) := by decide +kernel
theorem dX8_meanOf_12 : decode cX8_meanOf 12 = .ok (.iload_n 3, 1) := by decide +kernel
theorem dX8_meanOf_13 : decode cX8_meanOf 13 = .ok (.istore 8, 2) := by decide +kernel
theorem dX8_meanOf_15 : decode cX8_meanOf 15 = .ok (.iload 8, 2) := by decide +kernel
theorem dX8_meanOf_17 : decode cX8_meanOf 17 = .ok (.ifCond .lt 65, 3) := by decide +kernel
theorem dX8_meanOf_20 : decode cX8_meanOf 20 = .ok (.iload 8, 2) := by decide +kernel
theorem dX8_meanOf_22 : decode cX8_meanOf 22 = .ok (.iload_n 3, 1) := by decide +kernel
theorem dX8_meanOf_23 : decode cX8_meanOf 23 = .ok (.aload_n 0, 1) := by decide +kernel
theorem dX8_meanOf_24 : decode cX8_meanOf 24 = .ok (.iload_n 2, 1) := by decide +kernel
theorem dX8_meanOf_25 : decode cX8_meanOf 25 = .ok (.iconst 0, 1) := by decide +kernel
theorem dX8_meanOf_26 : decode cX8_meanOf 26 = .ok (.invokevirtual 165, 3) := by decide +kernel
theorem dX8_meanOf_29 : decode cX8_meanOf 29 = .ok (.isub, 1) := by decide +kernel
theorem dX8_meanOf_30 : decode cX8_meanOf 30 = .ok (.if_icmp .le 52, 3) := by decide +kernel
theorem dX8_meanOf_33 : decode cX8_meanOf 33 = .ok (.iinc 7 1, 3) := by decide +kernel
theorem dX8_meanOf_36 : decode cX8_meanOf 36 = .ok (.aload_n 0, 1) := by decide +kernel
theorem dX8_meanOf_37 : decode cX8_meanOf 37 = .ok (.iload_n 1, 1) := by decide +kernel
theorem dX8_meanOf_38 : decode cX8_meanOf 38 = .ok (.iload_n 2, 1) := by decide +kernel
theorem dX8_meanOf_39 : decode cX8_meanOf 39 = .ok (.iload 8, 2) := by decide +kernel
theorem dX8_meanOf_41 : decode cX8_meanOf 41 = .ok (.invokevirtual 169, 3) := by decide +kernel
theorem dX8_meanOf_44 : decode cX8_meanOf 44 = .ok (.istore 9, 2) := by decide +kernel
theorem dX8_meanOf_46 : decode cX8_meanOf 46 = .ok (.iload 9, 2) := by decide +kernel
theorem dX8_meanOf_48 : decode cX8_meanOf 48 = .ok (.iconst (-1), 1) := by decide +kernel
theorem dX8_meanOf_49 : decode cX8_meanOf 49 = .ok (.if_icmp .ne 6, 3) := by decide +kernel
theorem dX8_meanOf_52 : decode cX8_meanOf 52 = .ok (.goto 24, 3) := by decide +kernel
theorem dX8_meanOf_55 : decode cX8_meanOf 55 = .ok (.iinc 4 1, 3) := by decide +kernel
theorem dX8_meanOf_58 : decode cX8_meanOf 58 = .ok (.iload 5, 2) := by decide +kernel
theorem dX8_meanOf_60 : decode cX8_meanOf 60 = .ok (.iload 9, 2) := by decide +kernel
theorem dX8_meanOf_62 : decode cX8_meanOf 62 = .ok (.iadd, 1) := by decide +kernel
theorem dX8_meanOf_63 : decode cX8_meanOf 63 = .ok (.istore 5, 2) := by decide +kernel
theorem dX8_meanOf_65 : decode cX8_meanOf 65 = .ok (.iload 9, 2) := by decide +kernel
theorem dX8_meanOf_67 : decode cX8_meanOf 67 = .ok (.iload 6, 2) := by decide +kernel
theorem dX8_meanOf_69 : decode cX8_meanOf 69 = .ok (.if_icmp .le 7, 3) := by decide +kernel
theorem dX8_meanOf_72 : decode cX8_meanOf 72 = .ok (.iload 9, 2) := by decide +kernel
theorem dX8_meanOf_74 : decode cX8_meanOf 74 = .ok (.istore 6, 2) := by decide +kernel
theorem dX8_meanOf_76 : decode cX8_meanOf 76 = .ok (.iinc 8 (-1), 3) := by decide +kernel
theorem dX8_meanOf_79 : decode cX8_meanOf 79 = .ok (.goto (-64), 3) := by decide +kernel
theorem dX8_meanOf_82 : decode cX8_meanOf 82 = .ok (.iload 4, 2) := by decide +kernel
theorem dX8_meanOf_84 : decode cX8_meanOf 84 = .ok (.aload_n 0, 1) := by decide +kernel
theorem dX8_meanOf_85 : decode cX8_meanOf 85 = .ok (.iload_n 2, 1) := by decide +kernel
theorem dX8_meanOf_86 : decode cX8_meanOf 86 = .ok (.iconst 1, 1) := by decide +kernel
theorem dX8_meanOf_87 : decode cX8_meanOf 87 = .ok (.invokevirtual 165, 3) := by decide +kernel
theorem dX8_meanOf_90 : decode cX8_meanOf 90 = .ok (.if_icmp .ge 7, 3) := by decide +kernel
theorem dX8_meanOf_93 : decode cX8_meanOf 93 = .ok (.iconst (-1), 1) := by decide +kernel
theorem dX8_meanOf_94 : decode cX8_meanOf 94 = .ok (.goto 17, 3) := by decide +kernel
theorem dX8_meanOf_97 : decode cX8_meanOf 97 = .ok (.iload 5, 2) := by decide +kernel
theorem dX8_meanOf_99 : decode cX8_meanOf 99 = .ok (.iload 7, 2) := by decide +kernel
theorem dX8_meanOf_101 : decode cX8_meanOf 101 = .ok (.iload 4, 2) := by decide +kernel
theorem dX8_meanOf_103 : decode cX8_meanOf 103 = .ok (.isub, 1) := by decide +kernel
theorem dX8_meanOf_104 : decode cX8_meanOf 104 = .ok (.iload 6, 2) := by decide +kernel
theorem dX8_meanOf_106 : decode cX8_meanOf 106 = .ok (.imul, 1) := by decide +kernel
theorem dX8_meanOf_107 : decode cX8_meanOf 107 = .ok (.iadd, 1) := by decide +kernel
theorem dX8_meanOf_108 : decode cX8_meanOf 108 = .ok (.iload 7, 2) := by decide +kernel
theorem dX8_meanOf_110 : decode cX8_meanOf 110 = .ok (.idiv, 1) := by decide +kernel
theorem dX8_meanOf_111 : decode cX8_meanOf 111 = .ok (.ireturn, 1) := by decide +kernel
theorem dX8_scaleOf_0 : decode cX8_scaleOf 0 = .ok (.aload_n 0, 1) := by decide +kernel
theorem dX8_scaleOf_1 : decode cX8_scaleOf 1 = .ok (.iload_n 1, 1) := by decide +kernel
theorem dX8_scaleOf_2 : decode cX8_scaleOf 2 = .ok (.iconst 2, 1) := by decide +kernel
theorem dX8_scaleOf_3 : decode cX8_scaleOf 3 = .ok (.invokevirtual 165, 3) := by decide +kernel
theorem dX8_scaleOf_6 : decode cX8_scaleOf 6 = .ok (.iconst 1, 1) := by decide +kernel
theorem dX8_scaleOf_7 : decode cX8_scaleOf 7 = .ok (.isub, 1) := by decide +kernel
theorem dX8_scaleOf_8 : decode cX8_scaleOf 8 = .ok (.istore_n 3, 1) := by decide +kernel
theorem dX8_scaleOf_9 : decode cX8_scaleOf 9 = .ok (.iload_n 2, 1) := by decide +kernel
theorem dX8_scaleOf_10 : decode cX8_scaleOf 10 = .ok (.aload_n 0, 1) := by decide +kernel
theorem dX8_scaleOf_11 : decode cX8_scaleOf 11 = .ok (.iload_n 1, 1) := by decide +kernel
theorem dX8_scaleOf_12 : decode cX8_scaleOf 12 = .ok (.iconst 3, 1) := by decide +kernel
theorem dX8_scaleOf_13 : decode cX8_scaleOf 13 = .ok (.invokevirtual 165, 3) := by decide +kernel
theorem dX8_scaleOf_16 : decode cX8_scaleOf 16 = .ok (.if_icmp .gt 10, 3) := by decide +kernel
theorem dX8_scaleOf_19 : decode cX8_scaleOf 19 = .ok (.aload_n 0, 1) := by decide +kernel
theorem dX8_scaleOf_20 : decode cX8_scaleOf 20 = .ok (.iload_n 1, 1) := by decide +kernel
theorem dX8_scaleOf_21 : decode cX8_scaleOf 21 = .ok (.iconst 4, 1) := by decide +kernel
theorem dX8_scaleOf_22 : decode cX8_scaleOf 22 = .ok (.invokevirtual 165, 3) := by decide +kernel
theorem dX8_scaleOf_25 : decode cX8_scaleOf 25 = .ok (.ireturn, 1) := by decide +kernel
theorem dX8_scaleOf_26 : decode cX8_scaleOf 26 = .ok (.iconst 0, 1) := by decide +kernel
theorem dX8_scaleOf_27 : decode cX8_scaleOf 27 = .ok (.istore 4, 2) := by decide +kernel
theorem dX8_scaleOf_29 : decode cX8_scaleOf 29 = .ok (.iload 4, 2) := by decide +kernel
theorem dX8_scaleOf_31 : decode cX8_scaleOf 31 = .ok (.iload_n 3, 1) := by decide +kernel
theorem dX8_scaleOf_32 : decode cX8_scaleOf 32 = .ok (.if_icmp .ge 93, 3) := by decide +kernel
theorem dX8_scaleOf_35 : decode cX8_scaleOf 35 = .ok (.aload_n 0, 1) := by decide +kernel
theorem dX8_scaleOf_36 : decode cX8_scaleOf 36 = .ok (.iload_n 1, 1) := by decide +kernel
theorem dX8_scaleOf_37 : decode cX8_scaleOf 37 = .ok (.iconst 3, 1) := by decide +kernel
theorem dX8_scaleOf_38 : decode cX8_scaleOf 38 = .ok (.iconst 2, 1) := by decide +kernel
theorem dX8_scaleOf_39 : decode cX8_scaleOf 39 = .ok (.iload 4, 2) := by decide +kernel
theorem dX8_scaleOf_41 : decode cX8_scaleOf 41 = .ok (.imul, 1) := by decide +kernel
theorem dX8_scaleOf_42 : decode cX8_scaleOf 42 = .ok (.iadd, 1) := by decide +kernel
theorem dX8_scaleOf_43 : decode cX8_scaleOf 43 = .ok (.invokevirtual 165, 3) := by decide +kernel
theorem dX8_scaleOf_46 : decode cX8_scaleOf 46 = .ok (.istore 5, 2) := by decide +kernel
theorem dX8_scaleOf_48 : decode cX8_scaleOf 48 = .ok (.aload_n 0, 1) := by decide +kernel
theorem dX8_scaleOf_49 : decode cX8_scaleOf 49 = .ok (.iload_n 1, 1) := by decide +kernel
theorem dX8_scaleOf_50 : decode cX8_scaleOf 50 = .ok (.iconst 3, 1) := by decide +kernel
theorem dX8_scaleOf_51 : decode cX8_scaleOf 51 = .ok (.iconst 2, 1) := by decide +kernel
theorem dX8_scaleOf_52 : decode cX8_scaleOf 52 = .ok (.iload 4, 2) := by decide +kernel
theorem dX8_scaleOf_54 : decode cX8_scaleOf 54 = .ok (.imul, 1) := by decide +kernel
theorem dX8_scaleOf_55 : decode cX8_scaleOf 55 = .ok (.iadd, 1) := by decide +kernel
theorem dX8_scaleOf_56 : decode cX8_scaleOf 56 = .ok (.iconst 2, 1) := by decide +kernel
theorem dX8_scaleOf_57 : decode cX8_scaleOf 57 = .ok (.iadd, 1) := by decide +kernel
theorem dX8_scaleOf_58 : decode cX8_scaleOf 58 = .ok (.invokevirtual 165, 3) := by decide +kernel
theorem dX8_scaleOf_61 : decode cX8_scaleOf 61 = .ok (.istore 6, 2) := by decide +kernel
theorem dX8_scaleOf_63 : decode cX8_scaleOf 63 = .ok (.aload_n 0, 1) := by decide +kernel
theorem dX8_scaleOf_64 : decode cX8_scaleOf 64 = .ok (.iload_n 1, 1) := by decide +kernel
theorem dX8_scaleOf_65 : decode cX8_scaleOf 65 = .ok (.iconst 3, 1) := by decide +kernel
theorem dX8_scaleOf_66 : decode cX8_scaleOf 66 = .ok (.iconst 2, 1) := by decide +kernel
theorem dX8_scaleOf_67 : decode cX8_scaleOf 67 = .ok (.iload 4, 2) := by decide +kernel
theorem dX8_scaleOf_69 : decode cX8_scaleOf 69 = .ok (.imul, 1) := by decide +kernel
theorem dX8_scaleOf_70 : decode cX8_scaleOf 70 = .ok (.iadd, 1) := by decide +kernel
theorem dX8_scaleOf_71 : decode cX8_scaleOf 71 = .ok (.iconst 1, 1) := by decide +kernel
theorem dX8_scaleOf_72 : decode cX8_scaleOf 72 = .ok (.iadd, 1) := by decide +kernel
theorem dX8_scaleOf_73 : decode cX8_scaleOf 73 = .ok (.invokevirtual 165, 3) := by decide +kernel
theorem dX8_scaleOf_76 : decode cX8_scaleOf 76 = .ok (.istore 7, 2) := by decide +kernel
theorem dX8_scaleOf_78 : decode cX8_scaleOf 78 = .ok (.aload_n 0, 1) := by decide +kernel
theorem dX8_scaleOf_79 : decode cX8_scaleOf 79 = .ok (.iload_n 1, 1) := by decide +kernel
theorem dX8_scaleOf_80 : decode cX8_scaleOf 80 = .ok (.iconst 3, 1) := by decide +kernel
theorem dX8_scaleOf_81 : decode cX8_scaleOf 81 = .ok (.iconst 2, 1) := by decide +kernel
theorem dX8_scaleOf_82 : decode cX8_scaleOf 82 = .ok (.iload 4, 2) := by decide +kernel
theorem dX8_scaleOf_84 : decode cX8_scaleOf 84 = .ok (.imul, 1) := by decide +kernel
theorem dX8_scaleOf_85 : decode cX8_scaleOf 85 = .ok (.iadd, 1) := by decide +kernel
theorem dX8_scaleOf_86 : decode cX8_scaleOf 86 = .ok (.iconst 3, 1) := by decide +kernel
theorem dX8_scaleOf_87 : decode cX8_scaleOf 87 = .ok (.iadd, 1) := by decide +kernel
theorem dX8_scaleOf_88 : decode cX8_scaleOf 88 = .ok (.invokevirtual 165, 3) := by decide +kernel
theorem dX8_scaleOf_91 : decode cX8_scaleOf 91 = .ok (.istore 8, 2) := by decide +kernel
theorem dX8_scaleOf_93 : decode cX8_scaleOf 93 = .ok (.iload_n 2, 1) := by decide +kernel
theorem dX8_scaleOf_94 : decode cX8_scaleOf 94 = .ok (.iload 6, 2) := by decide +kernel
theorem dX8_scaleOf_96 : decode cX8_scaleOf 96 = .ok (.if_icmp .gt 23, 3) := by decide +kernel
theorem dX8_scaleOf_99 : decode cX8_scaleOf 99 = .ok (.iload 7, 2) := by decide +kernel
theorem dX8_scaleOf_101 : decode cX8_scaleOf 101 = .ok (.iload_n 2, 1) := by decide +kernel
theorem dX8_scaleOf_102 : decode cX8_scaleOf 102 = .ok (.iload 5, 2) := by decide +kernel
theorem dX8_scaleOf_104 : decode cX8_scaleOf 104 = .ok (.isub, 1) := by decide +kernel
theorem dX8_scaleOf_105 : decode cX8_scaleOf 105 = .ok (.iload 8, 2) := by decide +kernel
theorem dX8_scaleOf_107 : decode cX8_scaleOf 107 = .ok (.iload 7, 2) := by decide +kernel
theorem dX8_scaleOf_109 : decode cX8_scaleOf 109 = .ok (.isub, 1) := by decide +kernel
theorem dX8_scaleOf_110 : decode cX8_scaleOf 110 = .ok (.imul, 1) := by decide +kernel
theorem dX8_scaleOf_111 : decode cX8_scaleOf 111 = .ok (.iload 6, 2) := by decide +kernel
theorem dX8_scaleOf_113 : decode cX8_scaleOf 113 = .ok (.iload 5, 2) := by decide +kernel
theorem dX8_scaleOf_115 : decode cX8_scaleOf 115 = .ok (.isub, 1) := by decide +kernel
theorem dX8_scaleOf_116 : decode cX8_scaleOf 116 = .ok (.idiv, 1) := by decide +kernel
theorem dX8_scaleOf_117 : decode cX8_scaleOf 117 = .ok (.iadd, 1) := by decide +kernel
theorem dX8_scaleOf_118 : decode cX8_scaleOf 118 = .ok (.ireturn, 1) := by decide +kernel
theorem dX8_scaleOf_119 : decode cX8_scaleOf 119 = .ok (.iinc 4 1, 3) := by decide +kernel
theorem dX8_scaleOf_122 : decode cX8_scaleOf 122 = .ok (.goto (-93), 3) := by decide +kernel
theorem dX8_scaleOf_125 : decode cX8_scaleOf 125 = .ok (.aload_n 0, 1) := by decide +kernel
theorem dX8_scaleOf_126 : decode cX8_scaleOf 126 = .ok (.iload_n 1, 1) := by decide +kernel
theorem dX8_scaleOf_127 : decode cX8_scaleOf 127 = .ok (.iconst 3, 1) := by decide +kernel
theorem dX8_scaleOf_128 : decode cX8_scaleOf 128 = .ok (.iconst 2, 1) := by decide +kernel
theorem dX8_scaleOf_129 : decode cX8_scaleOf 129 = .ok (.iload_n 3, 1) := by decide +kernel
theorem dX8_scaleOf_130 : decode cX8_scaleOf 130 = .ok (.imul, 1) := by decide +kernel
theorem dX8_scaleOf_131 : decode cX8_scaleOf 131 = .ok (.iadd, 1) := by decide +kernel
theorem dX8_scaleOf_132 : decode cX8_scaleOf 132 = .ok (.iconst 1, 1) := by decide +kernel
theorem dX8_scaleOf_133 : decode cX8_scaleOf 133 = .ok (.iadd, 1) := by decide +kernel
theorem dX8_scaleOf_134 : decode cX8_scaleOf 134 = .ok (.invokevirtual 165, 3) := by decide +kernel
theorem dX8_scaleOf_137 : decode cX8_scaleOf 137 = .ok (.ireturn, 1) := by decide +kernel
theorem dX8_subOf_0 : decode cX8_subOf 0 = .ok (.aload_n 0, 1) := by decide +kernel
theorem dX8_subOf_1 : decode cX8_subOf 1 = .ok (.iload_n 1, 1) := by decide +kernel
theorem dX8_subOf_2 : decode cX8_subOf 2 = .ok (.iload_n 2, 1) := by decide +kernel
theorem dX8_subOf_3 : decode cX8_subOf 3 = .ok (.iload_n 3, 1) := by decide +kernel
theorem dX8_subOf_4 : decode cX8_subOf 4 = .ok (.invokevirtual 172, 3) := by decide +kernel
theorem dX8_subOf_7 : decode cX8_subOf 7 = .ok (.istore 4, 2) := by decide +kernel
theorem dX8_subOf_9 : decode cX8_subOf 9 = .ok (.iload 4, 2) := by decide +kernel
theorem dX8_subOf_11 : decode cX8_subOf 11 = .ok (.iconst (-1), 1) := by decide +kernel
theorem dX8_subOf_12 : decode cX8_subOf 12 = .ok (.if_icmp .ne 7, 3) := by decide +kernel
theorem dX8_subOf_15 : decode cX8_subOf 15 = .ok (.iconst (-1), 1) := by decide +kernel
theorem dX8_subOf_16 : decode cX8_subOf 16 = .ok (.goto 10, 3) := by decide +kernel
theorem dX8_subOf_19 : decode cX8_subOf 19 = .ok (.aload_n 0, 1) := by decide +kernel
theorem dX8_subOf_20 : decode cX8_subOf 20 = .ok (.iload_n 2, 1) := by decide +kernel
theorem dX8_subOf_21 : decode cX8_subOf 21 = .ok (.iload 4, 2) := by decide +kernel
theorem dX8_subOf_23 : decode cX8_subOf 23 = .ok (.invokevirtual 175, 3) := by decide +kernel
theorem dX8_subOf_26 : decode cX8_subOf 26 = .ok (.ireturn, 1) := by decide +kernel
theorem dX8_rulingOf_0 : decode cX8_rulingOf 0 = .ok (.iconst (-1), 1) := by decide +kernel
theorem dX8_rulingOf_1 : decode cX8_rulingOf 1 = .ok (.istore_n 3, 1) := by decide +kernel
theorem dX8_rulingOf_2 : decode cX8_rulingOf 2 = .ok (.iconst 0, 1) := by decide +kernel
theorem dX8_rulingOf_3 : decode cX8_rulingOf 3 = .ok (.istore 4, 2) := by decide +kernel
theorem dX8_rulingOf_5 : decode cX8_rulingOf 5 = .ok (.iload 4, 2) := by decide +kernel
theorem dX8_rulingOf_7 : decode cX8_rulingOf 7 = .ok (.aload_n 0, 1) := by decide +kernel
theorem dX8_rulingOf_8 : decode cX8_rulingOf 8 = .ok (.getfield 74, 3) := by decide +kernel
theorem dX8_rulingOf_11 : decode cX8_rulingOf 11 = .ok (.iconst 1, 1) := by decide +kernel
theorem dX8_rulingOf_12 : decode cX8_rulingOf 12 = .ok (.iaload, 1) := by decide +kernel
theorem dX8_rulingOf_13 : decode cX8_rulingOf 13 = .ok (.if_icmp .ge 47, 3) := by decide +kernel
theorem dX8_rulingOf_16 : decode cX8_rulingOf 16 = .ok (.aload_n 0, 1) := by decide +kernel
theorem dX8_rulingOf_17 : decode cX8_rulingOf 17 = .ok (.iload_n 1, 1) := by decide +kernel
theorem dX8_rulingOf_18 : decode cX8_rulingOf 18 = .ok (.iload 4, 2) := by decide +kernel
theorem dX8_rulingOf_20 : decode cX8_rulingOf 20 = .ok (.iload_n 2, 1) := by decide +kernel
theorem dX8_rulingOf_21 : decode cX8_rulingOf 21 = .ok (.invokevirtual 178, 3) := by decide +kernel
theorem dX8_rulingOf_24 : decode cX8_rulingOf 24 = .ok (.iconst (-1), 1) := by decide +kernel
theorem dX8_rulingOf_25 : decode cX8_rulingOf 25 = .ok (.if_icmp .eq 29, 3) := by decide +kernel
theorem dX8_rulingOf_28 : decode cX8_rulingOf 28 = .ok (.iload_n 3, 1) := by decide +kernel
theorem dX8_rulingOf_29 : decode cX8_rulingOf 29 = .ok (.iconst (-1), 1) := by decide +kernel
theorem dX8_rulingOf_30 : decode cX8_rulingOf 30 = .ok (.if_icmp .eq 21, 3) := by decide +kernel
theorem dX8_rulingOf_33 : decode cX8_rulingOf 33 = .ok (.aload_n 0, 1) := by decide +kernel
theorem dX8_rulingOf_34 : decode cX8_rulingOf 34 = .ok (.iload_n 1, 1) := by decide +kernel
theorem dX8_rulingOf_35 : decode cX8_rulingOf 35 = .ok (.iload 4, 2) := by decide +kernel
theorem dX8_rulingOf_37 : decode cX8_rulingOf 37 = .ok (.iload_n 2, 1) := by decide +kernel
theorem dX8_rulingOf_38 : decode cX8_rulingOf 38 = .ok (.invokevirtual 178, 3) := by decide +kernel
theorem dX8_rulingOf_41 : decode cX8_rulingOf 41 = .ok (.aload_n 0, 1) := by decide +kernel
theorem dX8_rulingOf_42 : decode cX8_rulingOf 42 = .ok (.iload_n 1, 1) := by decide +kernel
theorem dX8_rulingOf_43 : decode cX8_rulingOf 43 = .ok (.iload_n 3, 1) := by decide +kernel
theorem dX8_rulingOf_44 : decode cX8_rulingOf 44 = .ok (.iload_n 2, 1) := by decide +kernel
theorem dX8_rulingOf_45 : decode cX8_rulingOf 45 = .ok (.invokevirtual 178, 3) := by decide +kernel
theorem dX8_rulingOf_48 : decode cX8_rulingOf 48 = .ok (.if_icmp .le 6, 3) := by decide +kernel
theorem dX8_rulingOf_51 : decode cX8_rulingOf 51 = .ok (.iload 4, 2) := by decide +kernel
theorem dX8_rulingOf_53 : decode cX8_rulingOf 53 = .ok (.istore_n 3, 1) := by decide +kernel
theorem dX8_rulingOf_54 : decode cX8_rulingOf 54 = .ok (.iinc 4 1, 3) := by decide +kernel
theorem dX8_rulingOf_57 : decode cX8_rulingOf 57 = .ok (.goto (-52), 3) := by decide +kernel
theorem dX8_rulingOf_60 : decode cX8_rulingOf 60 = .ok (.iload_n 3, 1) := by decide +kernel
theorem dX8_rulingOf_61 : decode cX8_rulingOf 61 = .ok (.ireturn, 1) := by decide +kernel
theorem dX8_indexOf_0 : decode cX8_indexOf 0 = .ok (.aload_n 0, 1) := by decide +kernel
theorem dX8_indexOf_1 : decode cX8_indexOf 1 = .ok (.iload_n 1, 1) := by decide +kernel
theorem dX8_indexOf_2 : decode cX8_indexOf 2 = .ok (.iload_n 2, 1) := by decide +kernel
theorem dX8_indexOf_3 : decode cX8_indexOf 3 = .ok (.invokevirtual 181, 3) := by decide +kernel
theorem dX8_indexOf_6 : decode cX8_indexOf 6 = .ok (.istore_n 3, 1) := by decide +kernel
theorem dX8_indexOf_7 : decode cX8_indexOf 7 = .ok (.iload_n 3, 1) := by decide +kernel
theorem dX8_indexOf_8 : decode cX8_indexOf 8 = .ok (.iconst (-1), 1) := by decide +kernel
theorem dX8_indexOf_9 : decode cX8_indexOf 9 = .ok (.if_icmp .ne 7, 3) := by decide +kernel
theorem dX8_indexOf_12 : decode cX8_indexOf 12 = .ok (.iconst (-1), 1) := by decide +kernel
theorem dX8_indexOf_13 : decode cX8_indexOf 13 = .ok (.goto 10, 3) := by decide +kernel
theorem dX8_indexOf_16 : decode cX8_indexOf 16 = .ok (.aload_n 0, 1) := by decide +kernel
theorem dX8_indexOf_17 : decode cX8_indexOf 17 = .ok (.iload_n 1, 1) := by decide +kernel
theorem dX8_indexOf_18 : decode cX8_indexOf 18 = .ok (.iload_n 3, 1) := by decide +kernel
theorem dX8_indexOf_19 : decode cX8_indexOf 19 = .ok (.iload_n 2, 1) := by decide +kernel
theorem dX8_indexOf_20 : decode cX8_indexOf 20 = .ok (.invokevirtual 178, 3) := by decide +kernel
theorem dX8_indexOf_23 : decode cX8_indexOf 23 = .ok (.ireturn, 1) := by decide +kernel
theorem dX8_bandOf_0 : decode cX8_bandOf 0 = .ok (.iconst 0, 1) := by decide +kernel
theorem dX8_bandOf_1 : decode cX8_bandOf 1 = .ok (.istore_n 2, 1) := by decide +kernel
theorem dX8_bandOf_2 : decode cX8_bandOf 2 = .ok (.iconst 0, 1) := by decide +kernel
theorem dX8_bandOf_3 : decode cX8_bandOf 3 = .ok (.istore_n 3, 1) := by decide +kernel
theorem dX8_bandOf_4 : decode cX8_bandOf 4 = .ok (.iload_n 3, 1) := by decide +kernel
theorem dX8_bandOf_5 : decode cX8_bandOf 5 = .ok (.iconst 3, 1) := by decide +kernel
theorem dX8_bandOf_6 : decode cX8_bandOf 6 = .ok (.if_icmp .ge 24, 3) := by decide +kernel
theorem dX8_bandOf_9 : decode cX8_bandOf 9 = .ok (.aload_n 0, 1) := by decide +kernel
theorem dX8_bandOf_10 : decode cX8_bandOf 10 = .ok (.getfield 74, 3) := by decide +kernel
theorem dX8_bandOf_13 : decode cX8_bandOf 13 = .ok (.iconst 4, 1) := by decide +kernel
theorem dX8_bandOf_14 : decode cX8_bandOf 14 = .ok (.iload_n 3, 1) := by decide +kernel
theorem dX8_bandOf_15 : decode cX8_bandOf 15 = .ok (.iadd, 1) := by decide +kernel
theorem dX8_bandOf_16 : decode cX8_bandOf 16 = .ok (.iaload, 1) := by decide +kernel
theorem dX8_bandOf_17 : decode cX8_bandOf 17 = .ok (.iload_n 1, 1) := by decide +kernel
theorem dX8_bandOf_18 : decode cX8_bandOf 18 = .ok (.if_icmp .gt 6, 3) := by decide +kernel
theorem dX8_bandOf_21 : decode cX8_bandOf 21 = .ok (.iinc 2 1, 3) := by decide +kernel
theorem dX8_bandOf_24 : decode cX8_bandOf 24 = .ok (.iinc 3 1, 3) := by decide +kernel
theorem dX8_bandOf_27 : decode cX8_bandOf 27 = .ok (.goto (-23), 3) := by decide +kernel
theorem dX8_bandOf_30 : decode cX8_bandOf 30 = .ok (.iload_n 1, 1) := by decide +kernel
theorem dX8_bandOf_31 : decode cX8_bandOf 31 = .ok (.iconst (-1), 1) := by decide +kernel
theorem dX8_bandOf_32 : decode cX8_bandOf 32 = .ok (.if_icmp .ne 7, 3) := by decide +kernel
theorem dX8_bandOf_35 : decode cX8_bandOf 35 = .ok (.iconst (-1), 1) := by decide +kernel
theorem dX8_bandOf_36 : decode cX8_bandOf 36 = .ok (.goto 4, 3) := by decide +kernel
theorem dX8_bandOf_39 : decode cX8_bandOf 39 = .ok (.iload_n 2, 1) := by decide +kernel
theorem dX8_bandOf_40 : decode cX8_bandOf 40 = .ok (.ireturn, 1) := by decide +kernel
theorem dX8_readMany_0 : decode cX8_readMany 0 = .ok (.iconst 0, 1) := by decide +kernel
theorem dX8_readMany_1 : decode cX8_readMany 1 = .ok (.istore_n 1, 1) := by decide +kernel
theorem dX8_readMany_2 : decode cX8_readMany 2 = .ok (.bipush 50, 2) := by decide +kernel
theorem dX8_readMany_4 : decode cX8_readMany 4 = .ok (.istore_n 2, 1) := by decide +kernel
theorem dX8_readMany_5 : decode cX8_readMany 5 = .ok (.iload_n 2, 1) := by decide +kernel
theorem dX8_readMany_6 : decode cX8_readMany 6 = .ok (.sipush 770, 3) := by decide +kernel
theorem dX8_readMany_9 : decode cX8_readMany 9 = .ok (.if_icmp .ge 21, 3) := by decide +kernel
theorem dX8_readMany_12 : decode cX8_readMany 12 = .ok (.aload_n 0, 1) := by decide +kernel
theorem dX8_readMany_13 : decode cX8_readMany 13 = .ok (.getfield 74, 3) := by decide +kernel
theorem dX8_readMany_16 : decode cX8_readMany 16 = .ok (.iload_n 2, 1) := by decide +kernel
theorem dX8_readMany_17 : decode cX8_readMany 17 = .ok (.iaload, 1) := by decide +kernel
theorem dX8_readMany_18 : decode cX8_readMany 18 = .ok (.ifCond .le 6, 3) := by decide +kernel
theorem dX8_readMany_21 : decode cX8_readMany 21 = .ok (.iinc 1 1, 3) := by decide +kernel
theorem dX8_readMany_24 : decode cX8_readMany 24 = .ok (.iinc 2 1, 3) := by decide +kernel
theorem dX8_readMany_27 : decode cX8_readMany 27 = .ok (.goto (-22), 3) := by decide +kernel
theorem dX8_readMany_30 : decode cX8_readMany 30 = .ok (.iload_n 1, 1) := by decide +kernel
theorem dX8_readMany_31 : decode cX8_readMany 31 = .ok (.ireturn, 1) := by decide +kernel
theorem dX8_now_0 : decode cX8_now 0 = .ok (.iload_n 1, 1) := by decide +kernel
theorem dX8_now_1 : decode cX8_now 1 = .ok (.tableswitch 86 0 6 #[43, 50, 57, 64, 69, 76, 81], 43) := by decide +kernel
theorem dX8_now_44 : decode cX8_now 44 = .ok (.aload_n 0, 1) := by decide +kernel
theorem dX8_now_45 : decode cX8_now 45 = .ok (.getfield 74, 3) := by decide +kernel
theorem dX8_now_48 : decode cX8_now 48 = .ok (.iconst 0, 1) := by decide +kernel
theorem dX8_now_49 : decode cX8_now 49 = .ok (.iaload, 1) := by decide +kernel
theorem dX8_now_50 : decode cX8_now 50 = .ok (.ireturn, 1) := by decide +kernel
theorem dX8_now_51 : decode cX8_now 51 = .ok (.aload_n 0, 1) := by decide +kernel
theorem dX8_now_52 : decode cX8_now 52 = .ok (.getfield 74, 3) := by decide +kernel
theorem dX8_now_55 : decode cX8_now 55 = .ok (.iconst 1, 1) := by decide +kernel
theorem dX8_now_56 : decode cX8_now 56 = .ok (.iaload, 1) := by decide +kernel
theorem dX8_now_57 : decode cX8_now 57 = .ok (.ireturn, 1) := by decide +kernel
theorem dX8_now_58 : decode cX8_now 58 = .ok (.aload_n 0, 1) := by decide +kernel
theorem dX8_now_59 : decode cX8_now 59 = .ok (.getfield 74, 3) := by decide +kernel
theorem dX8_now_62 : decode cX8_now 62 = .ok (.iconst 2, 1) := by decide +kernel
theorem dX8_now_63 : decode cX8_now 63 = .ok (.iaload, 1) := by decide +kernel
theorem dX8_now_64 : decode cX8_now 64 = .ok (.ireturn, 1) := by decide +kernel
theorem dX8_now_65 : decode cX8_now 65 = .ok (.aload_n 0, 1) := by decide +kernel
theorem dX8_now_66 : decode cX8_now 66 = .ok (.invokevirtual 184, 3) := by decide +kernel
theorem dX8_now_69 : decode cX8_now 69 = .ok (.ireturn, 1) := by decide +kernel
theorem dX8_now_70 : decode cX8_now 70 = .ok (.aload_n 0, 1) := by decide +kernel
theorem dX8_now_71 : decode cX8_now 71 = .ok (.getfield 74, 3) := by decide +kernel
theorem dX8_now_74 : decode cX8_now 74 = .ok (.iconst 3, 1) := by decide +kernel
theorem dX8_now_75 : decode cX8_now 75 = .ok (.iaload, 1) := by decide +kernel
theorem dX8_now_76 : decode cX8_now 76 = .ok (.ireturn, 1) := by decide +kernel
theorem dX8_now_77 : decode cX8_now 77 = .ok (.aload_n 0, 1) := by decide +kernel
theorem dX8_now_78 : decode cX8_now 78 = .ok (.getfield 154, 3) := by decide +kernel
theorem dX8_now_81 : decode cX8_now 81 = .ok (.ireturn, 1) := by decide +kernel
theorem dX8_now_82 : decode cX8_now 82 = .ok (.aload_n 0, 1) := by decide +kernel
theorem dX8_now_83 : decode cX8_now 83 = .ok (.getfield 11, 3) := by decide +kernel
theorem dX8_now_86 : decode cX8_now 86 = .ok (.ireturn, 1) := by decide +kernel
theorem dX8_now_87 : decode cX8_now 87 = .ok (.iconst (-1), 1) := by decide +kernel
theorem dX8_now_88 : decode cX8_now 88 = .ok (.ireturn, 1) := by decide +kernel
theorem dX8_read_0 : decode cX8_read 0 = .ok (.aload_n 0, 1) := by decide +kernel
theorem dX8_read_1 : decode cX8_read 1 = .ok (.iload_n 1, 1) := by decide +kernel
theorem dX8_read_2 : decode cX8_read 2 = .ok (.iload_n 2, 1) := by decide +kernel
theorem dX8_read_3 : decode cX8_read 3 = .ok (.iload_n 3, 1) := by decide +kernel
theorem dX8_read_4 : decode cX8_read 4 = .ok (.invokevirtual 188, 3) := by decide +kernel
theorem dX8_read_7 : decode cX8_read 7 = .ok (.ifCond .eq 13, 3) := by decide +kernel
theorem dX8_read_10 : decode cX8_read 10 = .ok (.aload_n 0, 1) := by decide +kernel
theorem dX8_read_11 : decode cX8_read 11 = .ok (.iload_n 1, 1) := by decide +kernel
theorem dX8_read_12 : decode cX8_read 12 = .ok (.iload_n 2, 1) := by decide +kernel
theorem dX8_read_13 : decode cX8_read 13 = .ok (.iload_n 3, 1) := by decide +kernel
theorem dX8_read_14 : decode cX8_read 14 = .ok (.invokevirtual 169, 3) := by decide +kernel
theorem dX8_read_17 : decode cX8_read 17 = .ok (.goto 4, 3) := by decide +kernel
theorem dX8_read_20 : decode cX8_read 20 = .ok (.iconst (-1), 1) := by decide +kernel
theorem dX8_read_21 : decode cX8_read 21 = .ok (.ireturn, 1) := by decide +kernel
theorem dX8_mean_0 : decode cX8_mean 0 = .ok (.aload_n 0, 1) := by decide +kernel
theorem dX8_mean_1 : decode cX8_mean 1 = .ok (.iload_n 1, 1) := by decide +kernel
theorem dX8_mean_2 : decode cX8_mean 2 = .ok (.iload_n 2, 1) := by decide +kernel
theorem dX8_mean_3 : decode cX8_mean 3 = .ok (.iload_n 3, 1) := by decide +kernel
theorem dX8_mean_4 : decode cX8_mean 4 = .ok (.invokevirtual 188, 3) := by decide +kernel
theorem dX8_mean_7 : decode cX8_mean 7 = .ok (.ifCond .eq 13, 3) := by decide +kernel
theorem dX8_mean_10 : decode cX8_mean 10 = .ok (.aload_n 0, 1) := by decide +kernel
theorem dX8_mean_11 : decode cX8_mean 11 = .ok (.iload_n 1, 1) := by decide +kernel
theorem dX8_mean_12 : decode cX8_mean 12 = .ok (.iload_n 2, 1) := by decide +kernel
theorem dX8_mean_13 : decode cX8_mean 13 = .ok (.iload_n 3, 1) := by decide +kernel
theorem dX8_mean_14 : decode cX8_mean 14 = .ok (.invokevirtual 172, 3) := by decide +kernel
theorem dX8_mean_17 : decode cX8_mean 17 = .ok (.goto 4, 3) := by decide +kernel
theorem dX8_mean_20 : decode cX8_mean 20 = .ok (.iconst (-1), 1) := by decide +kernel
theorem dX8_mean_21 : decode cX8_mean 21 = .ok (.ireturn, 1) := by decide +kernel
theorem dX8_scale_0 : decode cX8_scale 0 = .ok (.aload_n 0, 1) := by decide +kernel
theorem dX8_scale_1 : decode cX8_scale 1 = .ok (.iload_n 1, 1) := by decide +kernel
theorem dX8_scale_2 : decode cX8_scale 2 = .ok (.invokevirtual 160, 3) := by decide +kernel
theorem dX8_scale_5 : decode cX8_scale 5 = .ok (.ifCond .eq 23, 3) := by decide +kernel
theorem dX8_scale_8 : decode cX8_scale 8 = .ok (.iload_n 2, 1) := by decide +kernel
theorem dX8_scale_9 : decode cX8_scale 9 = .ok (.iconst 0, 1) := by decide +kernel
theorem dX8_scale_10 : decode cX8_scale 10 = .ok (.sipush 999, 3) := by decide +kernel
theorem dX8_scale_13 : decode cX8_scale 13 = .ok (.invokestatic 89, 3) := by decide +kernel
theorem dX8_scale_16 : decode cX8_scale 16 = .ok (.ifCond .eq 12, 3) := by decide +kernel
theorem dX8_scale_19 : decode cX8_scale 19 = .ok (.aload_n 0, 1) := by decide +kernel
theorem dX8_scale_20 : decode cX8_scale 20 = .ok (.iload_n 1, 1) := by decide +kernel
theorem dX8_scale_21 : decode cX8_scale 21 = .ok (.iload_n 2, 1) := by decide +kernel
theorem dX8_scale_22 : decode cX8_scale 22 = .ok (.invokevirtual 175, 3) := by decide +kernel
theorem dX8_scale_25 : decode cX8_scale 25 = .ok (.goto 4, 3) := by decide +kernel
theorem dX8_scale_28 : decode cX8_scale 28 = .ok (.iconst (-1), 1) := by decide +kernel
theorem dX8_scale_29 : decode cX8_scale 29 = .ok (.ireturn, 1) := by decide +kernel
theorem dX8_back_0 : decode cX8_back 0 = .ok (.aload_n 0, 1) := by decide +kernel
theorem dX8_back_1 : decode cX8_back 1 = .ok (.iload_n 1, 1) := by decide +kernel
theorem dX8_back_2 : decode cX8_back 2 = .ok (.invokevirtual 160, 3) := by decide +kernel
theorem dX8_back_5 : decode cX8_back 5 = .ok (.ifCond .eq 14, 3) := by decide +kernel
theorem dX8_back_8 : decode cX8_back 8 = .ok (.iload_n 2, 1) := by decide +kernel
theorem dX8_back_9 : decode cX8_back 9 = .ok (.iconst 0, 1) := by decide +kernel
theorem dX8_back_10 : decode cX8_back 10 = .ok (.sipush 500, 3) := by decide +kernel
theorem dX8_back_13 : decode cX8_back 13 = .ok (.invokestatic 89, 3) := by decide +kernel
theorem dX8_back_16 : decode cX8_back 16 = .ok (.ifCond .ne 5, 3) := by decide +kernel
theorem dX8_back_19 : decode cX8_back 19 = .ok (.iconst (-1), 1) := by decide +kernel
theorem dX8_back_20 : decode cX8_back 20 = .ok (.ireturn, 1) := by decide +kernel
theorem dX8_back_21 : decode cX8_back 21 = .ok (.iconst 0, 1) := by decide +kernel
theorem dX8_back_22 : decode cX8_back 22 = .ok (.istore_n 3, 1) := by decide +kernel
theorem dX8_back_23 : decode cX8_back 23 = .ok (.iload_n 3, 1) := by decide +kernel
theorem dX8_back_24 : decode cX8_back 24 = .ok (.sipush 999, 3) := by decide +kernel
theorem dX8_back_27 : decode cX8_back 27 = .ok (.if_icmp .gt 21, 3) := by decide +kernel
theorem dX8_back_30 : decode cX8_back 30 = .ok (.aload_n 0, 1) := by decide +kernel
theorem dX8_back_31 : decode cX8_back 31 = .ok (.iload_n 1, 1) := by decide +kernel
theorem dX8_back_32 : decode cX8_back 32 = .ok (.iload_n 3, 1) := by decide +kernel
theorem dX8_back_33 : decode cX8_back 33 = .ok (.invokevirtual 175, 3) := by decide +kernel
theorem dX8_back_36 : decode cX8_back 36 = .ok (.iload_n 2, 1) := by decide +kernel
theorem dX8_back_37 : decode cX8_back 37 = .ok (.if_icmp .lt 5, 3) := by decide +kernel
theorem dX8_back_40 : decode cX8_back 40 = .ok (.iload_n 3, 1) := by decide +kernel
theorem dX8_back_41 : decode cX8_back 41 = .ok (.ireturn, 1) := by decide +kernel
theorem dX8_back_42 : decode cX8_back 42 = .ok (.iinc 3 1, 3) := by decide +kernel
theorem dX8_back_45 : decode cX8_back 45 = .ok (.goto (-22), 3) := by decide +kernel
theorem dX8_back_48 : decode cX8_back 48 = .ok (.bipush (-2), 2) := by decide +kernel
theorem dX8_back_50 : decode cX8_back 50 = .ok (.ireturn, 1) := by decide +kernel
theorem dX8_sub_0 : decode cX8_sub 0 = .ok (.aload_n 0, 1) := by decide +kernel
theorem dX8_sub_1 : decode cX8_sub 1 = .ok (.iload_n 1, 1) := by decide +kernel
theorem dX8_sub_2 : decode cX8_sub 2 = .ok (.iload_n 2, 1) := by decide +kernel
theorem dX8_sub_3 : decode cX8_sub 3 = .ok (.iload_n 3, 1) := by decide +kernel
theorem dX8_sub_4 : decode cX8_sub 4 = .ok (.invokevirtual 188, 3) := by decide +kernel
theorem dX8_sub_7 : decode cX8_sub 7 = .ok (.ifCond .eq 13, 3) := by decide +kernel
theorem dX8_sub_10 : decode cX8_sub 10 = .ok (.aload_n 0, 1) := by decide +kernel
theorem dX8_sub_11 : decode cX8_sub 11 = .ok (.iload_n 1, 1) := by decide +kernel
theorem dX8_sub_12 : decode cX8_sub 12 = .ok (.iload_n 2, 1) := by decide +kernel
theorem dX8_sub_13 : decode cX8_sub 13 = .ok (.iload_n 3, 1) := by decide +kernel
theorem dX8_sub_14 : decode cX8_sub 14 = .ok (.invokevirtual 178, 3) := by decide +kernel
theorem dX8_sub_17 : decode cX8_sub 17 = .ok (.goto 4, 3) := by decide +kernel
theorem dX8_sub_20 : decode cX8_sub 20 = .ok (.iconst (-1), 1) := by decide +kernel
theorem dX8_sub_21 : decode cX8_sub 21 = .ok (.ireturn, 1) := by decide +kernel
theorem dX8_index_0 : decode cX8_index 0 = .ok (.aload_n 0, 1) := by decide +kernel
theorem dX8_index_1 : decode cX8_index 1 = .ok (.iload_n 1, 1) := by decide +kernel
theorem dX8_index_2 : decode cX8_index 2 = .ok (.invokevirtual 157, 3) := by decide +kernel
theorem dX8_index_5 : decode cX8_index 5 = .ok (.ifCond .eq 11, 3) := by decide +kernel
theorem dX8_index_8 : decode cX8_index 8 = .ok (.aload_n 0, 1) := by decide +kernel
theorem dX8_index_9 : decode cX8_index 9 = .ok (.iload_n 2, 1) := by decide +kernel
theorem dX8_index_10 : decode cX8_index 10 = .ok (.invokevirtual 162, 3) := by decide +kernel
theorem dX8_index_13 : decode cX8_index 13 = .ok (.ifCond .ne 5, 3) := by decide +kernel
theorem dX8_index_16 : decode cX8_index 16 = .ok (.iconst (-1), 1) := by decide +kernel
theorem dX8_index_17 : decode cX8_index 17 = .ok (.ireturn, 1) := by decide +kernel
theorem dX8_index_18 : decode cX8_index 18 = .ok (.iload_n 3, 1) := by decide +kernel
theorem dX8_index_19 : decode cX8_index 19 = .ok (.ifCond .ne 12, 3) := by decide +kernel
theorem dX8_index_22 : decode cX8_index 22 = .ok (.aload_n 0, 1) := by decide +kernel
theorem dX8_index_23 : decode cX8_index 23 = .ok (.iload_n 1, 1) := by decide +kernel
theorem dX8_index_24 : decode cX8_index 24 = .ok (.iload_n 2, 1) := by decide +kernel
theorem dX8_index_25 : decode cX8_index 25 = .ok (.invokevirtual 191, 3) := by decide +kernel
theorem dX8_index_28 : decode cX8_index 28 = .ok (.goto 36, 3) := by decide +kernel
theorem dX8_index_31 : decode cX8_index 31 = .ok (.iload_n 3, 1) := by decide +kernel
theorem dX8_index_32 : decode cX8_index 32 = .ok (.iconst 1, 1) := by decide +kernel
theorem dX8_index_33 : decode cX8_index 33 = .ok (.if_icmp .ne 12, 3) := by decide +kernel
theorem dX8_index_36 : decode cX8_index 36 = .ok (.aload_n 0, 1) := by decide +kernel
theorem dX8_index_37 : decode cX8_index 37 = .ok (.iload_n 1, 1) := by decide +kernel
theorem dX8_index_38 : decode cX8_index 38 = .ok (.iload_n 2, 1) := by decide +kernel
theorem dX8_index_39 : decode cX8_index 39 = .ok (.invokevirtual 181, 3) := by decide +kernel
theorem dX8_index_42 : decode cX8_index 42 = .ok (.goto 22, 3) := by decide +kernel
theorem dX8_index_45 : decode cX8_index 45 = .ok (.iload_n 3, 1) := by decide +kernel
theorem dX8_index_46 : decode cX8_index 46 = .ok (.iconst 2, 1) := by decide +kernel
theorem dX8_index_47 : decode cX8_index 47 = .ok (.if_icmp .ne 16, 3) := by decide +kernel
theorem dX8_index_50 : decode cX8_index 50 = .ok (.aload_n 0, 1) := by decide +kernel
theorem dX8_index_51 : decode cX8_index 51 = .ok (.aload_n 0, 1) := by decide +kernel
theorem dX8_index_52 : decode cX8_index 52 = .ok (.iload_n 1, 1) := by decide +kernel
theorem dX8_index_53 : decode cX8_index 53 = .ok (.iload_n 2, 1) := by decide +kernel
theorem dX8_index_54 : decode cX8_index 54 = .ok (.invokevirtual 191, 3) := by decide +kernel
theorem dX8_index_57 : decode cX8_index 57 = .ok (.invokevirtual 194, 3) := by decide +kernel
theorem dX8_index_60 : decode cX8_index 60 = .ok (.goto 4, 3) := by decide +kernel
theorem dX8_index_63 : decode cX8_index 63 = .ok (.iconst (-1), 1) := by decide +kernel
theorem dX8_index_64 : decode cX8_index 64 = .ok (.ireturn, 1) := by decide +kernel
theorem dX8_district_0 : decode cX8_district 0 = .ok (.iload_n 1, 1) := by decide +kernel
theorem dX8_district_1 : decode cX8_district 1 = .ok (.iconst 0, 1) := by decide +kernel
theorem dX8_district_2 : decode cX8_district 2 = .ok (.iconst 2, 1) := by decide +kernel
theorem dX8_district_3 : decode cX8_district 3 = .ok (.invokestatic 89, 3) := by decide +kernel
theorem dX8_district_6 : decode cX8_district 6 = .ok (.ifCond .eq 11, 3) := by decide +kernel
theorem dX8_district_9 : decode cX8_district 9 = .ok (.aload_n 0, 1) := by decide +kernel
theorem dX8_district_10 : decode cX8_district 10 = .ok (.iload_n 2, 1) := by decide +kernel
theorem dX8_district_11 : decode cX8_district 11 = .ok (.invokevirtual 162, 3) := by decide +kernel
theorem dX8_district_14 : decode cX8_district 14 = .ok (.ifCond .ne 5, 3) := by decide +kernel
theorem dX8_district_17 : decode cX8_district 17 = .ok (.iconst (-1), 1) := by decide +kernel
theorem dX8_district_18 : decode cX8_district 18 = .ok (.ireturn, 1) := by decide +kernel
theorem dX8_district_19 : decode cX8_district 19 = .ok (.iconst (-1), 1) := by decide +kernel
theorem dX8_district_20 : decode cX8_district 20 = .ok (.istore 4, 2) := by decide +kernel
theorem dX8_district_22 : decode cX8_district 22 = .ok (.iconst 0, 1) := by decide +kernel
theorem dX8_district_23 : decode cX8_district 23 = .ok (.istore 5, 2) := by decide +kernel
theorem dX8_district_25 : decode cX8_district 25 = .ok (.iconst 0, 1) := by decide +kernel
theorem dX8_district_26 : decode cX8_district 26 = .ok (.istore 6, 2) := by decide +kernel
theorem dX8_district_28 : decode cX8_district 28 = .ok (.iload 6, 2) := by decide +kernel
theorem dX8_district_30 : decode cX8_district 30 = .ok (.aload_n 0, 1) := by decide +kernel
theorem dX8_district_31 : decode cX8_district 31 = .ok (.getfield 74, 3) := by decide +kernel
theorem dX8_district_34 : decode cX8_district 34 = .ok (.iconst 2, 1) := by decide +kernel
theorem dX8_district_35 : decode cX8_district 35 = .ok (.iaload, 1) := by decide +kernel
theorem dX8_district_36 : decode cX8_district 36 = .ok (.if_icmp .ge 67, 3) := by decide +kernel
theorem dX8_district_39 : decode cX8_district 39 = .ok (.aload_n 0, 1) := by decide +kernel
theorem dX8_district_40 : decode cX8_district 40 = .ok (.getfield 74, 3) := by decide +kernel
theorem dX8_district_43 : decode cX8_district 43 = .ok (.bipush 46, 2) := by decide +kernel
theorem dX8_district_45 : decode cX8_district 45 = .ok (.iload 6, 2) := by decide +kernel
theorem dX8_district_47 : decode cX8_district 47 = .ok (.iadd, 1) := by decide +kernel
theorem dX8_district_48 : decode cX8_district 48 = .ok (.iaload, 1) := by decide +kernel
theorem dX8_district_49 : decode cX8_district 49 = .ok (.iload_n 1, 1) := by decide +kernel
theorem dX8_district_50 : decode cX8_district 50 = .ok (.if_icmp .ne 47, 3) := by decide +kernel
theorem dX8_district_53 : decode cX8_district 53 = .ok (.aload_n 0, 1) := by decide +kernel
theorem dX8_district_54 : decode cX8_district 54 = .ok (.iload 6, 2) := by decide +kernel
theorem dX8_district_56 : decode cX8_district 56 = .ok (.iload_n 2, 1) := by decide +kernel
theorem dX8_district_57 : decode cX8_district 57 = .ok (.invokevirtual 191, 3) := by decide +kernel
theorem dX8_district_60 : decode cX8_district 60 = .ok (.iconst (-1), 1) := by decide +kernel
theorem dX8_district_61 : decode cX8_district 61 = .ok (.if_icmp .ne 6, 3) := by decide +kernel
theorem dX8_district_64 : decode cX8_district 64 = .ok (.goto 33, 3) := by decide +kernel
theorem dX8_district_67 : decode cX8_district 67 = .ok (.iinc 5 1, 3) := by decide +kernel
theorem dX8_district_70 : decode cX8_district 70 = .ok (.iload 4, 2) := by decide +kernel
theorem dX8_district_72 : decode cX8_district 72 = .ok (.iconst (-1), 1) := by decide +kernel
theorem dX8_district_73 : decode cX8_district 73 = .ok (.if_icmp .eq 20, 3) := by decide +kernel
theorem dX8_district_76 : decode cX8_district 76 = .ok (.aload_n 0, 1) := by decide +kernel
theorem dX8_district_77 : decode cX8_district 77 = .ok (.iload 6, 2) := by decide +kernel
theorem dX8_district_79 : decode cX8_district 79 = .ok (.iload_n 2, 1) := by decide +kernel
theorem dX8_district_80 : decode cX8_district 80 = .ok (.invokevirtual 191, 3) := by decide +kernel
theorem dX8_district_83 : decode cX8_district 83 = .ok (.aload_n 0, 1) := by decide +kernel
theorem dX8_district_84 : decode cX8_district 84 = .ok (.iload 4, 2) := by decide +kernel
theorem dX8_district_86 : decode cX8_district 86 = .ok (.iload_n 2, 1) := by decide +kernel
theorem dX8_district_87 : decode cX8_district 87 = .ok (.invokevirtual 191, 3) := by decide +kernel
theorem dX8_district_90 : decode cX8_district 90 = .ok (.if_icmp .le 7, 3) := by decide +kernel
theorem dX8_district_93 : decode cX8_district 93 = .ok (.iload 6, 2) := by decide +kernel
theorem dX8_district_95 : decode cX8_district 95 = .ok (.istore 4, 2) := by decide +kernel
theorem dX8_district_97 : decode cX8_district 97 = .ok (.iinc 6 1, 3) := by decide +kernel
theorem dX8_district_100 : decode cX8_district 100 = .ok (.goto (-72), 3) := by decide +kernel
theorem dX8_district_103 : decode cX8_district 103 = .ok (.iload_n 3, 1) := by decide +kernel
theorem dX8_district_104 : decode cX8_district 104 = .ok (.iconst 3, 1) := by decide +kernel
theorem dX8_district_105 : decode cX8_district 105 = .ok (.if_icmp .ne 6, 3) := by decide +kernel
theorem dX8_district_108 : decode cX8_district 108 = .ok (.iload 5, 2) := by decide +kernel
theorem dX8_district_110 : decode cX8_district 110 = .ok (.ireturn, 1) := by decide +kernel
theorem dX8_district_111 : decode cX8_district 111 = .ok (.iload 4, 2) := by decide +kernel
theorem dX8_district_113 : decode cX8_district 113 = .ok (.iconst (-1), 1) := by decide +kernel
theorem dX8_district_114 : decode cX8_district 114 = .ok (.if_icmp .ne 5, 3) := by decide +kernel
theorem dX8_district_117 : decode cX8_district 117 = .ok (.iconst (-1), 1) := by decide +kernel
theorem dX8_district_118 : decode cX8_district 118 = .ok (.ireturn, 1) := by decide +kernel
theorem dX8_district_119 : decode cX8_district 119 = .ok (.iload_n 3, 1) := by decide +kernel
theorem dX8_district_120 : decode cX8_district 120 = .ok (.ifCond .ne 13, 3) := by decide +kernel
theorem dX8_district_123 : decode cX8_district 123 = .ok (.aload_n 0, 1) := by decide +kernel
theorem dX8_district_124 : decode cX8_district 124 = .ok (.iload 4, 2) := by decide +kernel
theorem dX8_district_126 : decode cX8_district 126 = .ok (.iload_n 2, 1) := by decide +kernel
theorem dX8_district_127 : decode cX8_district 127 = .ok (.invokevirtual 191, 3) := by decide +kernel
theorem dX8_district_130 : decode cX8_district 130 = .ok (.goto 33, 3) := by decide +kernel
theorem dX8_district_133 : decode cX8_district 133 = .ok (.iload_n 3, 1) := by decide +kernel
theorem dX8_district_134 : decode cX8_district 134 = .ok (.iconst 1, 1) := by decide +kernel
theorem dX8_district_135 : decode cX8_district 135 = .ok (.if_icmp .ne 8, 3) := by decide +kernel
theorem dX8_district_138 : decode cX8_district 138 = .ok (.iload 4, 2) := by decide +kernel
theorem dX8_district_140 : decode cX8_district 140 = .ok (.goto 23, 3) := by decide +kernel
theorem dX8_district_143 : decode cX8_district 143 = .ok (.iload_n 3, 1) := by decide +kernel
theorem dX8_district_144 : decode cX8_district 144 = .ok (.iconst 2, 1) := by decide +kernel
theorem dX8_district_145 : decode cX8_district 145 = .ok (.if_icmp .ne 17, 3) := by decide +kernel
theorem dX8_district_148 : decode cX8_district 148 = .ok (.aload_n 0, 1) := by decide +kernel
theorem dX8_district_149 : decode cX8_district 149 = .ok (.aload_n 0, 1) := by decide +kernel
theorem dX8_district_150 : decode cX8_district 150 = .ok (.iload 4, 2) := by decide +kernel
theorem dX8_district_152 : decode cX8_district 152 = .ok (.iload_n 2, 1) := by decide +kernel
theorem dX8_district_153 : decode cX8_district 153 = .ok (.invokevirtual 191, 3) := by decide +kernel
theorem dX8_district_156 : decode cX8_district 156 = .ok (.invokevirtual 194, 3) := by decide +kernel
theorem dX8_district_159 : decode cX8_district 159 = .ok (.goto 4, 3) := by decide +kernel
theorem dX8_district_162 : decode cX8_district 162 = .ok (.iconst (-1), 1) := by decide +kernel
theorem dX8_district_163 : decode cX8_district 163 = .ok (.ireturn, 1) := by decide +kernel
theorem dX8_lasts_0 : decode cX8_lasts 0 = .ok (.aload_n 0, 1) := by decide +kernel
theorem dX8_lasts_1 : decode cX8_lasts 1 = .ok (.iload_n 1, 1) := by decide +kernel
theorem dX8_lasts_2 : decode cX8_lasts 2 = .ok (.invokevirtual 157, 3) := by decide +kernel
theorem dX8_lasts_5 : decode cX8_lasts 5 = .ok (.ifCond .eq 20, 3) := by decide +kernel
theorem dX8_lasts_8 : decode cX8_lasts 8 = .ok (.aload_n 0, 1) := by decide +kernel
theorem dX8_lasts_9 : decode cX8_lasts 9 = .ok (.iload_n 2, 1) := by decide +kernel
theorem dX8_lasts_10 : decode cX8_lasts 10 = .ok (.invokevirtual 162, 3) := by decide +kernel
theorem dX8_lasts_13 : decode cX8_lasts 13 = .ok (.ifCond .eq 12, 3) := by decide +kernel
theorem dX8_lasts_16 : decode cX8_lasts 16 = .ok (.iload_n 3, 1) := by decide +kernel
theorem dX8_lasts_17 : decode cX8_lasts 17 = .ok (.iconst 1, 1) := by decide +kernel
theorem dX8_lasts_18 : decode cX8_lasts 18 = .ok (.iconst 3, 1) := by decide +kernel
theorem dX8_lasts_19 : decode cX8_lasts 19 = .ok (.invokestatic 89, 3) := by decide +kernel
theorem dX8_lasts_22 : decode cX8_lasts 22 = .ok (.ifCond .ne 5, 3) := by decide +kernel
theorem dX8_lasts_25 : decode cX8_lasts 25 = .ok (.iconst (-1), 1) := by decide +kernel
theorem dX8_lasts_26 : decode cX8_lasts 26 = .ok (.ireturn, 1) := by decide +kernel
theorem dX8_lasts_27 : decode cX8_lasts 27 = .ok (.iconst 0, 1) := by decide +kernel
theorem dX8_lasts_28 : decode cX8_lasts 28 = .ok (.istore 4, 2) := by decide +kernel
theorem dX8_lasts_30 : decode cX8_lasts 30 = .ok (.iload 4, 2) := by decide +kernel
theorem dX8_lasts_32 : decode cX8_lasts 32 = .ok (.iload_n 2, 1) := by decide +kernel
theorem dX8_lasts_33 : decode cX8_lasts 33 = .ok (.if_icmp .gt 26, 3) := by decide +kernel
theorem dX8_lasts_36 : decode cX8_lasts 36 = .ok (.aload_n 0, 1) := by decide +kernel
theorem dX8_lasts_37 : decode cX8_lasts 37 = .ok (.aload_n 0, 1) := by decide +kernel
theorem dX8_lasts_38 : decode cX8_lasts 38 = .ok (.iload_n 1, 1) := by decide +kernel
theorem dX8_lasts_39 : decode cX8_lasts 39 = .ok (.iload_n 2, 1) := by decide +kernel
theorem dX8_lasts_40 : decode cX8_lasts 40 = .ok (.iload 4, 2) := by decide +kernel
theorem dX8_lasts_42 : decode cX8_lasts 42 = .ok (.isub, 1) := by decide +kernel
theorem dX8_lasts_43 : decode cX8_lasts 43 = .ok (.invokevirtual 191, 3) := by decide +kernel
theorem dX8_lasts_46 : decode cX8_lasts 46 = .ok (.invokevirtual 194, 3) := by decide +kernel
theorem dX8_lasts_49 : decode cX8_lasts 49 = .ok (.iload_n 3, 1) := by decide +kernel
theorem dX8_lasts_50 : decode cX8_lasts 50 = .ok (.if_icmp .lt 9, 3) := by decide +kernel
theorem dX8_lasts_53 : decode cX8_lasts 53 = .ok (.iinc 4 1, 3) := by decide +kernel
theorem dX8_lasts_56 : decode cX8_lasts 56 = .ok (.goto (-26), 3) := by decide +kernel
theorem dX8_lasts_59 : decode cX8_lasts 59 = .ok (.iload 4, 2) := by decide +kernel
theorem dX8_lasts_61 : decode cX8_lasts 61 = .ok (.ireturn, 1) := by decide +kernel
theorem dX8_worst_0 : decode cX8_worst 0 = .ok (.aload_n 0, 1) := by decide +kernel
theorem dX8_worst_1 : decode cX8_worst 1 = .ok (.iload_n 1, 1) := by decide +kernel
theorem dX8_worst_2 : decode cX8_worst 2 = .ok (.invokevirtual 157, 3) := by decide +kernel
theorem dX8_worst_5 : decode cX8_worst 5 = .ok (.ifCond .eq 19, 3) := by decide +kernel
theorem dX8_worst_8 : decode cX8_worst 8 = .ok (.aload_n 0, 1) := by decide +kernel
theorem dX8_worst_9 : decode cX8_worst 9 = .ok (.iload_n 2, 1) := by decide +kernel
theorem dX8_worst_10 : decode cX8_worst 10 = .ok (.invokevirtual 162, 3) := by decide +kernel
theorem dX8_worst_13 : decode cX8_worst 13 = .ok (.ifCond .eq 11, 3) := by decide +kernel
theorem dX8_worst_16 : decode cX8_worst 16 = .ok (.aload_n 0, 1) := by decide +kernel
theorem dX8_worst_17 : decode cX8_worst 17 = .ok (.iload_n 3, 1) := by decide +kernel
theorem dX8_worst_18 : decode cX8_worst 18 = .ok (.invokevirtual 162, 3) := by decide +kernel
theorem dX8_worst_21 : decode cX8_worst 21 = .ok (.ifCond .ne 5, 3) := by decide +kernel
theorem dX8_worst_24 : decode cX8_worst 24 = .ok (.iconst (-1), 1) := by decide +kernel
theorem dX8_worst_25 : decode cX8_worst 25 = .ok (.ireturn, 1) := by decide +kernel
theorem dX8_worst_26 : decode cX8_worst 26 = .ok (.iconst (-1), 1) := by decide +kernel
theorem dX8_worst_27 : decode cX8_worst 27 = .ok (.istore 4, 2) := by decide +kernel
theorem dX8_worst_29 : decode cX8_worst 29 = .ok (.iload_n 2, 1) := by decide +kernel
theorem dX8_worst_30 : decode cX8_worst 30 = .ok (.istore 5, 2) := by decide +kernel
theorem dX8_worst_32 : decode cX8_worst 32 = .ok (.iload 5, 2) := by decide +kernel
theorem dX8_worst_34 : decode cX8_worst 34 = .ok (.iload_n 3, 1) := by decide +kernel
theorem dX8_worst_35 : decode cX8_worst 35 = .ok (.if_icmp .gt 47, 3) := by decide +kernel
theorem dX8_worst_38 : decode cX8_worst 38 = .ok (.aload_n 0, 1) := by decide +kernel
theorem dX8_worst_39 : decode cX8_worst 39 = .ok (.iload_n 1, 1) := by decide +kernel
theorem dX8_worst_40 : decode cX8_worst 40 = .ok (.iload 5, 2) := by decide +kernel
theorem dX8_worst_42 : decode cX8_worst 42 = .ok (.invokevirtual 191, 3) := by decide +kernel
theorem dX8_worst_45 : decode cX8_worst 45 = .ok (.iconst (-1), 1) := by decide +kernel
end
section
theorem dX8_worst_46 : decode cX8_worst 46 = .ok (.if_icmp .eq 30, 3) := by decide +kernel
theorem dX8_worst_49 : decode cX8_worst 49 = .ok (.iload 4, 2) := by decide +kernel
theorem dX8_worst_51 : decode cX8_worst 51 = .ok (.iconst (-1), 1) := by decide +kernel
theorem dX8_worst_52 : decode cX8_worst 52 = .ok (.if_icmp .eq 20, 3) := by decide +kernel
theorem dX8_worst_55 : decode cX8_worst 55 = .ok (.aload_n 0, 1) := by decide +kernel
theorem dX8_worst_56 : decode cX8_worst 56 = .ok (.iload_n 1, 1) := by decide +kernel
theorem dX8_worst_57 : decode cX8_worst 57 = .ok (.iload 5, 2) := by decide +kernel
theorem dX8_worst_59 : decode cX8_worst 59 = .ok (.invokevirtual 191, 3) := by decide +kernel
theorem dX8_worst_62 : decode cX8_worst 62 = .ok (.aload_n 0, 1) := by decide +kernel
theorem dX8_worst_63 : decode cX8_worst 63 = .ok (.iload_n 1, 1) := by decide +kernel
theorem dX8_worst_64 : decode cX8_worst 64 = .ok (.iload 4, 2) := by decide +kernel
theorem dX8_worst_66 : decode cX8_worst 66 = .ok (.invokevirtual 191, 3) := by decide +kernel
theorem dX8_worst_69 : decode cX8_worst 69 = .ok (.if_icmp .le 7, 3) := by decide +kernel
theorem dX8_worst_72 : decode cX8_worst 72 = .ok (.iload 5, 2) := by decide +kernel
theorem dX8_worst_74 : decode cX8_worst 74 = .ok (.istore 4, 2) := by decide +kernel
theorem dX8_worst_76 : decode cX8_worst 76 = .ok (.iinc 5 1, 3) := by decide +kernel
theorem dX8_worst_79 : decode cX8_worst 79 = .ok (.goto (-47), 3) := by decide +kernel
theorem dX8_worst_82 : decode cX8_worst 82 = .ok (.iload 4, 2) := by decide +kernel
theorem dX8_worst_84 : decode cX8_worst 84 = .ok (.ireturn, 1) := by decide +kernel
theorem dX8_forecast_0 : decode cX8_forecast 0 = .ok (.aload_n 0, 1) := by decide +kernel
theorem dX8_forecast_1 : decode cX8_forecast 1 = .ok (.iload_n 1, 1) := by decide +kernel
theorem dX8_forecast_2 : decode cX8_forecast 2 = .ok (.iload_n 2, 1) := by decide +kernel
theorem dX8_forecast_3 : decode cX8_forecast 3 = .ok (.iload_n 3, 1) := by decide +kernel
theorem dX8_forecast_4 : decode cX8_forecast 4 = .ok (.invokevirtual 188, 3) := by decide +kernel
theorem dX8_forecast_7 : decode cX8_forecast 7 = .ok (.ifCond .ne 5, 3) := by decide +kernel
theorem dX8_forecast_10 : decode cX8_forecast 10 = .ok (.iconst (-1), 1) := by decide +kernel
theorem dX8_forecast_11 : decode cX8_forecast 11 = .ok (.ireturn, 1) := by decide +kernel
theorem dX8_forecast_12 : decode cX8_forecast 12 = .ok (.iconst 0, 1) := by decide +kernel
theorem dX8_forecast_13 : decode cX8_forecast 13 = .ok (.istore 4, 2) := by decide +kernel
theorem dX8_forecast_15 : decode cX8_forecast 15 = .ok (.fconst 0, 1) := by decide +kernel
theorem dX8_forecast_16 : decode cX8_forecast 16 = .ok (.fstore 5, 2) := by decide +kernel
theorem dX8_forecast_18 : decode cX8_forecast 18 = .ok (.aload_n 0, 1) := by decide +kernel
theorem dX8_forecast_19 : decode cX8_forecast 19 = .ok (.getfield 74, 3) := by decide +kernel
theorem dX8_forecast_22 : decode cX8_forecast 22 = .ok (.iconst 3, 1) := by decide +kernel
theorem dX8_forecast_23 : decode cX8_forecast 23 = .ok (.iaload, 1) := by decide +kernel
theorem dX8_forecast_24 : decode cX8_forecast 24 = .ok (.i2f, 1) := by decide +kernel
theorem dX8_forecast_25 : decode cX8_forecast 25 = .ok (.ldc 197, 2) := by decide +kernel
theorem dX8_forecast_27 : decode cX8_forecast 27 = .ok (.fdiv, 1) := by decide +kernel
theorem dX8_forecast_28 : decode cX8_forecast 28 = .ok (.fstore 6, 2) := by decide +kernel
theorem dX8_forecast_30 : decode cX8_forecast 30 = .ok (.iconst 0, 1) := by decide +kernel
theorem dX8_forecast_31 : decode cX8_forecast 31 = .ok (.istore 7, 2) := by decide +kernel
theorem dX8_forecast_33 : decode cX8_forecast 33 = .ok (.iload 7, 2) := by decide +kernel
theorem dX8_forecast_35 : decode cX8_forecast 35 = .ok (.iload_n 3, 1) := by decide +kernel
theorem dX8_forecast_36 : decode cX8_forecast 36 = .ok (.if_icmp .gt 56, 3) := by decide +kernel
theorem dX8_forecast_39 : decode cX8_forecast 39 = .ok (.aload_n 0, 1) := by decide +kernel
theorem dX8_forecast_40 : decode cX8_forecast 40 = .ok (.iload_n 1, 1) := by decide +kernel
theorem dX8_forecast_41 : decode cX8_forecast 41 = .ok (.iload_n 2, 1) := by decide +kernel
theorem dX8_forecast_42 : decode cX8_forecast 42 = .ok (.iload 7, 2) := by decide +kernel
theorem dX8_forecast_44 : decode cX8_forecast 44 = .ok (.invokevirtual 169, 3) := by decide +kernel
theorem dX8_forecast_47 : decode cX8_forecast 47 = .ok (.istore 8, 2) := by decide +kernel
theorem dX8_forecast_49 : decode cX8_forecast 49 = .ok (.iload 8, 2) := by decide +kernel
theorem dX8_forecast_51 : decode cX8_forecast 51 = .ok (.iconst (-1), 1) := by decide +kernel
theorem dX8_forecast_52 : decode cX8_forecast 52 = .ok (.if_icmp .ne 6, 3) := by decide +kernel
theorem dX8_forecast_55 : decode cX8_forecast 55 = .ok (.goto 31, 3) := by decide +kernel
theorem dX8_forecast_58 : decode cX8_forecast 58 = .ok (.iload 4, 2) := by decide +kernel
theorem dX8_forecast_60 : decode cX8_forecast 60 = .ok (.ifCond .eq 18, 3) := by decide +kernel
theorem dX8_forecast_63 : decode cX8_forecast 63 = .ok (.fload 5, 2) := by decide +kernel
theorem dX8_forecast_65 : decode cX8_forecast 65 = .ok (.fload 6, 2) := by decide +kernel
theorem dX8_forecast_67 : decode cX8_forecast 67 = .ok (.iload 8, 2) := by decide +kernel
theorem dX8_forecast_69 : decode cX8_forecast 69 = .ok (.i2f, 1) := by decide +kernel
theorem dX8_forecast_70 : decode cX8_forecast 70 = .ok (.fload 5, 2) := by decide +kernel
theorem dX8_forecast_72 : decode cX8_forecast 72 = .ok (.fsub, 1) := by decide +kernel
theorem dX8_forecast_73 : decode cX8_forecast 73 = .ok (.fmul, 1) := by decide +kernel
theorem dX8_forecast_74 : decode cX8_forecast 74 = .ok (.fadd, 1) := by decide +kernel
theorem dX8_forecast_75 : decode cX8_forecast 75 = .ok (.goto 6, 3) := by decide +kernel
theorem dX8_forecast_78 : decode cX8_forecast 78 = .ok (.iload 8, 2) := by decide +kernel
theorem dX8_forecast_80 : decode cX8_forecast 80 = .ok (.i2f, 1) := by decide +kernel
theorem dX8_forecast_81 : decode cX8_forecast 81 = .ok (.fstore 5, 2) := by decide +kernel
theorem dX8_forecast_83 : decode cX8_forecast 83 = .ok (.iconst 1, 1) := by decide +kernel
theorem dX8_forecast_84 : decode cX8_forecast 84 = .ok (.istore 4, 2) := by decide +kernel
theorem dX8_forecast_86 : decode cX8_forecast 86 = .ok (.iinc 7 1, 3) := by decide +kernel
theorem dX8_forecast_89 : decode cX8_forecast 89 = .ok (.goto (-56), 3) := by decide +kernel
theorem dX8_forecast_92 : decode cX8_forecast 92 = .ok (.iload 4, 2) := by decide +kernel
theorem dX8_forecast_94 : decode cX8_forecast 94 = .ok (.ifCond .eq 9, 3) := by decide +kernel
theorem dX8_forecast_97 : decode cX8_forecast 97 = .ok (.fload 5, 2) := by decide +kernel
theorem dX8_forecast_99 : decode cX8_forecast 99 = .ok (.f2i, 1) := by decide +kernel
theorem dX8_forecast_100 : decode cX8_forecast 100 = .ok (.goto 4, 3) := by decide +kernel
theorem dX8_forecast_103 : decode cX8_forecast 103 = .ok (.iconst (-1), 1) := by decide +kernel
theorem dX8_forecast_104 : decode cX8_forecast 104 = .ok (.ireturn, 1) := by decide +kernel
theorem dX8_keeps_0 : decode cX8_keeps 0 = .ok (.aload_n 0, 1) := by decide +kernel
theorem dX8_keeps_1 : decode cX8_keeps 1 = .ok (.getfield 74, 3) := by decide +kernel
theorem dX8_keeps_4 : decode cX8_keeps 4 = .ok (.iconst 0, 1) := by decide +kernel
theorem dX8_keeps_5 : decode cX8_keeps 5 = .ok (.iaload, 1) := by decide +kernel
theorem dX8_keeps_6 : decode cX8_keeps 6 = .ok (.iconst 1, 1) := by decide +kernel
theorem dX8_keeps_7 : decode cX8_keeps 7 = .ok (.isub, 1) := by decide +kernel
theorem dX8_keeps_8 : decode cX8_keeps 8 = .ok (.istore 4, 2) := by decide +kernel
theorem dX8_keeps_10 : decode cX8_keeps 10 = .ok (.aload_n 0, 1) := by decide +kernel
theorem dX8_keeps_11 : decode cX8_keeps 11 = .ok (.iload_n 1, 1) := by decide +kernel
theorem dX8_keeps_12 : decode cX8_keeps 12 = .ok (.iload_n 2, 1) := by decide +kernel
theorem dX8_keeps_13 : decode cX8_keeps 13 = .ok (.iload 4, 2) := by decide +kernel
theorem dX8_keeps_15 : decode cX8_keeps 15 = .ok (.invokevirtual 188, 3) := by decide +kernel
theorem dX8_keeps_18 : decode cX8_keeps 18 = .ok (.ifCond .eq 12, 3) := by decide +kernel
theorem dX8_keeps_21 : decode cX8_keeps 21 = .ok (.iload_n 3, 1) := by decide +kernel
theorem dX8_keeps_22 : decode cX8_keeps 22 = .ok (.iconst 0, 1) := by decide +kernel
theorem dX8_keeps_23 : decode cX8_keeps 23 = .ok (.iconst 2, 1) := by decide +kernel
theorem dX8_keeps_24 : decode cX8_keeps 24 = .ok (.invokestatic 89, 3) := by decide +kernel
theorem dX8_keeps_27 : decode cX8_keeps 27 = .ok (.ifCond .ne 5, 3) := by decide +kernel
theorem dX8_keeps_30 : decode cX8_keeps 30 = .ok (.iconst (-1), 1) := by decide +kernel
theorem dX8_keeps_31 : decode cX8_keeps 31 = .ok (.ireturn, 1) := by decide +kernel
theorem dX8_keeps_32 : decode cX8_keeps 32 = .ok (.iload_n 1, 1) := by decide +kernel
theorem dX8_keeps_33 : decode cX8_keeps 33 = .ok (.iload_n 2, 1) := by decide +kernel
theorem dX8_keeps_34 : decode cX8_keeps 34 = .ok (.iload 4, 2) := by decide +kernel
theorem dX8_keeps_36 : decode cX8_keeps 36 = .ok (.invokestatic 132, 3) := by decide +kernel
theorem dX8_keeps_39 : decode cX8_keeps 39 = .ok (.istore 5, 2) := by decide +kernel
theorem dX8_keeps_41 : decode cX8_keeps 41 = .ok (.aload_n 0, 1) := by decide +kernel
theorem dX8_keeps_42 : decode cX8_keeps 42 = .ok (.getfield 74, 3) := by decide +kernel
theorem dX8_keeps_45 : decode cX8_keeps 45 = .ok (.iload 5, 2) := by decide +kernel
theorem dX8_keeps_47 : decode cX8_keeps 47 = .ok (.iaload, 1) := by decide +kernel
theorem dX8_keeps_48 : decode cX8_keeps 48 = .ok (.istore 6, 2) := by decide +kernel
theorem dX8_keeps_50 : decode cX8_keeps 50 = .ok (.bipush (-2), 2) := by decide +kernel
theorem dX8_keeps_52 : decode cX8_keeps 52 = .ok (.istore 7, 2) := by decide +kernel
theorem dX8_keeps_54 : decode cX8_keeps 54 = .ok (.sipush 999, 3) := by decide +kernel
theorem dX8_keeps_57 : decode cX8_keeps 57 = .ok (.istore 8, 2) := by decide +kernel
theorem dX8_keeps_59 : decode cX8_keeps 59 = .ok (.iload 8, 2) := by decide +kernel
theorem dX8_keeps_61 : decode cX8_keeps 61 = .ok (.ifCond .lt 59, 3) := by decide +kernel
theorem dX8_keeps_64 : decode cX8_keeps 64 = .ok (.iload 7, 2) := by decide +kernel
theorem dX8_keeps_66 : decode cX8_keeps 66 = .ok (.bipush (-2), 2) := by decide +kernel
theorem dX8_keeps_68 : decode cX8_keeps 68 = .ok (.if_icmp .ne 52, 3) := by decide +kernel
theorem dX8_keeps_71 : decode cX8_keeps 71 = .ok (.aload_n 0, 1) := by decide +kernel
theorem dX8_keeps_72 : decode cX8_keeps 72 = .ok (.getfield 74, 3) := by decide +kernel
theorem dX8_keeps_75 : decode cX8_keeps 75 = .ok (.iload 5, 2) := by decide +kernel
theorem dX8_keeps_77 : decode cX8_keeps 77 = .ok (.iload 8, 2) := by decide +kernel
theorem dX8_keeps_79 : decode cX8_keeps 79 = .ok (.iconst 1, 1) := by decide +kernel
theorem dX8_keeps_80 : decode cX8_keeps 80 = .ok (.iadd, 1) := by decide +kernel
theorem dX8_keeps_81 : decode cX8_keeps 81 = .ok (.iastore, 1) := by decide +kernel
theorem dX8_keeps_82 : decode cX8_keeps 82 = .ok (.aload_n 0, 1) := by decide +kernel
theorem dX8_keeps_83 : decode cX8_keeps 83 = .ok (.iload_n 1, 1) := by decide +kernel
theorem dX8_keeps_84 : decode cX8_keeps 84 = .ok (.iload 4, 2) := by decide +kernel
theorem dX8_keeps_86 : decode cX8_keeps 86 = .ok (.invokevirtual 191, 3) := by decide +kernel
theorem dX8_keeps_89 : decode cX8_keeps 89 = .ok (.istore 9, 2) := by decide +kernel
theorem dX8_keeps_91 : decode cX8_keeps 91 = .ok (.iload 9, 2) := by decide +kernel
theorem dX8_keeps_93 : decode cX8_keeps 93 = .ok (.iconst (-1), 1) := by decide +kernel
theorem dX8_keeps_94 : decode cX8_keeps 94 = .ok (.if_icmp .eq 20, 3) := by decide +kernel
theorem dX8_keeps_97 : decode cX8_keeps 97 = .ok (.iload 9, 2) := by decide +kernel
theorem dX8_keeps_99 : decode cX8_keeps 99 = .ok (.aload_n 0, 1) := by decide +kernel
theorem dX8_keeps_100 : decode cX8_keeps 100 = .ok (.getfield 74, 3) := by decide +kernel
theorem dX8_keeps_103 : decode cX8_keeps 103 = .ok (.iconst 4, 1) := by decide +kernel
theorem dX8_keeps_104 : decode cX8_keeps 104 = .ok (.iload_n 3, 1) := by decide +kernel
theorem dX8_keeps_105 : decode cX8_keeps 105 = .ok (.iadd, 1) := by decide +kernel
theorem dX8_keeps_106 : decode cX8_keeps 106 = .ok (.iaload, 1) := by decide +kernel
theorem dX8_keeps_107 : decode cX8_keeps 107 = .ok (.if_icmp .ge 7, 3) := by decide +kernel
theorem dX8_keeps_110 : decode cX8_keeps 110 = .ok (.iload 8, 2) := by decide +kernel
theorem dX8_keeps_112 : decode cX8_keeps 112 = .ok (.istore 7, 2) := by decide +kernel
theorem dX8_keeps_114 : decode cX8_keeps 114 = .ok (.iinc 8 (-1), 3) := by decide +kernel
theorem dX8_keeps_117 : decode cX8_keeps 117 = .ok (.goto (-58), 3) := by decide +kernel
theorem dX8_keeps_120 : decode cX8_keeps 120 = .ok (.aload_n 0, 1) := by decide +kernel
theorem dX8_keeps_121 : decode cX8_keeps 121 = .ok (.getfield 74, 3) := by decide +kernel
theorem dX8_keeps_124 : decode cX8_keeps 124 = .ok (.iload 5, 2) := by decide +kernel
theorem dX8_keeps_126 : decode cX8_keeps 126 = .ok (.iload 6, 2) := by decide +kernel
theorem dX8_keeps_128 : decode cX8_keeps 128 = .ok (.iastore, 1) := by decide +kernel
theorem dX8_keeps_129 : decode cX8_keeps 129 = .ok (.iload 7, 2) := by decide +kernel
theorem dX8_keeps_131 : decode cX8_keeps 131 = .ok (.ireturn, 1) := by decide +kernel
theorem dX8_canCorrect_0 : decode cX8_canCorrect 0 = .ok (.aload_n 0, 1) := by decide +kernel
theorem dX8_canCorrect_1 : decode cX8_canCorrect 1 = .ok (.iload_n 1, 1) := by decide +kernel
theorem dX8_canCorrect_2 : decode cX8_canCorrect 2 = .ok (.iload_n 2, 1) := by decide +kernel
theorem dX8_canCorrect_3 : decode cX8_canCorrect 3 = .ok (.iload_n 3, 1) := by decide +kernel
theorem dX8_canCorrect_4 : decode cX8_canCorrect 4 = .ok (.invokevirtual 188, 3) := by decide +kernel
theorem dX8_canCorrect_7 : decode cX8_canCorrect 7 = .ok (.ifCond .eq 19, 3) := by decide +kernel
theorem dX8_canCorrect_10 : decode cX8_canCorrect 10 = .ok (.iload 4, 2) := by decide +kernel
theorem dX8_canCorrect_12 : decode cX8_canCorrect 12 = .ok (.iconst (-1), 1) := by decide +kernel
theorem dX8_canCorrect_13 : decode cX8_canCorrect 13 = .ok (.sipush 999, 3) := by decide +kernel
theorem dX8_canCorrect_16 : decode cX8_canCorrect 16 = .ok (.invokestatic 89, 3) := by decide +kernel
theorem dX8_canCorrect_19 : decode cX8_canCorrect 19 = .ok (.ifCond .eq 7, 3) := by decide +kernel
theorem dX8_canCorrect_22 : decode cX8_canCorrect 22 = .ok (.iconst 1, 1) := by decide +kernel
theorem dX8_canCorrect_23 : decode cX8_canCorrect 23 = .ok (.goto 4, 3) := by decide +kernel
theorem dX8_canCorrect_26 : decode cX8_canCorrect 26 = .ok (.iconst 0, 1) := by decide +kernel
theorem dX8_canCorrect_27 : decode cX8_canCorrect 27 = .ok (.ireturn, 1) := by decide +kernel
theorem dX8_corrects_0 : decode cX8_corrects 0 = .ok (.iconst 0, 1) := by decide +kernel
theorem dX8_corrects_1 : decode cX8_corrects 1 = .ok (.istore 5, 2) := by decide +kernel
theorem dX8_corrects_3 : decode cX8_corrects 3 = .ok (.iload 5, 2) := by decide +kernel
theorem dX8_corrects_5 : decode cX8_corrects 5 = .ok (.aload_n 0, 1) := by decide +kernel
theorem dX8_corrects_6 : decode cX8_corrects 6 = .ok (.getfield 74, 3) := by decide +kernel
theorem dX8_corrects_9 : decode cX8_corrects 9 = .ok (.iconst 0, 1) := by decide +kernel
theorem dX8_corrects_10 : decode cX8_corrects 10 = .ok (.iaload, 1) := by decide +kernel
theorem dX8_corrects_11 : decode cX8_corrects 11 = .ok (.if_icmp .ge 23, 3) := by decide +kernel
theorem dX8_corrects_14 : decode cX8_corrects 14 = .ok (.aload_n 0, 1) := by decide +kernel
theorem dX8_corrects_15 : decode cX8_corrects 15 = .ok (.getfield 83, 3) := by decide +kernel
theorem dX8_corrects_18 : decode cX8_corrects 18 = .ok (.iload 5, 2) := by decide +kernel
theorem dX8_corrects_20 : decode cX8_corrects 20 = .ok (.aload_n 0, 1) := by decide +kernel
theorem dX8_corrects_21 : decode cX8_corrects 21 = .ok (.iload_n 1, 1) := by decide +kernel
theorem dX8_corrects_22 : decode cX8_corrects 22 = .ok (.iload 5, 2) := by decide +kernel
theorem dX8_corrects_24 : decode cX8_corrects 24 = .ok (.invokevirtual 191, 3) := by decide +kernel
theorem dX8_corrects_27 : decode cX8_corrects 27 = .ok (.iastore, 1) := by decide +kernel
theorem dX8_corrects_28 : decode cX8_corrects 28 = .ok (.iinc 5 1, 3) := by decide +kernel
theorem dX8_corrects_31 : decode cX8_corrects 31 = .ok (.goto (-28), 3) := by decide +kernel
theorem dX8_corrects_34 : decode cX8_corrects 34 = .ok (.aload_n 0, 1) := by decide +kernel
theorem dX8_corrects_35 : decode cX8_corrects 35 = .ok (.getfield 74, 3) := by decide +kernel
theorem dX8_corrects_38 : decode cX8_corrects 38 = .ok (.iload_n 1, 1) := by decide +kernel
theorem dX8_corrects_39 : decode cX8_corrects 39 = .ok (.iload_n 2, 1) := by decide +kernel
theorem dX8_corrects_40 : decode cX8_corrects 40 = .ok (.iload_n 3, 1) := by decide +kernel
theorem dX8_corrects_41 : decode cX8_corrects 41 = .ok (.invokestatic 132, 3) := by decide +kernel
theorem dX8_corrects_44 : decode cX8_corrects 44 = .ok (.iload 4, 2) := by decide +kernel
theorem dX8_corrects_46 : decode cX8_corrects 46 = .ok (.iconst 1, 1) := by decide +kernel
theorem dX8_corrects_47 : decode cX8_corrects 47 = .ok (.iadd, 1) := by decide +kernel
theorem dX8_corrects_48 : decode cX8_corrects 48 = .ok (.iastore, 1) := by decide +kernel
theorem dX8_corrects_49 : decode cX8_corrects 49 = .ok (.iconst 0, 1) := by decide +kernel
theorem dX8_corrects_50 : decode cX8_corrects 50 = .ok (.istore 5, 2) := by decide +kernel
theorem dX8_corrects_52 : decode cX8_corrects 52 = .ok (.iload_n 3, 1) := by decide +kernel
theorem dX8_corrects_53 : decode cX8_corrects 53 = .ok (.istore 6, 2) := by decide +kernel
theorem dX8_corrects_55 : decode cX8_corrects 55 = .ok (.iload 6, 2) := by decide +kernel
theorem dX8_corrects_57 : decode cX8_corrects 57 = .ok (.aload_n 0, 1) := by decide +kernel
theorem dX8_corrects_58 : decode cX8_corrects 58 = .ok (.getfield 74, 3) := by decide +kernel
theorem dX8_corrects_61 : decode cX8_corrects 61 = .ok (.iconst 0, 1) := by decide +kernel
theorem dX8_corrects_62 : decode cX8_corrects 62 = .ok (.iaload, 1) := by decide +kernel
theorem dX8_corrects_63 : decode cX8_corrects 63 = .ok (.if_icmp .ge 46, 3) := by decide +kernel
theorem dX8_corrects_66 : decode cX8_corrects 66 = .ok (.iload 6, 2) := by decide +kernel
theorem dX8_corrects_68 : decode cX8_corrects 68 = .ok (.iload_n 3, 1) := by decide +kernel
theorem dX8_corrects_69 : decode cX8_corrects 69 = .ok (.bipush 12, 2) := by decide +kernel
theorem dX8_corrects_71 : decode cX8_corrects 71 = .ok (.iadd, 1) := by decide +kernel
theorem dX8_corrects_72 : decode cX8_corrects 72 = .ok (.if_icmp .ge 37, 3) := by decide +kernel
theorem dX8_corrects_75 : decode cX8_corrects 75 = .ok (.aload_n 0, 1) := by decide +kernel
theorem dX8_corrects_76 : decode cX8_corrects 76 = .ok (.iload_n 1, 1) := by decide +kernel
theorem dX8_corrects_77 : decode cX8_corrects 77 = .ok (.iload 6, 2) := by decide +kernel
theorem dX8_corrects_79 : decode cX8_corrects 79 = .ok (.invokevirtual 191, 3) := by decide +kernel
theorem dX8_corrects_82 : decode cX8_corrects 82 = .ok (.aload_n 0, 1) := by decide +kernel
theorem dX8_corrects_83 : decode cX8_corrects 83 = .ok (.getfield 83, 3) := by decide +kernel
theorem dX8_corrects_86 : decode cX8_corrects 86 = .ok (.iload 6, 2) := by decide +kernel
theorem dX8_corrects_88 : decode cX8_corrects 88 = .ok (.iaload, 1) := by decide +kernel
theorem dX8_corrects_89 : decode cX8_corrects 89 = .ok (.if_icmp .eq 14, 3) := by decide +kernel
theorem dX8_corrects_92 : decode cX8_corrects 92 = .ok (.iload 5, 2) := by decide +kernel
theorem dX8_corrects_94 : decode cX8_corrects 94 = .ok (.iconst 1, 1) := by decide +kernel
theorem dX8_corrects_95 : decode cX8_corrects 95 = .ok (.iload 6, 2) := by decide +kernel
theorem dX8_corrects_97 : decode cX8_corrects 97 = .ok (.iload_n 3, 1) := by decide +kernel
theorem dX8_corrects_98 : decode cX8_corrects 98 = .ok (.isub, 1) := by decide +kernel
theorem dX8_corrects_99 : decode cX8_corrects 99 = .ok (.ishl, 1) := by decide +kernel
theorem dX8_corrects_100 : decode cX8_corrects 100 = .ok (.ior, 1) := by decide +kernel
theorem dX8_corrects_101 : decode cX8_corrects 101 = .ok (.istore 5, 2) := by decide +kernel
theorem dX8_corrects_103 : decode cX8_corrects 103 = .ok (.iinc 6 1, 3) := by decide +kernel
theorem dX8_corrects_106 : decode cX8_corrects 106 = .ok (.goto (-51), 3) := by decide +kernel
theorem dX8_corrects_109 : decode cX8_corrects 109 = .ok (.iload 5, 2) := by decide +kernel
theorem dX8_corrects_111 : decode cX8_corrects 111 = .ok (.ireturn, 1) := by decide +kernel
theorem dX8_touches_0 : decode cX8_touches 0 = .ok (.aload_n 0, 1) := by decide +kernel
theorem dX8_touches_1 : decode cX8_touches 1 = .ok (.iload_n 1, 1) := by decide +kernel
theorem dX8_touches_2 : decode cX8_touches 2 = .ok (.iload_n 2, 1) := by decide +kernel
theorem dX8_touches_3 : decode cX8_touches 3 = .ok (.iload_n 3, 1) := by decide +kernel
theorem dX8_touches_4 : decode cX8_touches 4 = .ok (.iload 4, 2) := by decide +kernel
theorem dX8_touches_6 : decode cX8_touches 6 = .ok (.invokevirtual 198, 3) := by decide +kernel
theorem dX8_touches_9 : decode cX8_touches 9 = .ok (.ifCond .ne 5, 3) := by decide +kernel
theorem dX8_touches_12 : decode cX8_touches 12 = .ok (.iconst (-1), 1) := by decide +kernel
theorem dX8_touches_13 : decode cX8_touches 13 = .ok (.ireturn, 1) := by decide +kernel
theorem dX8_touches_14 : decode cX8_touches 14 = .ok (.aload_n 0, 1) := by decide +kernel
theorem dX8_touches_15 : decode cX8_touches 15 = .ok (.iload_n 1, 1) := by decide +kernel
theorem dX8_touches_16 : decode cX8_touches 16 = .ok (.iload_n 2, 1) := by decide +kernel
theorem dX8_touches_17 : decode cX8_touches 17 = .ok (.iload_n 3, 1) := by decide +kernel
theorem dX8_touches_18 : decode cX8_touches 18 = .ok (.invokevirtual 169, 3) := by decide +kernel
theorem dX8_touches_21 : decode cX8_touches 21 = .ok (.istore 5, 2) := by decide +kernel
theorem dX8_touches_23 : decode cX8_touches 23 = .ok (.aload_n 0, 1) := by decide +kernel
theorem dX8_touches_24 : decode cX8_touches 24 = .ok (.iload_n 1, 1) := by decide +kernel
theorem dX8_touches_25 : decode cX8_touches 25 = .ok (.iload_n 2, 1) := by decide +kernel
theorem dX8_touches_26 : decode cX8_touches 26 = .ok (.iload_n 3, 1) := by decide +kernel
theorem dX8_touches_27 : decode cX8_touches 27 = .ok (.iload 4, 2) := by decide +kernel
theorem dX8_touches_29 : decode cX8_touches 29 = .ok (.invokevirtual 202, 3) := by decide +kernel
theorem dX8_touches_32 : decode cX8_touches 32 = .ok (.istore 6, 2) := by decide +kernel
theorem dX8_touches_34 : decode cX8_touches 34 = .ok (.aload_n 0, 1) := by decide +kernel
theorem dX8_touches_35 : decode cX8_touches 35 = .ok (.getfield 74, 3) := by decide +kernel
theorem dX8_touches_38 : decode cX8_touches 38 = .ok (.iload_n 1, 1) := by decide +kernel
theorem dX8_touches_39 : decode cX8_touches 39 = .ok (.iload_n 2, 1) := by decide +kernel
theorem dX8_touches_40 : decode cX8_touches 40 = .ok (.iload_n 3, 1) := by decide +kernel
theorem dX8_touches_41 : decode cX8_touches 41 = .ok (.invokestatic 132, 3) := by decide +kernel
theorem dX8_touches_44 : decode cX8_touches 44 = .ok (.iload 5, 2) := by decide +kernel
theorem dX8_touches_46 : decode cX8_touches 46 = .ok (.iconst 1, 1) := by decide +kernel
theorem dX8_touches_47 : decode cX8_touches 47 = .ok (.iadd, 1) := by decide +kernel
theorem dX8_touches_48 : decode cX8_touches 48 = .ok (.iastore, 1) := by decide +kernel
theorem dX8_touches_49 : decode cX8_touches 49 = .ok (.iload 6, 2) := by decide +kernel
theorem dX8_touches_51 : decode cX8_touches 51 = .ok (.ireturn, 1) := by decide +kernel
theorem dX8_snap_0 : decode cX8_snap 0 = .ok (.aload_n 0, 1) := by decide +kernel
theorem dX8_snap_1 : decode cX8_snap 1 = .ok (.getfield 154, 3) := by decide +kernel
theorem dX8_snap_4 : decode cX8_snap 4 = .ok (.bipush 10, 2) := by decide +kernel
theorem dX8_snap_6 : decode cX8_snap 6 = .ok (.if_icmp .ne 44, 3) := by decide +kernel
theorem dX8_snap_9 : decode cX8_snap 9 = .ok (.iconst 0, 1) := by decide +kernel
theorem dX8_snap_10 : decode cX8_snap 10 = .ok (.istore_n 1, 1) := by decide +kernel
theorem dX8_snap_11 : decode cX8_snap 11 = .ok (.iload_n 1, 1) := by decide +kernel
theorem dX8_snap_12 : decode cX8_snap 12 = .ok (.sipush 6930, 3) := by decide +kernel
theorem dX8_snap_15 : decode cX8_snap 15 = .ok (.if_icmp .ge 25, 3) := by decide +kernel
theorem dX8_snap_18 : decode cX8_snap 18 = .ok (.aload_n 0, 1) := by decide +kernel
theorem dX8_snap_19 : decode cX8_snap 19 = .ok (.getfield 80, 3) := by decide +kernel
theorem dX8_snap_22 : decode cX8_snap 22 = .ok (.iload_n 1, 1) := by decide +kernel
theorem dX8_snap_23 : decode cX8_snap 23 = .ok (.aload_n 0, 1) := by decide +kernel
theorem dX8_snap_24 : decode cX8_snap 24 = .ok (.getfield 80, 3) := by decide +kernel
theorem dX8_snap_27 : decode cX8_snap 27 = .ok (.iload_n 1, 1) := by decide +kernel
theorem dX8_snap_28 : decode cX8_snap 28 = .ok (.sipush 770, 3) := by decide +kernel
theorem dX8_snap_31 : decode cX8_snap 31 = .ok (.iadd, 1) := by decide +kernel
theorem dX8_snap_32 : decode cX8_snap 32 = .ok (.iaload, 1) := by decide +kernel
theorem dX8_snap_33 : decode cX8_snap 33 = .ok (.iastore, 1) := by decide +kernel
theorem dX8_snap_34 : decode cX8_snap 34 = .ok (.iinc 1 1, 3) := by decide +kernel
theorem dX8_snap_37 : decode cX8_snap 37 = .ok (.goto (-26), 3) := by decide +kernel
theorem dX8_snap_40 : decode cX8_snap 40 = .ok (.aload_n 0, 1) := by decide +kernel
theorem dX8_snap_41 : decode cX8_snap 41 = .ok (.dup, 1) := by decide +kernel
theorem dX8_snap_42 : decode cX8_snap 42 = .ok (.getfield 154, 3) := by decide +kernel
theorem dX8_snap_45 : decode cX8_snap 45 = .ok (.iconst 1, 1) := by decide +kernel
theorem dX8_snap_46 : decode cX8_snap 46 = .ok (.isub, 1) := by decide +kernel
theorem dX8_snap_47 : decode cX8_snap 47 = .ok (.putfield 154, 3) := by decide +kernel
theorem dX8_snap_50 : decode cX8_snap 50 = .ok (.iconst 0, 1) := by decide +kernel
theorem dX8_snap_51 : decode cX8_snap 51 = .ok (.istore_n 1, 1) := by decide +kernel
theorem dX8_snap_52 : decode cX8_snap 52 = .ok (.iload_n 1, 1) := by decide +kernel
theorem dX8_snap_53 : decode cX8_snap 53 = .ok (.sipush 770, 3) := by decide +kernel
theorem dX8_snap_56 : decode cX8_snap 56 = .ok (.if_icmp .ge 30, 3) := by decide +kernel
theorem dX8_snap_59 : decode cX8_snap 59 = .ok (.aload_n 0, 1) := by decide +kernel
theorem dX8_snap_60 : decode cX8_snap 60 = .ok (.getfield 80, 3) := by decide +kernel
theorem dX8_snap_63 : decode cX8_snap 63 = .ok (.sipush 770, 3) := by decide +kernel
theorem dX8_snap_66 : decode cX8_snap 66 = .ok (.aload_n 0, 1) := by decide +kernel
theorem dX8_snap_67 : decode cX8_snap 67 = .ok (.getfield 154, 3) := by decide +kernel
theorem dX8_snap_70 : decode cX8_snap 70 = .ok (.imul, 1) := by decide +kernel
theorem dX8_snap_71 : decode cX8_snap 71 = .ok (.iload_n 1, 1) := by decide +kernel
theorem dX8_snap_72 : decode cX8_snap 72 = .ok (.iadd, 1) := by decide +kernel
theorem dX8_snap_73 : decode cX8_snap 73 = .ok (.aload_n 0, 1) := by decide +kernel
theorem dX8_snap_74 : decode cX8_snap 74 = .ok (.getfield 74, 3) := by decide +kernel
theorem dX8_snap_77 : decode cX8_snap 77 = .ok (.iload_n 1, 1) := by decide +kernel
theorem dX8_snap_78 : decode cX8_snap 78 = .ok (.iaload, 1) := by decide +kernel
theorem dX8_snap_79 : decode cX8_snap 79 = .ok (.iastore, 1) := by decide +kernel
theorem dX8_snap_80 : decode cX8_snap 80 = .ok (.iinc 1 1, 3) := by decide +kernel
theorem dX8_snap_83 : decode cX8_snap 83 = .ok (.goto (-31), 3) := by decide +kernel
theorem dX8_snap_86 : decode cX8_snap 86 = .ok (.aload_n 0, 1) := by decide +kernel
theorem dX8_snap_87 : decode cX8_snap 87 = .ok (.dup, 1) := by decide +kernel
theorem dX8_snap_88 : decode cX8_snap 88 = .ok (.getfield 154, 3) := by decide +kernel
theorem dX8_snap_91 : decode cX8_snap 91 = .ok (.iconst 1, 1) := by decide +kernel
theorem dX8_snap_92 : decode cX8_snap 92 = .ok (.iadd, 1) := by decide +kernel
theorem dX8_snap_93 : decode cX8_snap 93 = .ok (.putfield 154, 3) := by decide +kernel
theorem dX8_snap_96 : decode cX8_snap 96 = .ok (.return_, 1) := by decide +kernel
theorem dX8_correct_0 : decode cX8_correct 0 = .ok (.aload_n 0, 1) := by decide +kernel
theorem dX8_correct_1 : decode cX8_correct 1 = .ok (.iload_n 1, 1) := by decide +kernel
theorem dX8_correct_2 : decode cX8_correct 2 = .ok (.iload_n 2, 1) := by decide +kernel
theorem dX8_correct_3 : decode cX8_correct 3 = .ok (.iload_n 3, 1) := by decide +kernel
theorem dX8_correct_4 : decode cX8_correct 4 = .ok (.iload 4, 2) := by decide +kernel
theorem dX8_correct_6 : decode cX8_correct 6 = .ok (.invokevirtual 198, 3) := by decide +kernel
theorem dX8_correct_9 : decode cX8_correct 9 = .ok (.ifCond .ne 6, 3) := by decide +kernel
theorem dX8_correct_12 : decode cX8_correct 12 = .ok (.bipush (-2), 2) := by decide +kernel
theorem dX8_correct_14 : decode cX8_correct 14 = .ok (.ireturn, 1) := by decide +kernel
theorem dX8_correct_15 : decode cX8_correct 15 = .ok (.aload_n 0, 1) := by decide +kernel
theorem dX8_correct_16 : decode cX8_correct 16 = .ok (.invokevirtual 206, 3) := by decide +kernel
theorem dX8_correct_19 : decode cX8_correct 19 = .ok (.aload_n 0, 1) := by decide +kernel
theorem dX8_correct_20 : decode cX8_correct 20 = .ok (.iload_n 1, 1) := by decide +kernel
theorem dX8_correct_21 : decode cX8_correct 21 = .ok (.iload_n 2, 1) := by decide +kernel
theorem dX8_correct_22 : decode cX8_correct 22 = .ok (.iload_n 3, 1) := by decide +kernel
theorem dX8_correct_23 : decode cX8_correct 23 = .ok (.iload 4, 2) := by decide +kernel
theorem dX8_correct_25 : decode cX8_correct 25 = .ok (.invokevirtual 202, 3) := by decide +kernel
theorem dX8_correct_28 : decode cX8_correct 28 = .ok (.istore 5, 2) := by decide +kernel
theorem dX8_correct_30 : decode cX8_correct 30 = .ok (.iconst 0, 1) := by decide +kernel
theorem dX8_correct_31 : decode cX8_correct 31 = .ok (.istore 6, 2) := by decide +kernel
theorem dX8_correct_33 : decode cX8_correct 33 = .ok (.iconst 0, 1) := by decide +kernel
theorem dX8_correct_34 : decode cX8_correct 34 = .ok (.istore 7, 2) := by decide +kernel
theorem dX8_correct_36 : decode cX8_correct 36 = .ok (.iload 7, 2) := by decide +kernel
theorem dX8_correct_38 : decode cX8_correct 38 = .ok (.bipush 12, 2) := by decide +kernel
theorem dX8_correct_40 : decode cX8_correct 40 = .ok (.if_icmp .ge 21, 3) := by decide +kernel
theorem dX8_correct_43 : decode cX8_correct 43 = .ok (.iload 6, 2) := by decide +kernel
theorem dX8_correct_45 : decode cX8_correct 45 = .ok (.iload 5, 2) := by decide +kernel
theorem dX8_correct_47 : decode cX8_correct 47 = .ok (.iload 7, 2) := by decide +kernel
theorem dX8_correct_49 : decode cX8_correct 49 = .ok (.ishr, 1) := by decide +kernel
theorem dX8_correct_50 : decode cX8_correct 50 = .ok (.iconst 1, 1) := by decide +kernel
theorem dX8_correct_51 : decode cX8_correct 51 = .ok (.iand, 1) := by decide +kernel
theorem dX8_correct_52 : decode cX8_correct 52 = .ok (.iadd, 1) := by decide +kernel
theorem dX8_correct_53 : decode cX8_correct 53 = .ok (.istore 6, 2) := by decide +kernel
theorem dX8_correct_55 : decode cX8_correct 55 = .ok (.iinc 7 1, 3) := by decide +kernel
theorem dX8_correct_58 : decode cX8_correct 58 = .ok (.goto (-22), 3) := by decide +kernel
theorem dX8_correct_61 : decode cX8_correct 61 = .ok (.iload 6, 2) := by decide +kernel
theorem dX8_correct_63 : decode cX8_correct 63 = .ok (.ireturn, 1) := by decide +kernel
theorem dX8_pass_0 : decode cX8_pass 0 = .ok (.iload_n 1, 1) := by decide +kernel
theorem dX8_pass_1 : decode cX8_pass 1 = .ok (.iconst 1, 1) := by decide +kernel
theorem dX8_pass_2 : decode cX8_pass 2 = .ok (.bipush 12, 2) := by decide +kernel
theorem dX8_pass_4 : decode cX8_pass 4 = .ok (.invokestatic 89, 3) := by decide +kernel
theorem dX8_pass_7 : decode cX8_pass 7 = .ok (.ifCond .eq 16, 3) := by decide +kernel
theorem dX8_pass_10 : decode cX8_pass 10 = .ok (.aload_n 0, 1) := by decide +kernel
theorem dX8_pass_11 : decode cX8_pass 11 = .ok (.getfield 74, 3) := by decide +kernel
theorem dX8_pass_14 : decode cX8_pass 14 = .ok (.iconst 0, 1) := by decide +kernel
theorem dX8_pass_15 : decode cX8_pass 15 = .ok (.iaload, 1) := by decide +kernel
theorem dX8_pass_16 : decode cX8_pass 16 = .ok (.iload_n 1, 1) := by decide +kernel
theorem dX8_pass_17 : decode cX8_pass 17 = .ok (.iadd, 1) := by decide +kernel
theorem dX8_pass_18 : decode cX8_pass 18 = .ok (.bipush 60, 2) := by decide +kernel
theorem dX8_pass_20 : decode cX8_pass 20 = .ok (.if_icmp .le 5, 3) := by decide +kernel
theorem dX8_pass_23 : decode cX8_pass 23 = .ok (.iconst (-1), 1) := by decide +kernel
theorem dX8_pass_24 : decode cX8_pass 24 = .ok (.ireturn, 1) := by decide +kernel
theorem dX8_pass_25 : decode cX8_pass 25 = .ok (.aload_n 0, 1) := by decide +kernel
theorem dX8_pass_26 : decode cX8_pass 26 = .ok (.invokevirtual 206, 3) := by decide +kernel
theorem dX8_pass_29 : decode cX8_pass 29 = .ok (.aload_n 0, 1) := by decide +kernel
theorem dX8_pass_30 : decode cX8_pass 30 = .ok (.getfield 74, 3) := by decide +kernel
theorem dX8_pass_33 : decode cX8_pass 33 = .ok (.iconst 0, 1) := by decide +kernel
theorem dX8_pass_34 : decode cX8_pass 34 = .ok (.dup2, 1) := by decide +kernel
theorem dX8_pass_35 : decode cX8_pass 35 = .ok (.iaload, 1) := by decide +kernel
theorem dX8_pass_36 : decode cX8_pass 36 = .ok (.iload_n 1, 1) := by decide +kernel
theorem dX8_pass_37 : decode cX8_pass 37 = .ok (.iadd, 1) := by decide +kernel
theorem dX8_pass_38 : decode cX8_pass 38 = .ok (.iastore, 1) := by decide +kernel
theorem dX8_pass_39 : decode cX8_pass 39 = .ok (.aload_n 0, 1) := by decide +kernel
theorem dX8_pass_40 : decode cX8_pass 40 = .ok (.getfield 74, 3) := by decide +kernel
theorem dX8_pass_43 : decode cX8_pass 43 = .ok (.iconst 0, 1) := by decide +kernel
theorem dX8_pass_44 : decode cX8_pass 44 = .ok (.iaload, 1) := by decide +kernel
theorem dX8_pass_45 : decode cX8_pass 45 = .ok (.ireturn, 1) := by decide +kernel
theorem dX8_smooth_0 : decode cX8_smooth 0 = .ok (.iload_n 1, 1) := by decide +kernel
theorem dX8_smooth_1 : decode cX8_smooth 1 = .ok (.iconst 0, 1) := by decide +kernel
theorem dX8_smooth_2 : decode cX8_smooth 2 = .ok (.bipush 100, 2) := by decide +kernel
theorem dX8_smooth_4 : decode cX8_smooth 4 = .ok (.invokestatic 89, 3) := by decide +kernel
theorem dX8_smooth_7 : decode cX8_smooth 7 = .ok (.ifCond .ne 5, 3) := by decide +kernel
theorem dX8_smooth_10 : decode cX8_smooth 10 = .ok (.iconst (-1), 1) := by decide +kernel
theorem dX8_smooth_11 : decode cX8_smooth 11 = .ok (.ireturn, 1) := by decide +kernel
theorem dX8_smooth_12 : decode cX8_smooth 12 = .ok (.aload_n 0, 1) := by decide +kernel
theorem dX8_smooth_13 : decode cX8_smooth 13 = .ok (.invokevirtual 206, 3) := by decide +kernel
theorem dX8_smooth_16 : decode cX8_smooth 16 = .ok (.aload_n 0, 1) := by decide +kernel
theorem dX8_smooth_17 : decode cX8_smooth 17 = .ok (.getfield 74, 3) := by decide +kernel
theorem dX8_smooth_20 : decode cX8_smooth 20 = .ok (.iconst 3, 1) := by decide +kernel
theorem dX8_smooth_21 : decode cX8_smooth 21 = .ok (.iaload, 1) := by decide +kernel
theorem dX8_smooth_22 : decode cX8_smooth 22 = .ok (.istore_n 2, 1) := by decide +kernel
theorem dX8_smooth_23 : decode cX8_smooth 23 = .ok (.aload_n 0, 1) := by decide +kernel
theorem dX8_smooth_24 : decode cX8_smooth 24 = .ok (.getfield 74, 3) := by decide +kernel
theorem dX8_smooth_27 : decode cX8_smooth 27 = .ok (.iconst 3, 1) := by decide +kernel
theorem dX8_smooth_28 : decode cX8_smooth 28 = .ok (.iload_n 1, 1) := by decide +kernel
theorem dX8_smooth_29 : decode cX8_smooth 29 = .ok (.iastore, 1) := by decide +kernel
theorem dX8_smooth_30 : decode cX8_smooth 30 = .ok (.iload_n 2, 1) := by decide +kernel
theorem dX8_smooth_31 : decode cX8_smooth 31 = .ok (.ireturn, 1) := by decide +kernel
theorem dX8_window_0 : decode cX8_window 0 = .ok (.aload_n 0, 1) := by decide +kernel
theorem dX8_window_1 : decode cX8_window 1 = .ok (.iload_n 1, 1) := by decide +kernel
theorem dX8_window_2 : decode cX8_window 2 = .ok (.invokevirtual 160, 3) := by decide +kernel
theorem dX8_window_5 : decode cX8_window 5 = .ok (.ifCond .eq 22, 3) := by decide +kernel
theorem dX8_window_8 : decode cX8_window 8 = .ok (.iload_n 2, 1) := by decide +kernel
theorem dX8_window_9 : decode cX8_window 9 = .ok (.iconst 1, 1) := by decide +kernel
theorem dX8_window_10 : decode cX8_window 10 = .ok (.bipush 12, 2) := by decide +kernel
theorem dX8_window_12 : decode cX8_window 12 = .ok (.invokestatic 89, 3) := by decide +kernel
theorem dX8_window_15 : decode cX8_window 15 = .ok (.ifCond .eq 12, 3) := by decide +kernel
theorem dX8_window_18 : decode cX8_window 18 = .ok (.iload_n 3, 1) := by decide +kernel
theorem dX8_window_19 : decode cX8_window 19 = .ok (.iconst 1, 1) := by decide +kernel
theorem dX8_window_20 : decode cX8_window 20 = .ok (.iload_n 2, 1) := by decide +kernel
theorem dX8_window_21 : decode cX8_window 21 = .ok (.invokestatic 89, 3) := by decide +kernel
theorem dX8_window_24 : decode cX8_window 24 = .ok (.ifCond .ne 5, 3) := by decide +kernel
theorem dX8_window_27 : decode cX8_window 27 = .ok (.iconst 0, 1) := by decide +kernel
theorem dX8_window_28 : decode cX8_window 28 = .ok (.ireturn, 1) := by decide +kernel
theorem dX8_window_29 : decode cX8_window 29 = .ok (.aload_n 0, 1) := by decide +kernel
theorem dX8_window_30 : decode cX8_window 30 = .ok (.invokevirtual 206, 3) := by decide +kernel
theorem dX8_window_33 : decode cX8_window 33 = .ok (.aload_n 0, 1) := by decide +kernel
theorem dX8_window_34 : decode cX8_window 34 = .ok (.getfield 74, 3) := by decide +kernel
theorem dX8_window_37 : decode cX8_window 37 = .ok (.bipush 7, 2) := by decide +kernel
theorem dX8_window_39 : decode cX8_window 39 = .ok (.bipush 13, 2) := by decide +kernel
theorem dX8_window_41 : decode cX8_window 41 = .ok (.iload_n 1, 1) := by decide +kernel
theorem dX8_window_42 : decode cX8_window 42 = .ok (.imul, 1) := by decide +kernel
theorem dX8_window_43 : decode cX8_window 43 = .ok (.iadd, 1) := by decide +kernel
theorem dX8_window_44 : decode cX8_window 44 = .ok (.iconst 0, 1) := by decide +kernel
theorem dX8_window_45 : decode cX8_window 45 = .ok (.iadd, 1) := by decide +kernel
theorem dX8_window_46 : decode cX8_window 46 = .ok (.iload_n 2, 1) := by decide +kernel
theorem dX8_window_47 : decode cX8_window 47 = .ok (.iastore, 1) := by decide +kernel
theorem dX8_window_48 : decode cX8_window 48 = .ok (.aload_n 0, 1) := by decide +kernel
theorem dX8_window_49 : decode cX8_window 49 = .ok (.getfield 74, 3) := by decide +kernel
theorem dX8_window_52 : decode cX8_window 52 = .ok (.bipush 7, 2) := by decide +kernel
theorem dX8_window_54 : decode cX8_window 54 = .ok (.bipush 13, 2) := by decide +kernel
theorem dX8_window_56 : decode cX8_window 56 = .ok (.iload_n 1, 1) := by decide +kernel
theorem dX8_window_57 : decode cX8_window 57 = .ok (.imul, 1) := by decide +kernel
theorem dX8_window_58 : decode cX8_window 58 = .ok (.iadd, 1) := by decide +kernel
theorem dX8_window_59 : decode cX8_window 59 = .ok (.iconst 1, 1) := by decide +kernel
theorem dX8_window_60 : decode cX8_window 60 = .ok (.iadd, 1) := by decide +kernel
theorem dX8_window_61 : decode cX8_window 61 = .ok (.iload_n 3, 1) := by decide +kernel
theorem dX8_window_62 : decode cX8_window 62 = .ok (.iastore, 1) := by decide +kernel
theorem dX8_window_63 : decode cX8_window 63 = .ok (.iconst 1, 1) := by decide +kernel
theorem dX8_window_64 : decode cX8_window 64 = .ok (.ireturn, 1) := by decide +kernel
theorem dX8_undo_0 : decode cX8_undo 0 = .ok (.aload_n 0, 1) := by decide +kernel
theorem dX8_undo_1 : decode cX8_undo 1 = .ok (.getfield 154, 3) := by decide +kernel
theorem dX8_undo_4 : decode cX8_undo 4 = .ok (.ifCond .ne 5, 3) := by decide +kernel
theorem dX8_undo_7 : decode cX8_undo 7 = .ok (.iconst (-1), 1) := by decide +kernel
theorem dX8_undo_8 : decode cX8_undo 8 = .ok (.ireturn, 1) := by decide +kernel
theorem dX8_undo_9 : decode cX8_undo 9 = .ok (.aload_n 0, 1) := by decide +kernel
theorem dX8_undo_10 : decode cX8_undo 10 = .ok (.dup, 1) := by decide +kernel
theorem dX8_undo_11 : decode cX8_undo 11 = .ok (.getfield 154, 3) := by decide +kernel
theorem dX8_undo_14 : decode cX8_undo 14 = .ok (.iconst 1, 1) := by decide +kernel
theorem dX8_undo_15 : decode cX8_undo 15 = .ok (.isub, 1) := by decide +kernel
theorem dX8_undo_16 : decode cX8_undo 16 = .ok (.putfield 154, 3) := by decide +kernel
theorem dX8_undo_19 : decode cX8_undo 19 = .ok (.iconst 0, 1) := by decide +kernel
theorem dX8_undo_20 : decode cX8_undo 20 = .ok (.istore_n 1, 1) := by decide +kernel
theorem dX8_undo_21 : decode cX8_undo 21 = .ok (.iload_n 1, 1) := by decide +kernel
theorem dX8_undo_22 : decode cX8_undo 22 = .ok (.sipush 770, 3) := by decide +kernel
theorem dX8_undo_25 : decode cX8_undo 25 = .ok (.if_icmp .ge 30, 3) := by decide +kernel
theorem dX8_undo_28 : decode cX8_undo 28 = .ok (.aload_n 0, 1) := by decide +kernel
theorem dX8_undo_29 : decode cX8_undo 29 = .ok (.getfield 74, 3) := by decide +kernel
theorem dX8_undo_32 : decode cX8_undo 32 = .ok (.iload_n 1, 1) := by decide +kernel
theorem dX8_undo_33 : decode cX8_undo 33 = .ok (.aload_n 0, 1) := by decide +kernel
theorem dX8_undo_34 : decode cX8_undo 34 = .ok (.getfield 80, 3) := by decide +kernel
theorem dX8_undo_37 : decode cX8_undo 37 = .ok (.sipush 770, 3) := by decide +kernel
theorem dX8_undo_40 : decode cX8_undo 40 = .ok (.aload_n 0, 1) := by decide +kernel
theorem dX8_undo_41 : decode cX8_undo 41 = .ok (.getfield 154, 3) := by decide +kernel
theorem dX8_undo_44 : decode cX8_undo 44 = .ok (.imul, 1) := by decide +kernel
theorem dX8_undo_45 : decode cX8_undo 45 = .ok (.iload_n 1, 1) := by decide +kernel
theorem dX8_undo_46 : decode cX8_undo 46 = .ok (.iadd, 1) := by decide +kernel
theorem dX8_undo_47 : decode cX8_undo 47 = .ok (.iaload, 1) := by decide +kernel
theorem dX8_undo_48 : decode cX8_undo 48 = .ok (.iastore, 1) := by decide +kernel
theorem dX8_undo_49 : decode cX8_undo 49 = .ok (.iinc 1 1, 3) := by decide +kernel
theorem dX8_undo_52 : decode cX8_undo 52 = .ok (.goto (-31), 3) := by decide +kernel
theorem dX8_undo_55 : decode cX8_undo 55 = .ok (.aload_n 0, 1) := by decide +kernel
theorem dX8_undo_56 : decode cX8_undo 56 = .ok (.getfield 154, 3) := by decide +kernel
theorem dX8_undo_59 : decode cX8_undo 59 = .ok (.ireturn, 1) := by decide +kernel
theorem dJ6_bitCount_0f7a4_0 : decode cJ6_bitCount_0f7a4 0 = .ok (.iload_n 0, 1) := by decide +kernel
theorem dJ6_bitCount_0f7a4_1 : decode cJ6_bitCount_0f7a4 1 = .ok (.iload_n 0, 1) := by decide +kernel
theorem dJ6_bitCount_0f7a4_2 : decode cJ6_bitCount_0f7a4 2 = .ok (.iconst 1, 1) := by decide +kernel
theorem dJ6_bitCount_0f7a4_3 : decode cJ6_bitCount_0f7a4 3 = .ok (.iushr, 1) := by decide +kernel
theorem dJ6_bitCount_0f7a4_4 : decode cJ6_bitCount_0f7a4 4 = .ok (.ldc_w 265, 3) := by decide +kernel
theorem dJ6_bitCount_0f7a4_7 : decode cJ6_bitCount_0f7a4 7 = .ok (.iand, 1) := by decide +kernel
theorem dJ6_bitCount_0f7a4_8 : decode cJ6_bitCount_0f7a4 8 = .ok (.isub, 1) := by decide +kernel
theorem dJ6_bitCount_0f7a4_9 : decode cJ6_bitCount_0f7a4 9 = .ok (.istore_n 0, 1) := by decide +kernel
theorem dJ6_bitCount_0f7a4_10 : decode cJ6_bitCount_0f7a4 10 = .ok (.iload_n 0, 1) := by decide +kernel
theorem dJ6_bitCount_0f7a4_11 : decode cJ6_bitCount_0f7a4 11 = .ok (.ldc_w 266, 3) := by decide +kernel
theorem dJ6_bitCount_0f7a4_14 : decode cJ6_bitCount_0f7a4 14 = .ok (.iand, 1) := by decide +kernel
theorem dJ6_bitCount_0f7a4_15 : decode cJ6_bitCount_0f7a4 15 = .ok (.iload_n 0, 1) := by decide +kernel
theorem dJ6_bitCount_0f7a4_16 : decode cJ6_bitCount_0f7a4 16 = .ok (.iconst 2, 1) := by decide +kernel
theorem dJ6_bitCount_0f7a4_17 : decode cJ6_bitCount_0f7a4 17 = .ok (.iushr, 1) := by decide +kernel
theorem dJ6_bitCount_0f7a4_18 : decode cJ6_bitCount_0f7a4 18 = .ok (.ldc_w 266, 3) := by decide +kernel
theorem dJ6_bitCount_0f7a4_21 : decode cJ6_bitCount_0f7a4 21 = .ok (.iand, 1) := by decide +kernel
theorem dJ6_bitCount_0f7a4_22 : decode cJ6_bitCount_0f7a4 22 = .ok (.iadd, 1) := by decide +kernel
theorem dJ6_bitCount_0f7a4_23 : decode cJ6_bitCount_0f7a4 23 = .ok (.istore_n 0, 1) := by decide +kernel
theorem dJ6_bitCount_0f7a4_24 : decode cJ6_bitCount_0f7a4 24 = .ok (.iload_n 0, 1) := by decide +kernel
theorem dJ6_bitCount_0f7a4_25 : decode cJ6_bitCount_0f7a4 25 = .ok (.iload_n 0, 1) := by decide +kernel
theorem dJ6_bitCount_0f7a4_26 : decode cJ6_bitCount_0f7a4 26 = .ok (.iconst 4, 1) := by decide +kernel
theorem dJ6_bitCount_0f7a4_27 : decode cJ6_bitCount_0f7a4 27 = .ok (.iushr, 1) := by decide +kernel
theorem dJ6_bitCount_0f7a4_28 : decode cJ6_bitCount_0f7a4 28 = .ok (.iadd, 1) := by decide +kernel
theorem dJ6_bitCount_0f7a4_29 : decode cJ6_bitCount_0f7a4 29 = .ok (.ldc_w 267, 3) := by decide +kernel
theorem dJ6_bitCount_0f7a4_32 : decode cJ6_bitCount_0f7a4 32 = .ok (.iand, 1) := by decide +kernel
theorem dJ6_bitCount_0f7a4_33 : decode cJ6_bitCount_0f7a4 33 = .ok (.istore_n 0, 1) := by decide +kernel
theorem dJ6_bitCount_0f7a4_34 : decode cJ6_bitCount_0f7a4 34 = .ok (.iload_n 0, 1) := by decide +kernel
theorem dJ6_bitCount_0f7a4_35 : decode cJ6_bitCount_0f7a4 35 = .ok (.iload_n 0, 1) := by decide +kernel
theorem dJ6_bitCount_0f7a4_36 : decode cJ6_bitCount_0f7a4 36 = .ok (.bipush 8, 2) := by decide +kernel
theorem dJ6_bitCount_0f7a4_38 : decode cJ6_bitCount_0f7a4 38 = .ok (.iushr, 1) := by decide +kernel
theorem dJ6_bitCount_0f7a4_39 : decode cJ6_bitCount_0f7a4 39 = .ok (.iadd, 1) := by decide +kernel
theorem dJ6_bitCount_0f7a4_40 : decode cJ6_bitCount_0f7a4 40 = .ok (.istore_n 0, 1) := by decide +kernel
theorem dJ6_bitCount_0f7a4_41 : decode cJ6_bitCount_0f7a4 41 = .ok (.iload_n 0, 1) := by decide +kernel
theorem dJ6_bitCount_0f7a4_42 : decode cJ6_bitCount_0f7a4 42 = .ok (.iload_n 0, 1) := by decide +kernel
theorem dJ6_bitCount_0f7a4_43 : decode cJ6_bitCount_0f7a4 43 = .ok (.bipush 16, 2) := by decide +kernel
theorem dJ6_bitCount_0f7a4_45 : decode cJ6_bitCount_0f7a4 45 = .ok (.iushr, 1) := by decide +kernel
theorem dJ6_bitCount_0f7a4_46 : decode cJ6_bitCount_0f7a4 46 = .ok (.iadd, 1) := by decide +kernel
theorem dJ6_bitCount_0f7a4_47 : decode cJ6_bitCount_0f7a4 47 = .ok (.istore_n 0, 1) := by decide +kernel
theorem dJ6_bitCount_0f7a4_48 : decode cJ6_bitCount_0f7a4 48 = .ok (.iload_n 0, 1) := by decide +kernel
theorem dJ6_bitCount_0f7a4_49 : decode cJ6_bitCount_0f7a4 49 = .ok (.bipush 63, 2) := by decide +kernel
theorem dJ6_bitCount_0f7a4_51 : decode cJ6_bitCount_0f7a4 51 = .ok (.iand, 1) := by decide +kernel
theorem dJ6_bitCount_0f7a4_52 : decode cJ6_bitCount_0f7a4 52 = .ok (.ireturn, 1) := by decide +kernel
theorem dJ9_max_7cf53_0 : decode cJ9_max_7cf53 0 = .ok (.iload_n 0, 1) := by decide +kernel
theorem dJ9_max_7cf53_1 : decode cJ9_max_7cf53 1 = .ok (.iload_n 1, 1) := by decide +kernel
theorem dJ9_max_7cf53_2 : decode cJ9_max_7cf53 2 = .ok (.if_icmp .lt 7, 3) := by decide +kernel
theorem dJ9_max_7cf53_5 : decode cJ9_max_7cf53 5 = .ok (.iload_n 0, 1) := by decide +kernel
theorem dJ9_max_7cf53_6 : decode cJ9_max_7cf53 6 = .ok (.goto 4, 3) := by decide +kernel
theorem dJ9_max_7cf53_9 : decode cJ9_max_7cf53 9 = .ok (.iload_n 1, 1) := by decide +kernel
theorem dJ9_max_7cf53_10 : decode cJ9_max_7cf53 10 = .ok (.ireturn, 1) := by decide +kernel
theorem dJ9_min_7cf53_0 : decode cJ9_min_7cf53 0 = .ok (.iload_n 0, 1) := by decide +kernel
theorem dJ9_min_7cf53_1 : decode cJ9_min_7cf53 1 = .ok (.iload_n 1, 1) := by decide +kernel
theorem dJ9_min_7cf53_2 : decode cJ9_min_7cf53 2 = .ok (.if_icmp .gt 7, 3) := by decide +kernel
theorem dJ9_min_7cf53_5 : decode cJ9_min_7cf53 5 = .ok (.iload_n 0, 1) := by decide +kernel
theorem dJ9_min_7cf53_6 : decode cJ9_min_7cf53 6 = .ok (.goto 4, 3) := by decide +kernel
theorem dJ9_min_7cf53_9 : decode cJ9_min_7cf53 9 = .ok (.iload_n 1, 1) := by decide +kernel
theorem dJ9_min_7cf53_10 : decode cJ9_min_7cf53 10 = .ok (.ireturn, 1) := by decide +kernel
theorem dJ0_length_8abf5_0 : decode cJ0_length_8abf5 0 = .ok (.aload_n 0, 1) := by decide +kernel
theorem dJ0_length_8abf5_1 : decode cJ0_length_8abf5 1 = .ok (.getfield 9, 3) := by decide +kernel
theorem dJ0_length_8abf5_4 : decode cJ0_length_8abf5 4 = .ok (.arraylength, 1) := by decide +kernel
theorem dJ0_length_8abf5_5 : decode cJ0_length_8abf5 5 = .ok (.aload_n 0, 1) := by decide +kernel
theorem dJ0_length_8abf5_6 : decode cJ0_length_8abf5 6 = .ok (.invokevirtual 335, 3) := by decide +kernel
theorem dJ0_length_8abf5_9 : decode cJ0_length_8abf5 9 = .ok (.ishr, 1) := by decide +kernel
theorem dJ0_length_8abf5_10 : decode cJ0_length_8abf5 10 = .ok (.ireturn, 1) := by decide +kernel
theorem dJ0_charAt_5068e_0 : decode cJ0_charAt_5068e 0 = .ok (.aload_n 0, 1) := by decide +kernel
theorem dJ0_charAt_5068e_1 : decode cJ0_charAt_5068e 1 = .ok (.invokevirtual 492, 3) := by decide +kernel
theorem dJ0_charAt_5068e_4 : decode cJ0_charAt_5068e 4 = .ok (.ifCond .eq 12, 3) := by decide +kernel
theorem dJ0_charAt_5068e_7 : decode cJ0_charAt_5068e 7 = .ok (.aload_n 0, 1) := by decide +kernel
theorem dJ0_charAt_5068e_8 : decode cJ0_charAt_5068e 8 = .ok (.getfield 9, 3) := by decide +kernel
theorem dJ0_charAt_5068e_11 : decode cJ0_charAt_5068e 11 = .ok (.iload_n 1, 1) := by decide +kernel
theorem dJ0_charAt_5068e_12 : decode cJ0_charAt_5068e 12 = .ok (.invokestatic 495, 3) := by decide +kernel
theorem dJ0_charAt_5068e_15 : decode cJ0_charAt_5068e 15 = .ok (.ireturn, 1) := by decide +kernel
theorem dJ0_charAt_5068e_16 : decode cJ0_charAt_5068e 16 = .ok (.aload_n 0, 1) := by decide +kernel
theorem dJ0_charAt_5068e_17 : decode cJ0_charAt_5068e 17 = .ok (.getfield 9, 3) := by decide +kernel
theorem dJ0_charAt_5068e_20 : decode cJ0_charAt_5068e 20 = .ok (.iload_n 1, 1) := by decide +kernel
theorem dJ0_charAt_5068e_21 : decode cJ0_charAt_5068e 21 = .ok (.invokestatic 498, 3) := by decide +kernel
theorem dJ0_charAt_5068e_24 : decode cJ0_charAt_5068e 24 = .ok (.ireturn, 1) := by decide +kernel
theorem dJ0_coder_7d493_0 : decode cJ0_coder_7d493 0 = .ok (.getstatic 38, 3) := by decide +kernel
theorem dJ0_coder_7d493_3 : decode cJ0_coder_7d493 3 = .ok (.ifCond .eq 10, 3) := by decide +kernel
theorem dJ0_coder_7d493_6 : decode cJ0_coder_7d493 6 = .ok (.aload_n 0, 1) := by decide +kernel
theorem dJ0_coder_7d493_7 : decode cJ0_coder_7d493 7 = .ok (.getfield 15, 3) := by decide +kernel
theorem dJ0_coder_7d493_10 : decode cJ0_coder_7d493 10 = .ok (.goto 4, 3) := by decide +kernel
theorem dJ0_coder_7d493_13 : decode cJ0_coder_7d493 13 = .ok (.iconst 1, 1) := by decide +kernel
theorem dJ0_coder_7d493_14 : decode cJ0_coder_7d493 14 = .ok (.ireturn, 1) := by decide +kernel
theorem dJ0_isLatin1_aae02_0 : decode cJ0_isLatin1_aae02 0 = .ok (.getstatic 38, 3) := by decide +kernel
theorem dJ0_isLatin1_aae02_3 : decode cJ0_isLatin1_aae02 3 = .ok (.ifCond .eq 14, 3) := by decide +kernel
theorem dJ0_isLatin1_aae02_6 : decode cJ0_isLatin1_aae02 6 = .ok (.aload_n 0, 1) := by decide +kernel
theorem dJ0_isLatin1_aae02_7 : decode cJ0_isLatin1_aae02 7 = .ok (.getfield 15, 3) := by decide +kernel
theorem dJ0_isLatin1_aae02_10 : decode cJ0_isLatin1_aae02 10 = .ok (.ifCond .ne 7, 3) := by decide +kernel
theorem dJ0_isLatin1_aae02_13 : decode cJ0_isLatin1_aae02 13 = .ok (.iconst 1, 1) := by decide +kernel
theorem dJ0_isLatin1_aae02_14 : decode cJ0_isLatin1_aae02 14 = .ok (.goto 4, 3) := by decide +kernel
theorem dJ0_isLatin1_aae02_17 : decode cJ0_isLatin1_aae02 17 = .ok (.iconst 0, 1) := by decide +kernel
theorem dJ0_isLatin1_aae02_18 : decode cJ0_isLatin1_aae02 18 = .ok (.ireturn, 1) := by decide +kernel
theorem dJ0_checkIndex_df160_0 : decode cJ0_checkIndex_df160 0 = .ok (.iload_n 0, 1) := by decide +kernel
theorem dJ0_checkIndex_df160_1 : decode cJ0_checkIndex_df160 1 = .ok (.iload_n 1, 1) := by decide +kernel
theorem dJ0_checkIndex_df160_2 : decode cJ0_checkIndex_df160 2 = .ok (.getstatic 1053, 3) := by decide +kernel
theorem dJ0_checkIndex_df160_5 : decode cJ0_checkIndex_df160 5 = .ok (.invokestatic 1059, 3) := by decide +kernel
theorem dJ0_checkIndex_df160_8 : decode cJ0_checkIndex_df160 8 = .ok (.pop, 1) := by decide +kernel
theorem dJ0_checkIndex_df160_9 : decode cJ0_checkIndex_df160 9 = .ok (.return_, 1) := by decide +kernel
theorem dJ1_charAt_3b067_0 : decode cJ1_charAt_3b067 0 = .ok (.iload_n 1, 1) := by decide +kernel
theorem dJ1_charAt_3b067_1 : decode cJ1_charAt_3b067 1 = .ok (.aload_n 0, 1) := by decide +kernel
theorem dJ1_charAt_3b067_2 : decode cJ1_charAt_3b067 2 = .ok (.arraylength, 1) := by decide +kernel
theorem dJ1_charAt_3b067_3 : decode cJ1_charAt_3b067 3 = .ok (.invokestatic 9, 3) := by decide +kernel
theorem dJ1_charAt_3b067_6 : decode cJ1_charAt_3b067 6 = .ok (.aload_n 0, 1) := by decide +kernel
theorem dJ1_charAt_3b067_7 : decode cJ1_charAt_3b067 7 = .ok (.iload_n 1, 1) := by decide +kernel
theorem dJ1_charAt_3b067_8 : decode cJ1_charAt_3b067 8 = .ok (.baload, 1) := by decide +kernel
theorem dJ1_charAt_3b067_9 : decode cJ1_charAt_3b067 9 = .ok (.sipush 255, 3) := by decide +kernel
theorem dJ1_charAt_3b067_12 : decode cJ1_charAt_3b067 12 = .ok (.iand, 1) := by decide +kernel
theorem dJ1_charAt_3b067_13 : decode cJ1_charAt_3b067 13 = .ok (.i2c, 1) := by decide +kernel
theorem dJ1_charAt_3b067_14 : decode cJ1_charAt_3b067 14 = .ok (.ireturn, 1) := by decide +kernel
theorem dJ2_getChar_3b067_0 : decode cJ2_getChar_3b067 0 = .ok (.getstatic 44, 3) := by decide +kernel
theorem dJ2_getChar_3b067_3 : decode cJ2_getChar_3b067 3 = .ok (.ifCond .ne 25, 3) := by decide +kernel
theorem dJ2_getChar_3b067_6 : decode cJ2_getChar_3b067 6 = .ok (.iload_n 1, 1) := by decide +kernel
theorem dJ2_getChar_3b067_7 : decode cJ2_getChar_3b067 7 = .ok (.ifCond .lt 11, 3) := by decide +kernel
theorem dJ2_getChar_3b067_10 : decode cJ2_getChar_3b067 10 = .ok (.iload_n 1, 1) := by decide +kernel
theorem dJ2_getChar_3b067_11 : decode cJ2_getChar_3b067 11 = .ok (.aload_n 0, 1) := by decide +kernel
theorem dJ2_getChar_3b067_12 : decode cJ2_getChar_3b067 12 = .ok (.invokestatic 48, 3) := by decide +kernel
theorem dJ2_getChar_3b067_15 : decode cJ2_getChar_3b067 15 = .ok (.if_icmp .lt 13, 3) := by decide +kernel
theorem dJ2_getChar_3b067_18 : decode cJ2_getChar_3b067 18 = .ok (.new 52, 3) := by decide +kernel
theorem dJ2_getChar_3b067_21 : decode cJ2_getChar_3b067 21 = .ok (.dup, 1) := by decide +kernel
theorem dJ2_getChar_3b067_22 : decode cJ2_getChar_3b067 22 = .ok (.ldc 54, 2) := by decide +kernel
theorem dJ2_getChar_3b067_24 : decode cJ2_getChar_3b067 24 = .ok (.invokespecial 56, 3) := by decide +kernel
theorem dJ2_getChar_3b067_27 : decode cJ2_getChar_3b067 27 = .ok (.athrow, 1) := by decide +kernel
theorem dJ2_getChar_3b067_28 : decode cJ2_getChar_3b067 28 = .ok (.iload_n 1, 1) := by decide +kernel
theorem dJ2_getChar_3b067_29 : decode cJ2_getChar_3b067 29 = .ok (.iconst 1, 1) := by decide +kernel
theorem dJ2_getChar_3b067_30 : decode cJ2_getChar_3b067 30 = .ok (.ishl, 1) := by decide +kernel
theorem dJ2_getChar_3b067_31 : decode cJ2_getChar_3b067 31 = .ok (.istore_n 1, 1) := by decide +kernel
theorem dJ2_getChar_3b067_32 : decode cJ2_getChar_3b067 32 = .ok (.aload_n 0, 1) := by decide +kernel
theorem dJ2_getChar_3b067_33 : decode cJ2_getChar_3b067 33 = .ok (.iload_n 1, 1) := by decide +kernel
theorem dJ2_getChar_3b067_34 : decode cJ2_getChar_3b067 34 = .ok (.iinc 1 1, 3) := by decide +kernel
theorem dJ2_getChar_3b067_37 : decode cJ2_getChar_3b067 37 = .ok (.baload, 1) := by decide +kernel
theorem dJ2_getChar_3b067_38 : decode cJ2_getChar_3b067 38 = .ok (.sipush 255, 3) := by decide +kernel
theorem dJ2_getChar_3b067_41 : decode cJ2_getChar_3b067 41 = .ok (.iand, 1) := by decide +kernel
theorem dJ2_getChar_3b067_42 : decode cJ2_getChar_3b067 42 = .ok (.getstatic 59, 3) := by decide +kernel
theorem dJ2_getChar_3b067_45 : decode cJ2_getChar_3b067 45 = .ok (.ishl, 1) := by decide +kernel
theorem dJ2_getChar_3b067_46 : decode cJ2_getChar_3b067 46 = .ok (.aload_n 0, 1) := by decide +kernel
theorem dJ2_getChar_3b067_47 : decode cJ2_getChar_3b067 47 = .ok (.iload_n 1, 1) := by decide +kernel
theorem dJ2_getChar_3b067_48 : decode cJ2_getChar_3b067 48 = .ok (.baload, 1) := by decide +kernel
theorem dJ2_getChar_3b067_49 : decode cJ2_getChar_3b067 49 = .ok (.sipush 255, 3) := by decide +kernel
theorem dJ2_getChar_3b067_52 : decode cJ2_getChar_3b067 52 = .ok (.iand, 1) := by decide +kernel
theorem dJ2_getChar_3b067_53 : decode cJ2_getChar_3b067 53 = .ok (.getstatic 63, 3) := by decide +kernel
theorem dJ2_getChar_3b067_56 : decode cJ2_getChar_3b067 56 = .ok (.ishl, 1) := by decide +kernel
theorem dJ2_getChar_3b067_57 : decode cJ2_getChar_3b067 57 = .ok (.ior, 1) := by decide +kernel
theorem dJ2_getChar_3b067_58 : decode cJ2_getChar_3b067 58 = .ok (.i2c, 1) := by decide +kernel
theorem dJ2_getChar_3b067_59 : decode cJ2_getChar_3b067 59 = .ok (.ireturn, 1) := by decide +kernel
theorem dJ2_length_9d52b_0 : decode cJ2_length_9d52b 0 = .ok (.aload_n 0, 1) := by decide +kernel
theorem dJ2_length_9d52b_1 : decode cJ2_length_9d52b 1 = .ok (.arraylength, 1) := by decide +kernel
theorem dJ2_length_9d52b_2 : decode cJ2_length_9d52b 2 = .ok (.iconst 1, 1) := by decide +kernel
theorem dJ2_length_9d52b_3 : decode cJ2_length_9d52b 3 = .ok (.ishr, 1) := by decide +kernel
theorem dJ2_length_9d52b_4 : decode cJ2_length_9d52b 4 = .ok (.ireturn, 1) := by decide +kernel
theorem dJ2_charAt_3b067_0 : decode cJ2_charAt_3b067 0 = .ok (.iload_n 1, 1) := by decide +kernel
theorem dJ2_charAt_3b067_1 : decode cJ2_charAt_3b067 1 = .ok (.aload_n 0, 1) := by decide +kernel
theorem dJ2_charAt_3b067_2 : decode cJ2_charAt_3b067 2 = .ok (.invokestatic 67, 3) := by decide +kernel
theorem dJ2_charAt_3b067_5 : decode cJ2_charAt_3b067 5 = .ok (.aload_n 0, 1) := by decide +kernel
theorem dJ2_charAt_3b067_6 : decode cJ2_charAt_3b067 6 = .ok (.iload_n 1, 1) := by decide +kernel
theorem dJ2_charAt_3b067_7 : decode cJ2_charAt_3b067 7 = .ok (.invokestatic 71, 3) := by decide +kernel
theorem dJ2_charAt_3b067_10 : decode cJ2_charAt_3b067 10 = .ok (.ireturn, 1) := by decide +kernel
theorem dJ2_checkIndex_2214a_0 : decode cJ2_checkIndex_2214a 0 = .ok (.iload_n 0, 1) := by decide +kernel
theorem dJ2_checkIndex_2214a_1 : decode cJ2_checkIndex_2214a 1 = .ok (.aload_n 1, 1) := by decide +kernel
theorem dJ2_checkIndex_2214a_2 : decode cJ2_checkIndex_2214a 2 = .ok (.invokestatic 48, 3) := by decide +kernel
theorem dJ2_checkIndex_2214a_5 : decode cJ2_checkIndex_2214a 5 = .ok (.invokestatic 414, 3) := by decide +kernel
theorem dJ2_checkIndex_2214a_8 : decode cJ2_checkIndex_2214a 8 = .ok (.return_, 1) := by decide +kernel
theorem dJ3_checkIndex_8e157_0 : decode cJ3_checkIndex_8e157 0 = .ok (.iload_n 0, 1) := by decide +kernel
theorem dJ3_checkIndex_8e157_1 : decode cJ3_checkIndex_8e157 1 = .ok (.ifCond .lt 8, 3) := by decide +kernel
theorem dJ3_checkIndex_8e157_4 : decode cJ3_checkIndex_8e157 4 = .ok (.iload_n 0, 1) := by decide +kernel
theorem dJ3_checkIndex_8e157_5 : decode cJ3_checkIndex_8e157 5 = .ok (.iload_n 1, 1) := by decide +kernel
theorem dJ3_checkIndex_8e157_6 : decode cJ3_checkIndex_8e157 6 = .ok (.if_icmp .lt 10, 3) := by decide +kernel
theorem dJ3_checkIndex_8e157_9 : decode cJ3_checkIndex_8e157 9 = .ok (.aload_n 2, 1) := by decide +kernel
theorem dJ3_checkIndex_8e157_10 : decode cJ3_checkIndex_8e157 10 = .ok (.iload_n 0, 1) := by decide +kernel
theorem dJ3_checkIndex_8e157_11 : decode cJ3_checkIndex_8e157 11 = .ok (.iload_n 1, 1) := by decide +kernel
theorem dJ3_checkIndex_8e157_12 : decode cJ3_checkIndex_8e157 12 = .ok (.invokestatic 95, 3) := by decide +kernel
theorem dJ3_checkIndex_8e157_15 : decode cJ3_checkIndex_8e157 15 = .ok (.athrow, 1) := by decide +kernel
theorem dJ3_checkIndex_8e157_16 : decode cJ3_checkIndex_8e157 16 = .ok (.iload_n 0, 1) := by decide +kernel
theorem dJ3_checkIndex_8e157_17 : decode cJ3_checkIndex_8e157 17 = .ok (.ireturn, 1) := by decide +kernel
theorem dL_law_0 : decode cL_law 0 = .ok (.new 7, 3) := by decide +kernel
theorem dL_law_3 : decode cL_law 3 = .ok (.dup, 1) := by decide +kernel
theorem dL_law_4 : decode cL_law 4 = .ok (.invokespecial 9, 3) := by decide +kernel
theorem dL_law_7 : decode cL_law 7 = .ok (.astore_n 1, 1) := by decide +kernel
theorem dL_law_8 : decode cL_law 8 = .ok (.new 10, 3) := by decide +kernel
theorem dL_law_11 : decode cL_law 11 = .ok (.dup, 1) := by decide +kernel
theorem dL_law_12 : decode cL_law 12 = .ok (.invokespecial 12, 3) := by decide +kernel
theorem dL_law_15 : decode cL_law 15 = .ok (.astore_n 2, 1) := by decide +kernel
theorem dL_law_16 : decode cL_law 16 = .ok (.iconst 0, 1) := by decide +kernel
theorem dL_law_17 : decode cL_law 17 = .ok (.istore_n 3, 1) := by decide +kernel
theorem dL_law_18 : decode cL_law 18 = .ok (.iload_n 3, 1) := by decide +kernel
theorem dL_law_19 : decode cL_law 19 = .ok (.aload_n 0, 1) := by decide +kernel
theorem dL_law_20 : decode cL_law 20 = .ok (.arraylength, 1) := by decide +kernel
theorem dL_law_21 : decode cL_law 21 = .ok (.bipush 6, 2) := by decide +kernel
theorem dL_law_23 : decode cL_law 23 = .ok (.isub, 1) := by decide +kernel
theorem dL_law_24 : decode cL_law 24 = .ok (.if_icmp .gt 914, 3) := by decide +kernel
theorem dL_law_27 : decode cL_law 27 = .ok (.aload_n 0, 1) := by decide +kernel
theorem dL_law_28 : decode cL_law 28 = .ok (.iload_n 3, 1) := by decide +kernel
theorem dL_law_29 : decode cL_law 29 = .ok (.iaload, 1) := by decide +kernel
theorem dL_law_30 : decode cL_law 30 = .ok (.bipush 31, 2) := by decide +kernel
theorem dL_law_32 : decode cL_law 32 = .ok (.iand, 1) := by decide +kernel
theorem dL_law_33 : decode cL_law 33 = .ok (.tableswitch 899 0 21 #[103, 166, 189, 202, 215, 238, 281, 324, 357, 390, 433, 476, 519, 562, 605, 648, 691, 744, 797, 820, 843, 886], 103) := by decide +kernel
theorem dL_law_136 : decode cL_law 136 = .ok (.aload_n 1, 1) := by decide +kernel
theorem dL_law_137 : decode cL_law 137 = .ok (.aload_n 0, 1) := by decide +kernel
theorem dL_law_138 : decode cL_law 138 = .ok (.iload_n 3, 1) := by decide +kernel
theorem dL_law_139 : decode cL_law 139 = .ok (.iconst 1, 1) := by decide +kernel
theorem dL_law_140 : decode cL_law 140 = .ok (.iadd, 1) := by decide +kernel
theorem dL_law_141 : decode cL_law 141 = .ok (.iaload, 1) := by decide +kernel
theorem dL_law_142 : decode cL_law 142 = .ok (.aload_n 0, 1) := by decide +kernel
theorem dL_law_143 : decode cL_law 143 = .ok (.iload_n 3, 1) := by decide +kernel
theorem dL_law_144 : decode cL_law 144 = .ok (.iconst 2, 1) := by decide +kernel
theorem dL_law_145 : decode cL_law 145 = .ok (.iadd, 1) := by decide +kernel
theorem dL_law_146 : decode cL_law 146 = .ok (.iaload, 1) := by decide +kernel
theorem dL_law_147 : decode cL_law 147 = .ok (.aload_n 0, 1) := by decide +kernel
theorem dL_law_148 : decode cL_law 148 = .ok (.iload_n 3, 1) := by decide +kernel
theorem dL_law_149 : decode cL_law 149 = .ok (.iconst 3, 1) := by decide +kernel
theorem dL_law_150 : decode cL_law 150 = .ok (.iadd, 1) := by decide +kernel
theorem dL_law_151 : decode cL_law 151 = .ok (.iaload, 1) := by decide +kernel
theorem dL_law_152 : decode cL_law 152 = .ok (.aload_n 0, 1) := by decide +kernel
theorem dL_law_153 : decode cL_law 153 = .ok (.iload_n 3, 1) := by decide +kernel
theorem dL_law_154 : decode cL_law 154 = .ok (.iconst 4, 1) := by decide +kernel
theorem dL_law_155 : decode cL_law 155 = .ok (.iadd, 1) := by decide +kernel
theorem dL_law_156 : decode cL_law 156 = .ok (.iaload, 1) := by decide +kernel
theorem dL_law_157 : decode cL_law 157 = .ok (.aload_n 0, 1) := by decide +kernel
theorem dL_law_158 : decode cL_law 158 = .ok (.iload_n 3, 1) := by decide +kernel
theorem dL_law_159 : decode cL_law 159 = .ok (.iconst 5, 1) := by decide +kernel
theorem dL_law_160 : decode cL_law 160 = .ok (.iadd, 1) := by decide +kernel
theorem dL_law_161 : decode cL_law 161 = .ok (.iaload, 1) := by decide +kernel
theorem dL_law_162 : decode cL_law 162 = .ok (.invokevirtual 13, 3) := by decide +kernel
theorem dL_law_165 : decode cL_law 165 = .ok (.aload_n 2, 1) := by decide +kernel
theorem dL_law_166 : decode cL_law 166 = .ok (.aload_n 0, 1) := by decide +kernel
theorem dL_law_167 : decode cL_law 167 = .ok (.iload_n 3, 1) := by decide +kernel
theorem dL_law_168 : decode cL_law 168 = .ok (.iconst 1, 1) := by decide +kernel
theorem dL_law_169 : decode cL_law 169 = .ok (.iadd, 1) := by decide +kernel
theorem dL_law_170 : decode cL_law 170 = .ok (.iaload, 1) := by decide +kernel
theorem dL_law_171 : decode cL_law 171 = .ok (.aload_n 0, 1) := by decide +kernel
theorem dL_law_172 : decode cL_law 172 = .ok (.iload_n 3, 1) := by decide +kernel
theorem dL_law_173 : decode cL_law 173 = .ok (.iconst 2, 1) := by decide +kernel
theorem dL_law_174 : decode cL_law 174 = .ok (.iadd, 1) := by decide +kernel
theorem dL_law_175 : decode cL_law 175 = .ok (.iaload, 1) := by decide +kernel
theorem dL_law_176 : decode cL_law 176 = .ok (.aload_n 0, 1) := by decide +kernel
theorem dL_law_177 : decode cL_law 177 = .ok (.iload_n 3, 1) := by decide +kernel
theorem dL_law_178 : decode cL_law 178 = .ok (.iconst 3, 1) := by decide +kernel
theorem dL_law_179 : decode cL_law 179 = .ok (.iadd, 1) := by decide +kernel
theorem dL_law_180 : decode cL_law 180 = .ok (.iaload, 1) := by decide +kernel
theorem dL_law_181 : decode cL_law 181 = .ok (.aload_n 0, 1) := by decide +kernel
theorem dL_law_182 : decode cL_law 182 = .ok (.iload_n 3, 1) := by decide +kernel
theorem dL_law_183 : decode cL_law 183 = .ok (.iconst 4, 1) := by decide +kernel
theorem dL_law_184 : decode cL_law 184 = .ok (.iadd, 1) := by decide +kernel
theorem dL_law_185 : decode cL_law 185 = .ok (.iaload, 1) := by decide +kernel
theorem dL_law_186 : decode cL_law 186 = .ok (.aload_n 0, 1) := by decide +kernel
theorem dL_law_187 : decode cL_law 187 = .ok (.iload_n 3, 1) := by decide +kernel
theorem dL_law_188 : decode cL_law 188 = .ok (.iconst 5, 1) := by decide +kernel
theorem dL_law_189 : decode cL_law 189 = .ok (.iadd, 1) := by decide +kernel
theorem dL_law_190 : decode cL_law 190 = .ok (.iaload, 1) := by decide +kernel
theorem dL_law_191 : decode cL_law 191 = .ok (.invokevirtual 17, 3) := by decide +kernel
theorem dL_law_194 : decode cL_law 194 = .ok (.if_icmp .eq 738, 3) := by decide +kernel
theorem dL_law_197 : decode cL_law 197 = .ok (.iconst 0, 1) := by decide +kernel
theorem dL_law_198 : decode cL_law 198 = .ok (.ireturn, 1) := by decide +kernel
theorem dL_law_199 : decode cL_law 199 = .ok (.aload_n 1, 1) := by decide +kernel
theorem dL_law_200 : decode cL_law 200 = .ok (.aload_n 0, 1) := by decide +kernel
theorem dL_law_201 : decode cL_law 201 = .ok (.iload_n 3, 1) := by decide +kernel
theorem dL_law_202 : decode cL_law 202 = .ok (.iconst 1, 1) := by decide +kernel
theorem dL_law_203 : decode cL_law 203 = .ok (.iadd, 1) := by decide +kernel
theorem dL_law_204 : decode cL_law 204 = .ok (.iaload, 1) := by decide +kernel
theorem dL_law_205 : decode cL_law 205 = .ok (.invokevirtual 18, 3) := by decide +kernel
theorem dL_law_208 : decode cL_law 208 = .ok (.aload_n 2, 1) := by decide +kernel
theorem dL_law_209 : decode cL_law 209 = .ok (.aload_n 0, 1) := by decide +kernel
theorem dL_law_210 : decode cL_law 210 = .ok (.iload_n 3, 1) := by decide +kernel
theorem dL_law_211 : decode cL_law 211 = .ok (.iconst 1, 1) := by decide +kernel
theorem dL_law_212 : decode cL_law 212 = .ok (.iadd, 1) := by decide +kernel
theorem dL_law_213 : decode cL_law 213 = .ok (.iaload, 1) := by decide +kernel
theorem dL_law_214 : decode cL_law 214 = .ok (.invokevirtual 22, 3) := by decide +kernel
theorem dL_law_217 : decode cL_law 217 = .ok (.if_icmp .eq 715, 3) := by decide +kernel
theorem dL_law_220 : decode cL_law 220 = .ok (.iconst 0, 1) := by decide +kernel
theorem dL_law_221 : decode cL_law 221 = .ok (.ireturn, 1) := by decide +kernel
theorem dL_law_222 : decode cL_law 222 = .ok (.aload_n 1, 1) := by decide +kernel
theorem dL_law_223 : decode cL_law 223 = .ok (.invokevirtual 23, 3) := by decide +kernel
theorem dL_law_226 : decode cL_law 226 = .ok (.aload_n 2, 1) := by decide +kernel
theorem dL_law_227 : decode cL_law 227 = .ok (.invokevirtual 27, 3) := by decide +kernel
theorem dL_law_230 : decode cL_law 230 = .ok (.if_icmp .eq 702, 3) := by decide +kernel
theorem dL_law_233 : decode cL_law 233 = .ok (.iconst 0, 1) := by decide +kernel
theorem dL_law_234 : decode cL_law 234 = .ok (.ireturn, 1) := by decide +kernel
theorem dL_law_235 : decode cL_law 235 = .ok (.aload_n 1, 1) := by decide +kernel
theorem dL_law_236 : decode cL_law 236 = .ok (.invokevirtual 28, 3) := by decide +kernel
theorem dL_law_239 : decode cL_law 239 = .ok (.aload_n 2, 1) := by decide +kernel
theorem dL_law_240 : decode cL_law 240 = .ok (.invokevirtual 31, 3) := by decide +kernel
theorem dL_law_243 : decode cL_law 243 = .ok (.if_icmp .eq 689, 3) := by decide +kernel
theorem dL_law_246 : decode cL_law 246 = .ok (.iconst 0, 1) := by decide +kernel
theorem dL_law_247 : decode cL_law 247 = .ok (.ireturn, 1) := by decide +kernel
theorem dL_law_248 : decode cL_law 248 = .ok (.aload_n 1, 1) := by decide +kernel
theorem dL_law_249 : decode cL_law 249 = .ok (.aload_n 0, 1) := by decide +kernel
theorem dL_law_250 : decode cL_law 250 = .ok (.iload_n 3, 1) := by decide +kernel
theorem dL_law_251 : decode cL_law 251 = .ok (.iconst 1, 1) := by decide +kernel
theorem dL_law_252 : decode cL_law 252 = .ok (.iadd, 1) := by decide +kernel
theorem dL_law_253 : decode cL_law 253 = .ok (.iaload, 1) := by decide +kernel
theorem dL_law_254 : decode cL_law 254 = .ok (.invokevirtual 32, 3) := by decide +kernel
theorem dL_law_257 : decode cL_law 257 = .ok (.aload_n 2, 1) := by decide +kernel
theorem dL_law_258 : decode cL_law 258 = .ok (.aload_n 0, 1) := by decide +kernel
theorem dL_law_259 : decode cL_law 259 = .ok (.iload_n 3, 1) := by decide +kernel
theorem dL_law_260 : decode cL_law 260 = .ok (.iconst 1, 1) := by decide +kernel
theorem dL_law_261 : decode cL_law 261 = .ok (.iadd, 1) := by decide +kernel
theorem dL_law_262 : decode cL_law 262 = .ok (.iaload, 1) := by decide +kernel
theorem dL_law_263 : decode cL_law 263 = .ok (.invokevirtual 36, 3) := by decide +kernel
theorem dL_law_266 : decode cL_law 266 = .ok (.if_icmp .eq 666, 3) := by decide +kernel
theorem dL_law_269 : decode cL_law 269 = .ok (.iconst 0, 1) := by decide +kernel
theorem dL_law_270 : decode cL_law 270 = .ok (.ireturn, 1) := by decide +kernel
theorem dL_law_271 : decode cL_law 271 = .ok (.aload_n 1, 1) := by decide +kernel
theorem dL_law_272 : decode cL_law 272 = .ok (.aload_n 0, 1) := by decide +kernel
theorem dL_law_273 : decode cL_law 273 = .ok (.iload_n 3, 1) := by decide +kernel
theorem dL_law_274 : decode cL_law 274 = .ok (.iconst 1, 1) := by decide +kernel
theorem dL_law_275 : decode cL_law 275 = .ok (.iadd, 1) := by decide +kernel
theorem dL_law_276 : decode cL_law 276 = .ok (.iaload, 1) := by decide +kernel
theorem dL_law_277 : decode cL_law 277 = .ok (.aload_n 0, 1) := by decide +kernel
theorem dL_law_278 : decode cL_law 278 = .ok (.iload_n 3, 1) := by decide +kernel
theorem dL_law_279 : decode cL_law 279 = .ok (.iconst 2, 1) := by decide +kernel
theorem dL_law_280 : decode cL_law 280 = .ok (.iadd, 1) := by decide +kernel
theorem dL_law_281 : decode cL_law 281 = .ok (.iaload, 1) := by decide +kernel
theorem dL_law_282 : decode cL_law 282 = .ok (.aload_n 0, 1) := by decide +kernel
theorem dL_law_283 : decode cL_law 283 = .ok (.iload_n 3, 1) := by decide +kernel
theorem dL_law_284 : decode cL_law 284 = .ok (.iconst 3, 1) := by decide +kernel
theorem dL_law_285 : decode cL_law 285 = .ok (.iadd, 1) := by decide +kernel
theorem dL_law_286 : decode cL_law 286 = .ok (.iaload, 1) := by decide +kernel
theorem dL_law_287 : decode cL_law 287 = .ok (.invokevirtual 37, 3) := by decide +kernel
theorem dL_law_290 : decode cL_law 290 = .ok (.aload_n 2, 1) := by decide +kernel
theorem dL_law_291 : decode cL_law 291 = .ok (.aload_n 0, 1) := by decide +kernel
theorem dL_law_292 : decode cL_law 292 = .ok (.iload_n 3, 1) := by decide +kernel
theorem dL_law_293 : decode cL_law 293 = .ok (.iconst 1, 1) := by decide +kernel
theorem dL_law_294 : decode cL_law 294 = .ok (.iadd, 1) := by decide +kernel
theorem dL_law_295 : decode cL_law 295 = .ok (.iaload, 1) := by decide +kernel
theorem dL_law_296 : decode cL_law 296 = .ok (.aload_n 0, 1) := by decide +kernel
theorem dL_law_297 : decode cL_law 297 = .ok (.iload_n 3, 1) := by decide +kernel
theorem dL_law_298 : decode cL_law 298 = .ok (.iconst 2, 1) := by decide +kernel
theorem dL_law_299 : decode cL_law 299 = .ok (.iadd, 1) := by decide +kernel
theorem dL_law_300 : decode cL_law 300 = .ok (.iaload, 1) := by decide +kernel
theorem dL_law_301 : decode cL_law 301 = .ok (.aload_n 0, 1) := by decide +kernel
theorem dL_law_302 : decode cL_law 302 = .ok (.iload_n 3, 1) := by decide +kernel
theorem dL_law_303 : decode cL_law 303 = .ok (.iconst 3, 1) := by decide +kernel
theorem dL_law_304 : decode cL_law 304 = .ok (.iadd, 1) := by decide +kernel
theorem dL_law_305 : decode cL_law 305 = .ok (.iaload, 1) := by decide +kernel
theorem dL_law_306 : decode cL_law 306 = .ok (.invokevirtual 41, 3) := by decide +kernel
theorem dL_law_309 : decode cL_law 309 = .ok (.if_icmp .eq 623, 3) := by decide +kernel
theorem dL_law_312 : decode cL_law 312 = .ok (.iconst 0, 1) := by decide +kernel
theorem dL_law_313 : decode cL_law 313 = .ok (.ireturn, 1) := by decide +kernel
theorem dL_law_314 : decode cL_law 314 = .ok (.aload_n 1, 1) := by decide +kernel
theorem dL_law_315 : decode cL_law 315 = .ok (.aload_n 0, 1) := by decide +kernel
theorem dL_law_316 : decode cL_law 316 = .ok (.iload_n 3, 1) := by decide +kernel
theorem dL_law_317 : decode cL_law 317 = .ok (.iconst 1, 1) := by decide +kernel
theorem dL_law_318 : decode cL_law 318 = .ok (.iadd, 1) := by decide +kernel
theorem dL_law_319 : decode cL_law 319 = .ok (.iaload, 1) := by decide +kernel
theorem dL_law_320 : decode cL_law 320 = .ok (.aload_n 0, 1) := by decide +kernel
theorem dL_law_321 : decode cL_law 321 = .ok (.iload_n 3, 1) := by decide +kernel
theorem dL_law_322 : decode cL_law 322 = .ok (.iconst 2, 1) := by decide +kernel
theorem dL_law_323 : decode cL_law 323 = .ok (.iadd, 1) := by decide +kernel
theorem dL_law_324 : decode cL_law 324 = .ok (.iaload, 1) := by decide +kernel
theorem dL_law_325 : decode cL_law 325 = .ok (.aload_n 0, 1) := by decide +kernel
theorem dL_law_326 : decode cL_law 326 = .ok (.iload_n 3, 1) := by decide +kernel
theorem dL_law_327 : decode cL_law 327 = .ok (.iconst 3, 1) := by decide +kernel
theorem dL_law_328 : decode cL_law 328 = .ok (.iadd, 1) := by decide +kernel
theorem dL_law_329 : decode cL_law 329 = .ok (.iaload, 1) := by decide +kernel
theorem dL_law_330 : decode cL_law 330 = .ok (.invokevirtual 42, 3) := by decide +kernel
theorem dL_law_333 : decode cL_law 333 = .ok (.aload_n 2, 1) := by decide +kernel
theorem dL_law_334 : decode cL_law 334 = .ok (.aload_n 0, 1) := by decide +kernel
theorem dL_law_335 : decode cL_law 335 = .ok (.iload_n 3, 1) := by decide +kernel
theorem dL_law_336 : decode cL_law 336 = .ok (.iconst 1, 1) := by decide +kernel
theorem dL_law_337 : decode cL_law 337 = .ok (.iadd, 1) := by decide +kernel
theorem dL_law_338 : decode cL_law 338 = .ok (.iaload, 1) := by decide +kernel
theorem dL_law_339 : decode cL_law 339 = .ok (.aload_n 0, 1) := by decide +kernel
theorem dL_law_340 : decode cL_law 340 = .ok (.iload_n 3, 1) := by decide +kernel
theorem dL_law_341 : decode cL_law 341 = .ok (.iconst 2, 1) := by decide +kernel
theorem dL_law_342 : decode cL_law 342 = .ok (.iadd, 1) := by decide +kernel
theorem dL_law_343 : decode cL_law 343 = .ok (.iaload, 1) := by decide +kernel
theorem dL_law_344 : decode cL_law 344 = .ok (.aload_n 0, 1) := by decide +kernel
theorem dL_law_345 : decode cL_law 345 = .ok (.iload_n 3, 1) := by decide +kernel
theorem dL_law_346 : decode cL_law 346 = .ok (.iconst 3, 1) := by decide +kernel
theorem dL_law_347 : decode cL_law 347 = .ok (.iadd, 1) := by decide +kernel
theorem dL_law_348 : decode cL_law 348 = .ok (.iaload, 1) := by decide +kernel
theorem dL_law_349 : decode cL_law 349 = .ok (.invokevirtual 45, 3) := by decide +kernel
theorem dL_law_352 : decode cL_law 352 = .ok (.if_icmp .eq 580, 3) := by decide +kernel
theorem dL_law_355 : decode cL_law 355 = .ok (.iconst 0, 1) := by decide +kernel
theorem dL_law_356 : decode cL_law 356 = .ok (.ireturn, 1) := by decide +kernel
theorem dL_law_357 : decode cL_law 357 = .ok (.aload_n 1, 1) := by decide +kernel
theorem dL_law_358 : decode cL_law 358 = .ok (.aload_n 0, 1) := by decide +kernel
theorem dL_law_359 : decode cL_law 359 = .ok (.iload_n 3, 1) := by decide +kernel
theorem dL_law_360 : decode cL_law 360 = .ok (.iconst 1, 1) := by decide +kernel
theorem dL_law_361 : decode cL_law 361 = .ok (.iadd, 1) := by decide +kernel
theorem dL_law_362 : decode cL_law 362 = .ok (.iaload, 1) := by decide +kernel
theorem dL_law_363 : decode cL_law 363 = .ok (.aload_n 0, 1) := by decide +kernel
theorem dL_law_364 : decode cL_law 364 = .ok (.iload_n 3, 1) := by decide +kernel
theorem dL_law_365 : decode cL_law 365 = .ok (.iconst 2, 1) := by decide +kernel
theorem dL_law_366 : decode cL_law 366 = .ok (.iadd, 1) := by decide +kernel
theorem dL_law_367 : decode cL_law 367 = .ok (.iaload, 1) := by decide +kernel
theorem dL_law_368 : decode cL_law 368 = .ok (.invokevirtual 46, 3) := by decide +kernel
theorem dL_law_371 : decode cL_law 371 = .ok (.aload_n 2, 1) := by decide +kernel
theorem dL_law_372 : decode cL_law 372 = .ok (.aload_n 0, 1) := by decide +kernel
theorem dL_law_373 : decode cL_law 373 = .ok (.iload_n 3, 1) := by decide +kernel
theorem dL_law_374 : decode cL_law 374 = .ok (.iconst 1, 1) := by decide +kernel
theorem dL_law_375 : decode cL_law 375 = .ok (.iadd, 1) := by decide +kernel
theorem dL_law_376 : decode cL_law 376 = .ok (.iaload, 1) := by decide +kernel
theorem dL_law_377 : decode cL_law 377 = .ok (.aload_n 0, 1) := by decide +kernel
theorem dL_law_378 : decode cL_law 378 = .ok (.iload_n 3, 1) := by decide +kernel
theorem dL_law_379 : decode cL_law 379 = .ok (.iconst 2, 1) := by decide +kernel
theorem dL_law_380 : decode cL_law 380 = .ok (.iadd, 1) := by decide +kernel
theorem dL_law_381 : decode cL_law 381 = .ok (.iaload, 1) := by decide +kernel
theorem dL_law_382 : decode cL_law 382 = .ok (.invokevirtual 50, 3) := by decide +kernel
theorem dL_law_385 : decode cL_law 385 = .ok (.if_icmp .eq 547, 3) := by decide +kernel
theorem dL_law_388 : decode cL_law 388 = .ok (.iconst 0, 1) := by decide +kernel
theorem dL_law_389 : decode cL_law 389 = .ok (.ireturn, 1) := by decide +kernel
theorem dL_law_390 : decode cL_law 390 = .ok (.aload_n 1, 1) := by decide +kernel
theorem dL_law_391 : decode cL_law 391 = .ok (.aload_n 0, 1) := by decide +kernel
theorem dL_law_392 : decode cL_law 392 = .ok (.iload_n 3, 1) := by decide +kernel
theorem dL_law_393 : decode cL_law 393 = .ok (.iconst 1, 1) := by decide +kernel
theorem dL_law_394 : decode cL_law 394 = .ok (.iadd, 1) := by decide +kernel
theorem dL_law_395 : decode cL_law 395 = .ok (.iaload, 1) := by decide +kernel
theorem dL_law_396 : decode cL_law 396 = .ok (.aload_n 0, 1) := by decide +kernel
theorem dL_law_397 : decode cL_law 397 = .ok (.iload_n 3, 1) := by decide +kernel
theorem dL_law_398 : decode cL_law 398 = .ok (.iconst 2, 1) := by decide +kernel
theorem dL_law_399 : decode cL_law 399 = .ok (.iadd, 1) := by decide +kernel
theorem dL_law_400 : decode cL_law 400 = .ok (.iaload, 1) := by decide +kernel
theorem dL_law_401 : decode cL_law 401 = .ok (.invokevirtual 51, 3) := by decide +kernel
theorem dL_law_404 : decode cL_law 404 = .ok (.aload_n 2, 1) := by decide +kernel
theorem dL_law_405 : decode cL_law 405 = .ok (.aload_n 0, 1) := by decide +kernel
theorem dL_law_406 : decode cL_law 406 = .ok (.iload_n 3, 1) := by decide +kernel
theorem dL_law_407 : decode cL_law 407 = .ok (.iconst 1, 1) := by decide +kernel
theorem dL_law_408 : decode cL_law 408 = .ok (.iadd, 1) := by decide +kernel
theorem dL_law_409 : decode cL_law 409 = .ok (.iaload, 1) := by decide +kernel
theorem dL_law_410 : decode cL_law 410 = .ok (.aload_n 0, 1) := by decide +kernel
theorem dL_law_411 : decode cL_law 411 = .ok (.iload_n 3, 1) := by decide +kernel
theorem dL_law_412 : decode cL_law 412 = .ok (.iconst 2, 1) := by decide +kernel
theorem dL_law_413 : decode cL_law 413 = .ok (.iadd, 1) := by decide +kernel
theorem dL_law_414 : decode cL_law 414 = .ok (.iaload, 1) := by decide +kernel
theorem dL_law_415 : decode cL_law 415 = .ok (.invokevirtual 54, 3) := by decide +kernel
theorem dL_law_418 : decode cL_law 418 = .ok (.if_icmp .eq 514, 3) := by decide +kernel
theorem dL_law_421 : decode cL_law 421 = .ok (.iconst 0, 1) := by decide +kernel
theorem dL_law_422 : decode cL_law 422 = .ok (.ireturn, 1) := by decide +kernel
theorem dL_law_423 : decode cL_law 423 = .ok (.aload_n 1, 1) := by decide +kernel
theorem dL_law_424 : decode cL_law 424 = .ok (.aload_n 0, 1) := by decide +kernel
theorem dL_law_425 : decode cL_law 425 = .ok (.iload_n 3, 1) := by decide +kernel
theorem dL_law_426 : decode cL_law 426 = .ok (.iconst 1, 1) := by decide +kernel
theorem dL_law_427 : decode cL_law 427 = .ok (.iadd, 1) := by decide +kernel
theorem dL_law_428 : decode cL_law 428 = .ok (.iaload, 1) := by decide +kernel
theorem dL_law_429 : decode cL_law 429 = .ok (.aload_n 0, 1) := by decide +kernel
theorem dL_law_430 : decode cL_law 430 = .ok (.iload_n 3, 1) := by decide +kernel
theorem dL_law_431 : decode cL_law 431 = .ok (.iconst 2, 1) := by decide +kernel
theorem dL_law_432 : decode cL_law 432 = .ok (.iadd, 1) := by decide +kernel
theorem dL_law_433 : decode cL_law 433 = .ok (.iaload, 1) := by decide +kernel
theorem dL_law_434 : decode cL_law 434 = .ok (.aload_n 0, 1) := by decide +kernel
theorem dL_law_435 : decode cL_law 435 = .ok (.iload_n 3, 1) := by decide +kernel
theorem dL_law_436 : decode cL_law 436 = .ok (.iconst 3, 1) := by decide +kernel
theorem dL_law_437 : decode cL_law 437 = .ok (.iadd, 1) := by decide +kernel
theorem dL_law_438 : decode cL_law 438 = .ok (.iaload, 1) := by decide +kernel
theorem dL_law_439 : decode cL_law 439 = .ok (.invokevirtual 55, 3) := by decide +kernel
theorem dL_law_442 : decode cL_law 442 = .ok (.aload_n 2, 1) := by decide +kernel
theorem dL_law_443 : decode cL_law 443 = .ok (.aload_n 0, 1) := by decide +kernel
theorem dL_law_444 : decode cL_law 444 = .ok (.iload_n 3, 1) := by decide +kernel
theorem dL_law_445 : decode cL_law 445 = .ok (.iconst 1, 1) := by decide +kernel
theorem dL_law_446 : decode cL_law 446 = .ok (.iadd, 1) := by decide +kernel
theorem dL_law_447 : decode cL_law 447 = .ok (.iaload, 1) := by decide +kernel
theorem dL_law_448 : decode cL_law 448 = .ok (.aload_n 0, 1) := by decide +kernel
theorem dL_law_449 : decode cL_law 449 = .ok (.iload_n 3, 1) := by decide +kernel
theorem dL_law_450 : decode cL_law 450 = .ok (.iconst 2, 1) := by decide +kernel
theorem dL_law_451 : decode cL_law 451 = .ok (.iadd, 1) := by decide +kernel
theorem dL_law_452 : decode cL_law 452 = .ok (.iaload, 1) := by decide +kernel
theorem dL_law_453 : decode cL_law 453 = .ok (.aload_n 0, 1) := by decide +kernel
theorem dL_law_454 : decode cL_law 454 = .ok (.iload_n 3, 1) := by decide +kernel
theorem dL_law_455 : decode cL_law 455 = .ok (.iconst 3, 1) := by decide +kernel
theorem dL_law_456 : decode cL_law 456 = .ok (.iadd, 1) := by decide +kernel
theorem dL_law_457 : decode cL_law 457 = .ok (.iaload, 1) := by decide +kernel
theorem dL_law_458 : decode cL_law 458 = .ok (.invokevirtual 58, 3) := by decide +kernel
theorem dL_law_461 : decode cL_law 461 = .ok (.if_icmp .eq 471, 3) := by decide +kernel
theorem dL_law_464 : decode cL_law 464 = .ok (.iconst 0, 1) := by decide +kernel
theorem dL_law_465 : decode cL_law 465 = .ok (.ireturn, 1) := by decide +kernel
theorem dL_law_466 : decode cL_law 466 = .ok (.aload_n 1, 1) := by decide +kernel
theorem dL_law_467 : decode cL_law 467 = .ok (.aload_n 0, 1) := by decide +kernel
theorem dL_law_468 : decode cL_law 468 = .ok (.iload_n 3, 1) := by decide +kernel
theorem dL_law_469 : decode cL_law 469 = .ok (.iconst 1, 1) := by decide +kernel
theorem dL_law_470 : decode cL_law 470 = .ok (.iadd, 1) := by decide +kernel
theorem dL_law_471 : decode cL_law 471 = .ok (.iaload, 1) := by decide +kernel
theorem dL_law_472 : decode cL_law 472 = .ok (.aload_n 0, 1) := by decide +kernel
theorem dL_law_473 : decode cL_law 473 = .ok (.iload_n 3, 1) := by decide +kernel
theorem dL_law_474 : decode cL_law 474 = .ok (.iconst 2, 1) := by decide +kernel
theorem dL_law_475 : decode cL_law 475 = .ok (.iadd, 1) := by decide +kernel
theorem dL_law_476 : decode cL_law 476 = .ok (.iaload, 1) := by decide +kernel
theorem dL_law_477 : decode cL_law 477 = .ok (.aload_n 0, 1) := by decide +kernel
theorem dL_law_478 : decode cL_law 478 = .ok (.iload_n 3, 1) := by decide +kernel
theorem dL_law_479 : decode cL_law 479 = .ok (.iconst 3, 1) := by decide +kernel
theorem dL_law_480 : decode cL_law 480 = .ok (.iadd, 1) := by decide +kernel
theorem dL_law_481 : decode cL_law 481 = .ok (.iaload, 1) := by decide +kernel
theorem dL_law_482 : decode cL_law 482 = .ok (.invokevirtual 59, 3) := by decide +kernel
theorem dL_law_485 : decode cL_law 485 = .ok (.aload_n 2, 1) := by decide +kernel
theorem dL_law_486 : decode cL_law 486 = .ok (.aload_n 0, 1) := by decide +kernel
theorem dL_law_487 : decode cL_law 487 = .ok (.iload_n 3, 1) := by decide +kernel
theorem dL_law_488 : decode cL_law 488 = .ok (.iconst 1, 1) := by decide +kernel
theorem dL_law_489 : decode cL_law 489 = .ok (.iadd, 1) := by decide +kernel
theorem dL_law_490 : decode cL_law 490 = .ok (.iaload, 1) := by decide +kernel
theorem dL_law_491 : decode cL_law 491 = .ok (.aload_n 0, 1) := by decide +kernel
theorem dL_law_492 : decode cL_law 492 = .ok (.iload_n 3, 1) := by decide +kernel
theorem dL_law_493 : decode cL_law 493 = .ok (.iconst 2, 1) := by decide +kernel
theorem dL_law_494 : decode cL_law 494 = .ok (.iadd, 1) := by decide +kernel
theorem dL_law_495 : decode cL_law 495 = .ok (.iaload, 1) := by decide +kernel
theorem dL_law_496 : decode cL_law 496 = .ok (.aload_n 0, 1) := by decide +kernel
theorem dL_law_497 : decode cL_law 497 = .ok (.iload_n 3, 1) := by decide +kernel
theorem dL_law_498 : decode cL_law 498 = .ok (.iconst 3, 1) := by decide +kernel
theorem dL_law_499 : decode cL_law 499 = .ok (.iadd, 1) := by decide +kernel
theorem dL_law_500 : decode cL_law 500 = .ok (.iaload, 1) := by decide +kernel
theorem dL_law_501 : decode cL_law 501 = .ok (.invokevirtual 62, 3) := by decide +kernel
theorem dL_law_504 : decode cL_law 504 = .ok (.if_icmp .eq 428, 3) := by decide +kernel
theorem dL_law_507 : decode cL_law 507 = .ok (.iconst 0, 1) := by decide +kernel
theorem dL_law_508 : decode cL_law 508 = .ok (.ireturn, 1) := by decide +kernel
theorem dL_law_509 : decode cL_law 509 = .ok (.aload_n 1, 1) := by decide +kernel
theorem dL_law_510 : decode cL_law 510 = .ok (.aload_n 0, 1) := by decide +kernel
theorem dL_law_511 : decode cL_law 511 = .ok (.iload_n 3, 1) := by decide +kernel
theorem dL_law_512 : decode cL_law 512 = .ok (.iconst 1, 1) := by decide +kernel
theorem dL_law_513 : decode cL_law 513 = .ok (.iadd, 1) := by decide +kernel
theorem dL_law_514 : decode cL_law 514 = .ok (.iaload, 1) := by decide +kernel
theorem dL_law_515 : decode cL_law 515 = .ok (.aload_n 0, 1) := by decide +kernel
theorem dL_law_516 : decode cL_law 516 = .ok (.iload_n 3, 1) := by decide +kernel
theorem dL_law_517 : decode cL_law 517 = .ok (.iconst 2, 1) := by decide +kernel
theorem dL_law_518 : decode cL_law 518 = .ok (.iadd, 1) := by decide +kernel
theorem dL_law_519 : decode cL_law 519 = .ok (.iaload, 1) := by decide +kernel
theorem dL_law_520 : decode cL_law 520 = .ok (.aload_n 0, 1) := by decide +kernel
theorem dL_law_521 : decode cL_law 521 = .ok (.iload_n 3, 1) := by decide +kernel
theorem dL_law_522 : decode cL_law 522 = .ok (.iconst 3, 1) := by decide +kernel
theorem dL_law_523 : decode cL_law 523 = .ok (.iadd, 1) := by decide +kernel
theorem dL_law_524 : decode cL_law 524 = .ok (.iaload, 1) := by decide +kernel
theorem dL_law_525 : decode cL_law 525 = .ok (.invokevirtual 63, 3) := by decide +kernel
theorem dL_law_528 : decode cL_law 528 = .ok (.aload_n 2, 1) := by decide +kernel
theorem dL_law_529 : decode cL_law 529 = .ok (.aload_n 0, 1) := by decide +kernel
theorem dL_law_530 : decode cL_law 530 = .ok (.iload_n 3, 1) := by decide +kernel
theorem dL_law_531 : decode cL_law 531 = .ok (.iconst 1, 1) := by decide +kernel
theorem dL_law_532 : decode cL_law 532 = .ok (.iadd, 1) := by decide +kernel
theorem dL_law_533 : decode cL_law 533 = .ok (.iaload, 1) := by decide +kernel
theorem dL_law_534 : decode cL_law 534 = .ok (.aload_n 0, 1) := by decide +kernel
theorem dL_law_535 : decode cL_law 535 = .ok (.iload_n 3, 1) := by decide +kernel
theorem dL_law_536 : decode cL_law 536 = .ok (.iconst 2, 1) := by decide +kernel
theorem dL_law_537 : decode cL_law 537 = .ok (.iadd, 1) := by decide +kernel
theorem dL_law_538 : decode cL_law 538 = .ok (.iaload, 1) := by decide +kernel
theorem dL_law_539 : decode cL_law 539 = .ok (.aload_n 0, 1) := by decide +kernel
theorem dL_law_540 : decode cL_law 540 = .ok (.iload_n 3, 1) := by decide +kernel
theorem dL_law_541 : decode cL_law 541 = .ok (.iconst 3, 1) := by decide +kernel
theorem dL_law_542 : decode cL_law 542 = .ok (.iadd, 1) := by decide +kernel
theorem dL_law_543 : decode cL_law 543 = .ok (.iaload, 1) := by decide +kernel
theorem dL_law_544 : decode cL_law 544 = .ok (.invokevirtual 66, 3) := by decide +kernel
theorem dL_law_547 : decode cL_law 547 = .ok (.if_icmp .eq 385, 3) := by decide +kernel
theorem dL_law_550 : decode cL_law 550 = .ok (.iconst 0, 1) := by decide +kernel
theorem dL_law_551 : decode cL_law 551 = .ok (.ireturn, 1) := by decide +kernel
theorem dL_law_552 : decode cL_law 552 = .ok (.aload_n 1, 1) := by decide +kernel
theorem dL_law_553 : decode cL_law 553 = .ok (.aload_n 0, 1) := by decide +kernel
theorem dL_law_554 : decode cL_law 554 = .ok (.iload_n 3, 1) := by decide +kernel
theorem dL_law_555 : decode cL_law 555 = .ok (.iconst 1, 1) := by decide +kernel
theorem dL_law_556 : decode cL_law 556 = .ok (.iadd, 1) := by decide +kernel
theorem dL_law_557 : decode cL_law 557 = .ok (.iaload, 1) := by decide +kernel
theorem dL_law_558 : decode cL_law 558 = .ok (.aload_n 0, 1) := by decide +kernel
theorem dL_law_559 : decode cL_law 559 = .ok (.iload_n 3, 1) := by decide +kernel
theorem dL_law_560 : decode cL_law 560 = .ok (.iconst 2, 1) := by decide +kernel
theorem dL_law_561 : decode cL_law 561 = .ok (.iadd, 1) := by decide +kernel
theorem dL_law_562 : decode cL_law 562 = .ok (.iaload, 1) := by decide +kernel
theorem dL_law_563 : decode cL_law 563 = .ok (.aload_n 0, 1) := by decide +kernel
theorem dL_law_564 : decode cL_law 564 = .ok (.iload_n 3, 1) := by decide +kernel
theorem dL_law_565 : decode cL_law 565 = .ok (.iconst 3, 1) := by decide +kernel
theorem dL_law_566 : decode cL_law 566 = .ok (.iadd, 1) := by decide +kernel
theorem dL_law_567 : decode cL_law 567 = .ok (.iaload, 1) := by decide +kernel
theorem dL_law_568 : decode cL_law 568 = .ok (.invokevirtual 67, 3) := by decide +kernel
theorem dL_law_571 : decode cL_law 571 = .ok (.aload_n 2, 1) := by decide +kernel
theorem dL_law_572 : decode cL_law 572 = .ok (.aload_n 0, 1) := by decide +kernel
theorem dL_law_573 : decode cL_law 573 = .ok (.iload_n 3, 1) := by decide +kernel
theorem dL_law_574 : decode cL_law 574 = .ok (.iconst 1, 1) := by decide +kernel
theorem dL_law_575 : decode cL_law 575 = .ok (.iadd, 1) := by decide +kernel
theorem dL_law_576 : decode cL_law 576 = .ok (.iaload, 1) := by decide +kernel
theorem dL_law_577 : decode cL_law 577 = .ok (.aload_n 0, 1) := by decide +kernel
theorem dL_law_578 : decode cL_law 578 = .ok (.iload_n 3, 1) := by decide +kernel
theorem dL_law_579 : decode cL_law 579 = .ok (.iconst 2, 1) := by decide +kernel
theorem dL_law_580 : decode cL_law 580 = .ok (.iadd, 1) := by decide +kernel
theorem dL_law_581 : decode cL_law 581 = .ok (.iaload, 1) := by decide +kernel
theorem dL_law_582 : decode cL_law 582 = .ok (.aload_n 0, 1) := by decide +kernel
theorem dL_law_583 : decode cL_law 583 = .ok (.iload_n 3, 1) := by decide +kernel
theorem dL_law_584 : decode cL_law 584 = .ok (.iconst 3, 1) := by decide +kernel
theorem dL_law_585 : decode cL_law 585 = .ok (.iadd, 1) := by decide +kernel
theorem dL_law_586 : decode cL_law 586 = .ok (.iaload, 1) := by decide +kernel
theorem dL_law_587 : decode cL_law 587 = .ok (.invokevirtual 70, 3) := by decide +kernel
theorem dL_law_590 : decode cL_law 590 = .ok (.if_icmp .eq 342, 3) := by decide +kernel
theorem dL_law_593 : decode cL_law 593 = .ok (.iconst 0, 1) := by decide +kernel
theorem dL_law_594 : decode cL_law 594 = .ok (.ireturn, 1) := by decide +kernel
theorem dL_law_595 : decode cL_law 595 = .ok (.aload_n 1, 1) := by decide +kernel
theorem dL_law_596 : decode cL_law 596 = .ok (.aload_n 0, 1) := by decide +kernel
theorem dL_law_597 : decode cL_law 597 = .ok (.iload_n 3, 1) := by decide +kernel
theorem dL_law_598 : decode cL_law 598 = .ok (.iconst 1, 1) := by decide +kernel
theorem dL_law_599 : decode cL_law 599 = .ok (.iadd, 1) := by decide +kernel
theorem dL_law_600 : decode cL_law 600 = .ok (.iaload, 1) := by decide +kernel
theorem dL_law_601 : decode cL_law 601 = .ok (.aload_n 0, 1) := by decide +kernel
theorem dL_law_602 : decode cL_law 602 = .ok (.iload_n 3, 1) := by decide +kernel
theorem dL_law_603 : decode cL_law 603 = .ok (.iconst 2, 1) := by decide +kernel
theorem dL_law_604 : decode cL_law 604 = .ok (.iadd, 1) := by decide +kernel
theorem dL_law_605 : decode cL_law 605 = .ok (.iaload, 1) := by decide +kernel
theorem dL_law_606 : decode cL_law 606 = .ok (.aload_n 0, 1) := by decide +kernel
theorem dL_law_607 : decode cL_law 607 = .ok (.iload_n 3, 1) := by decide +kernel
theorem dL_law_608 : decode cL_law 608 = .ok (.iconst 3, 1) := by decide +kernel
theorem dL_law_609 : decode cL_law 609 = .ok (.iadd, 1) := by decide +kernel
theorem dL_law_610 : decode cL_law 610 = .ok (.iaload, 1) := by decide +kernel
theorem dL_law_611 : decode cL_law 611 = .ok (.invokevirtual 71, 3) := by decide +kernel
theorem dL_law_614 : decode cL_law 614 = .ok (.aload_n 2, 1) := by decide +kernel
theorem dL_law_615 : decode cL_law 615 = .ok (.aload_n 0, 1) := by decide +kernel
theorem dL_law_616 : decode cL_law 616 = .ok (.iload_n 3, 1) := by decide +kernel
theorem dL_law_617 : decode cL_law 617 = .ok (.iconst 1, 1) := by decide +kernel
theorem dL_law_618 : decode cL_law 618 = .ok (.iadd, 1) := by decide +kernel
theorem dL_law_619 : decode cL_law 619 = .ok (.iaload, 1) := by decide +kernel
theorem dL_law_620 : decode cL_law 620 = .ok (.aload_n 0, 1) := by decide +kernel
theorem dL_law_621 : decode cL_law 621 = .ok (.iload_n 3, 1) := by decide +kernel
theorem dL_law_622 : decode cL_law 622 = .ok (.iconst 2, 1) := by decide +kernel
theorem dL_law_623 : decode cL_law 623 = .ok (.iadd, 1) := by decide +kernel
theorem dL_law_624 : decode cL_law 624 = .ok (.iaload, 1) := by decide +kernel
theorem dL_law_625 : decode cL_law 625 = .ok (.aload_n 0, 1) := by decide +kernel
theorem dL_law_626 : decode cL_law 626 = .ok (.iload_n 3, 1) := by decide +kernel
theorem dL_law_627 : decode cL_law 627 = .ok (.iconst 3, 1) := by decide +kernel
theorem dL_law_628 : decode cL_law 628 = .ok (.iadd, 1) := by decide +kernel
theorem dL_law_629 : decode cL_law 629 = .ok (.iaload, 1) := by decide +kernel
theorem dL_law_630 : decode cL_law 630 = .ok (.invokevirtual 74, 3) := by decide +kernel
theorem dL_law_633 : decode cL_law 633 = .ok (.if_icmp .eq 299, 3) := by decide +kernel
theorem dL_law_636 : decode cL_law 636 = .ok (.iconst 0, 1) := by decide +kernel
theorem dL_law_637 : decode cL_law 637 = .ok (.ireturn, 1) := by decide +kernel
theorem dL_law_638 : decode cL_law 638 = .ok (.aload_n 1, 1) := by decide +kernel
theorem dL_law_639 : decode cL_law 639 = .ok (.aload_n 0, 1) := by decide +kernel
theorem dL_law_640 : decode cL_law 640 = .ok (.iload_n 3, 1) := by decide +kernel
theorem dL_law_641 : decode cL_law 641 = .ok (.iconst 1, 1) := by decide +kernel
theorem dL_law_642 : decode cL_law 642 = .ok (.iadd, 1) := by decide +kernel
theorem dL_law_643 : decode cL_law 643 = .ok (.iaload, 1) := by decide +kernel
theorem dL_law_644 : decode cL_law 644 = .ok (.aload_n 0, 1) := by decide +kernel
theorem dL_law_645 : decode cL_law 645 = .ok (.iload_n 3, 1) := by decide +kernel
theorem dL_law_646 : decode cL_law 646 = .ok (.iconst 2, 1) := by decide +kernel
theorem dL_law_647 : decode cL_law 647 = .ok (.iadd, 1) := by decide +kernel
theorem dL_law_648 : decode cL_law 648 = .ok (.iaload, 1) := by decide +kernel
theorem dL_law_649 : decode cL_law 649 = .ok (.aload_n 0, 1) := by decide +kernel
theorem dL_law_650 : decode cL_law 650 = .ok (.iload_n 3, 1) := by decide +kernel
theorem dL_law_651 : decode cL_law 651 = .ok (.iconst 3, 1) := by decide +kernel
theorem dL_law_652 : decode cL_law 652 = .ok (.iadd, 1) := by decide +kernel
theorem dL_law_653 : decode cL_law 653 = .ok (.iaload, 1) := by decide +kernel
theorem dL_law_654 : decode cL_law 654 = .ok (.invokevirtual 75, 3) := by decide +kernel
theorem dL_law_657 : decode cL_law 657 = .ok (.aload_n 2, 1) := by decide +kernel
theorem dL_law_658 : decode cL_law 658 = .ok (.aload_n 0, 1) := by decide +kernel
theorem dL_law_659 : decode cL_law 659 = .ok (.iload_n 3, 1) := by decide +kernel
theorem dL_law_660 : decode cL_law 660 = .ok (.iconst 1, 1) := by decide +kernel
theorem dL_law_661 : decode cL_law 661 = .ok (.iadd, 1) := by decide +kernel
theorem dL_law_662 : decode cL_law 662 = .ok (.iaload, 1) := by decide +kernel
theorem dL_law_663 : decode cL_law 663 = .ok (.aload_n 0, 1) := by decide +kernel
theorem dL_law_664 : decode cL_law 664 = .ok (.iload_n 3, 1) := by decide +kernel
theorem dL_law_665 : decode cL_law 665 = .ok (.iconst 2, 1) := by decide +kernel
theorem dL_law_666 : decode cL_law 666 = .ok (.iadd, 1) := by decide +kernel
theorem dL_law_667 : decode cL_law 667 = .ok (.iaload, 1) := by decide +kernel
theorem dL_law_668 : decode cL_law 668 = .ok (.aload_n 0, 1) := by decide +kernel
theorem dL_law_669 : decode cL_law 669 = .ok (.iload_n 3, 1) := by decide +kernel
theorem dL_law_670 : decode cL_law 670 = .ok (.iconst 3, 1) := by decide +kernel
theorem dL_law_671 : decode cL_law 671 = .ok (.iadd, 1) := by decide +kernel
theorem dL_law_672 : decode cL_law 672 = .ok (.iaload, 1) := by decide +kernel
theorem dL_law_673 : decode cL_law 673 = .ok (.invokevirtual 78, 3) := by decide +kernel
theorem dL_law_676 : decode cL_law 676 = .ok (.if_icmp .eq 256, 3) := by decide +kernel
theorem dL_law_679 : decode cL_law 679 = .ok (.iconst 0, 1) := by decide +kernel
theorem dL_law_680 : decode cL_law 680 = .ok (.ireturn, 1) := by decide +kernel
theorem dL_law_681 : decode cL_law 681 = .ok (.aload_n 1, 1) := by decide +kernel
theorem dL_law_682 : decode cL_law 682 = .ok (.aload_n 0, 1) := by decide +kernel
theorem dL_law_683 : decode cL_law 683 = .ok (.iload_n 3, 1) := by decide +kernel
theorem dL_law_684 : decode cL_law 684 = .ok (.iconst 1, 1) := by decide +kernel
theorem dL_law_685 : decode cL_law 685 = .ok (.iadd, 1) := by decide +kernel
theorem dL_law_686 : decode cL_law 686 = .ok (.iaload, 1) := by decide +kernel
theorem dL_law_687 : decode cL_law 687 = .ok (.aload_n 0, 1) := by decide +kernel
theorem dL_law_688 : decode cL_law 688 = .ok (.iload_n 3, 1) := by decide +kernel
theorem dL_law_689 : decode cL_law 689 = .ok (.iconst 2, 1) := by decide +kernel
theorem dL_law_690 : decode cL_law 690 = .ok (.iadd, 1) := by decide +kernel
theorem dL_law_691 : decode cL_law 691 = .ok (.iaload, 1) := by decide +kernel
theorem dL_law_692 : decode cL_law 692 = .ok (.aload_n 0, 1) := by decide +kernel
theorem dL_law_693 : decode cL_law 693 = .ok (.iload_n 3, 1) := by decide +kernel
theorem dL_law_694 : decode cL_law 694 = .ok (.iconst 3, 1) := by decide +kernel
theorem dL_law_695 : decode cL_law 695 = .ok (.iadd, 1) := by decide +kernel
theorem dL_law_696 : decode cL_law 696 = .ok (.iaload, 1) := by decide +kernel
theorem dL_law_697 : decode cL_law 697 = .ok (.invokevirtual 79, 3) := by decide +kernel
theorem dL_law_700 : decode cL_law 700 = .ok (.aload_n 2, 1) := by decide +kernel
theorem dL_law_701 : decode cL_law 701 = .ok (.aload_n 0, 1) := by decide +kernel
theorem dL_law_702 : decode cL_law 702 = .ok (.iload_n 3, 1) := by decide +kernel
theorem dL_law_703 : decode cL_law 703 = .ok (.iconst 1, 1) := by decide +kernel
theorem dL_law_704 : decode cL_law 704 = .ok (.iadd, 1) := by decide +kernel
theorem dL_law_705 : decode cL_law 705 = .ok (.iaload, 1) := by decide +kernel
theorem dL_law_706 : decode cL_law 706 = .ok (.aload_n 0, 1) := by decide +kernel
theorem dL_law_707 : decode cL_law 707 = .ok (.iload_n 3, 1) := by decide +kernel
theorem dL_law_708 : decode cL_law 708 = .ok (.iconst 2, 1) := by decide +kernel
theorem dL_law_709 : decode cL_law 709 = .ok (.iadd, 1) := by decide +kernel
theorem dL_law_710 : decode cL_law 710 = .ok (.iaload, 1) := by decide +kernel
theorem dL_law_711 : decode cL_law 711 = .ok (.aload_n 0, 1) := by decide +kernel
theorem dL_law_712 : decode cL_law 712 = .ok (.iload_n 3, 1) := by decide +kernel
theorem dL_law_713 : decode cL_law 713 = .ok (.iconst 3, 1) := by decide +kernel
theorem dL_law_714 : decode cL_law 714 = .ok (.iadd, 1) := by decide +kernel
theorem dL_law_715 : decode cL_law 715 = .ok (.iaload, 1) := by decide +kernel
theorem dL_law_716 : decode cL_law 716 = .ok (.invokevirtual 82, 3) := by decide +kernel
theorem dL_law_719 : decode cL_law 719 = .ok (.if_icmp .eq 213, 3) := by decide +kernel
theorem dL_law_722 : decode cL_law 722 = .ok (.iconst 0, 1) := by decide +kernel
theorem dL_law_723 : decode cL_law 723 = .ok (.ireturn, 1) := by decide +kernel
theorem dL_law_724 : decode cL_law 724 = .ok (.aload_n 1, 1) := by decide +kernel
theorem dL_law_725 : decode cL_law 725 = .ok (.aload_n 0, 1) := by decide +kernel
theorem dL_law_726 : decode cL_law 726 = .ok (.iload_n 3, 1) := by decide +kernel
theorem dL_law_727 : decode cL_law 727 = .ok (.iconst 1, 1) := by decide +kernel
theorem dL_law_728 : decode cL_law 728 = .ok (.iadd, 1) := by decide +kernel
theorem dL_law_729 : decode cL_law 729 = .ok (.iaload, 1) := by decide +kernel
theorem dL_law_730 : decode cL_law 730 = .ok (.aload_n 0, 1) := by decide +kernel
theorem dL_law_731 : decode cL_law 731 = .ok (.iload_n 3, 1) := by decide +kernel
theorem dL_law_732 : decode cL_law 732 = .ok (.iconst 2, 1) := by decide +kernel
theorem dL_law_733 : decode cL_law 733 = .ok (.iadd, 1) := by decide +kernel
theorem dL_law_734 : decode cL_law 734 = .ok (.iaload, 1) := by decide +kernel
theorem dL_law_735 : decode cL_law 735 = .ok (.aload_n 0, 1) := by decide +kernel
theorem dL_law_736 : decode cL_law 736 = .ok (.iload_n 3, 1) := by decide +kernel
theorem dL_law_737 : decode cL_law 737 = .ok (.iconst 3, 1) := by decide +kernel
theorem dL_law_738 : decode cL_law 738 = .ok (.iadd, 1) := by decide +kernel
theorem dL_law_739 : decode cL_law 739 = .ok (.iaload, 1) := by decide +kernel
theorem dL_law_740 : decode cL_law 740 = .ok (.aload_n 0, 1) := by decide +kernel
theorem dL_law_741 : decode cL_law 741 = .ok (.iload_n 3, 1) := by decide +kernel
theorem dL_law_742 : decode cL_law 742 = .ok (.iconst 4, 1) := by decide +kernel
theorem dL_law_743 : decode cL_law 743 = .ok (.iadd, 1) := by decide +kernel
theorem dL_law_744 : decode cL_law 744 = .ok (.iaload, 1) := by decide +kernel
theorem dL_law_745 : decode cL_law 745 = .ok (.invokevirtual 83, 3) := by decide +kernel
theorem dL_law_748 : decode cL_law 748 = .ok (.aload_n 2, 1) := by decide +kernel
theorem dL_law_749 : decode cL_law 749 = .ok (.aload_n 0, 1) := by decide +kernel
theorem dL_law_750 : decode cL_law 750 = .ok (.iload_n 3, 1) := by decide +kernel
theorem dL_law_751 : decode cL_law 751 = .ok (.iconst 1, 1) := by decide +kernel
theorem dL_law_752 : decode cL_law 752 = .ok (.iadd, 1) := by decide +kernel
theorem dL_law_753 : decode cL_law 753 = .ok (.iaload, 1) := by decide +kernel
theorem dL_law_754 : decode cL_law 754 = .ok (.aload_n 0, 1) := by decide +kernel
theorem dL_law_755 : decode cL_law 755 = .ok (.iload_n 3, 1) := by decide +kernel
theorem dL_law_756 : decode cL_law 756 = .ok (.iconst 2, 1) := by decide +kernel
theorem dL_law_757 : decode cL_law 757 = .ok (.iadd, 1) := by decide +kernel
theorem dL_law_758 : decode cL_law 758 = .ok (.iaload, 1) := by decide +kernel
theorem dL_law_759 : decode cL_law 759 = .ok (.aload_n 0, 1) := by decide +kernel
theorem dL_law_760 : decode cL_law 760 = .ok (.iload_n 3, 1) := by decide +kernel
theorem dL_law_761 : decode cL_law 761 = .ok (.iconst 3, 1) := by decide +kernel
theorem dL_law_762 : decode cL_law 762 = .ok (.iadd, 1) := by decide +kernel
theorem dL_law_763 : decode cL_law 763 = .ok (.iaload, 1) := by decide +kernel
theorem dL_law_764 : decode cL_law 764 = .ok (.aload_n 0, 1) := by decide +kernel
theorem dL_law_765 : decode cL_law 765 = .ok (.iload_n 3, 1) := by decide +kernel
theorem dL_law_766 : decode cL_law 766 = .ok (.iconst 4, 1) := by decide +kernel
theorem dL_law_767 : decode cL_law 767 = .ok (.iadd, 1) := by decide +kernel
theorem dL_law_768 : decode cL_law 768 = .ok (.iaload, 1) := by decide +kernel
theorem dL_law_769 : decode cL_law 769 = .ok (.invokevirtual 87, 3) := by decide +kernel
theorem dL_law_772 : decode cL_law 772 = .ok (.if_icmp .eq 160, 3) := by decide +kernel
theorem dL_law_775 : decode cL_law 775 = .ok (.iconst 0, 1) := by decide +kernel
theorem dL_law_776 : decode cL_law 776 = .ok (.ireturn, 1) := by decide +kernel
theorem dL_law_777 : decode cL_law 777 = .ok (.aload_n 1, 1) := by decide +kernel
theorem dL_law_778 : decode cL_law 778 = .ok (.aload_n 0, 1) := by decide +kernel
theorem dL_law_779 : decode cL_law 779 = .ok (.iload_n 3, 1) := by decide +kernel
theorem dL_law_780 : decode cL_law 780 = .ok (.iconst 1, 1) := by decide +kernel
theorem dL_law_781 : decode cL_law 781 = .ok (.iadd, 1) := by decide +kernel
theorem dL_law_782 : decode cL_law 782 = .ok (.iaload, 1) := by decide +kernel
theorem dL_law_783 : decode cL_law 783 = .ok (.aload_n 0, 1) := by decide +kernel
theorem dL_law_784 : decode cL_law 784 = .ok (.iload_n 3, 1) := by decide +kernel
theorem dL_law_785 : decode cL_law 785 = .ok (.iconst 2, 1) := by decide +kernel
theorem dL_law_786 : decode cL_law 786 = .ok (.iadd, 1) := by decide +kernel
theorem dL_law_787 : decode cL_law 787 = .ok (.iaload, 1) := by decide +kernel
theorem dL_law_788 : decode cL_law 788 = .ok (.aload_n 0, 1) := by decide +kernel
theorem dL_law_789 : decode cL_law 789 = .ok (.iload_n 3, 1) := by decide +kernel
theorem dL_law_790 : decode cL_law 790 = .ok (.iconst 3, 1) := by decide +kernel
theorem dL_law_791 : decode cL_law 791 = .ok (.iadd, 1) := by decide +kernel
theorem dL_law_792 : decode cL_law 792 = .ok (.iaload, 1) := by decide +kernel
theorem dL_law_793 : decode cL_law 793 = .ok (.aload_n 0, 1) := by decide +kernel
theorem dL_law_794 : decode cL_law 794 = .ok (.iload_n 3, 1) := by decide +kernel
theorem dL_law_795 : decode cL_law 795 = .ok (.iconst 4, 1) := by decide +kernel
theorem dL_law_796 : decode cL_law 796 = .ok (.iadd, 1) := by decide +kernel
theorem dL_law_797 : decode cL_law 797 = .ok (.iaload, 1) := by decide +kernel
theorem dL_law_798 : decode cL_law 798 = .ok (.invokevirtual 88, 3) := by decide +kernel
theorem dL_law_801 : decode cL_law 801 = .ok (.aload_n 2, 1) := by decide +kernel
theorem dL_law_802 : decode cL_law 802 = .ok (.aload_n 0, 1) := by decide +kernel
theorem dL_law_803 : decode cL_law 803 = .ok (.iload_n 3, 1) := by decide +kernel
theorem dL_law_804 : decode cL_law 804 = .ok (.iconst 1, 1) := by decide +kernel
theorem dL_law_805 : decode cL_law 805 = .ok (.iadd, 1) := by decide +kernel
theorem dL_law_806 : decode cL_law 806 = .ok (.iaload, 1) := by decide +kernel
theorem dL_law_807 : decode cL_law 807 = .ok (.aload_n 0, 1) := by decide +kernel
theorem dL_law_808 : decode cL_law 808 = .ok (.iload_n 3, 1) := by decide +kernel
theorem dL_law_809 : decode cL_law 809 = .ok (.iconst 2, 1) := by decide +kernel
theorem dL_law_810 : decode cL_law 810 = .ok (.iadd, 1) := by decide +kernel
theorem dL_law_811 : decode cL_law 811 = .ok (.iaload, 1) := by decide +kernel
theorem dL_law_812 : decode cL_law 812 = .ok (.aload_n 0, 1) := by decide +kernel
theorem dL_law_813 : decode cL_law 813 = .ok (.iload_n 3, 1) := by decide +kernel
theorem dL_law_814 : decode cL_law 814 = .ok (.iconst 3, 1) := by decide +kernel
theorem dL_law_815 : decode cL_law 815 = .ok (.iadd, 1) := by decide +kernel
theorem dL_law_816 : decode cL_law 816 = .ok (.iaload, 1) := by decide +kernel
theorem dL_law_817 : decode cL_law 817 = .ok (.aload_n 0, 1) := by decide +kernel
theorem dL_law_818 : decode cL_law 818 = .ok (.iload_n 3, 1) := by decide +kernel
theorem dL_law_819 : decode cL_law 819 = .ok (.iconst 4, 1) := by decide +kernel
theorem dL_law_820 : decode cL_law 820 = .ok (.iadd, 1) := by decide +kernel
theorem dL_law_821 : decode cL_law 821 = .ok (.iaload, 1) := by decide +kernel
theorem dL_law_822 : decode cL_law 822 = .ok (.invokevirtual 91, 3) := by decide +kernel
theorem dL_law_825 : decode cL_law 825 = .ok (.if_icmp .eq 107, 3) := by decide +kernel
theorem dL_law_828 : decode cL_law 828 = .ok (.iconst 0, 1) := by decide +kernel
theorem dL_law_829 : decode cL_law 829 = .ok (.ireturn, 1) := by decide +kernel
theorem dL_law_830 : decode cL_law 830 = .ok (.aload_n 1, 1) := by decide +kernel
theorem dL_law_831 : decode cL_law 831 = .ok (.aload_n 0, 1) := by decide +kernel
theorem dL_law_832 : decode cL_law 832 = .ok (.iload_n 3, 1) := by decide +kernel
theorem dL_law_833 : decode cL_law 833 = .ok (.iconst 1, 1) := by decide +kernel
theorem dL_law_834 : decode cL_law 834 = .ok (.iadd, 1) := by decide +kernel
theorem dL_law_835 : decode cL_law 835 = .ok (.iaload, 1) := by decide +kernel
theorem dL_law_836 : decode cL_law 836 = .ok (.invokevirtual 92, 3) := by decide +kernel
theorem dL_law_839 : decode cL_law 839 = .ok (.aload_n 2, 1) := by decide +kernel
theorem dL_law_840 : decode cL_law 840 = .ok (.aload_n 0, 1) := by decide +kernel
theorem dL_law_841 : decode cL_law 841 = .ok (.iload_n 3, 1) := by decide +kernel
theorem dL_law_842 : decode cL_law 842 = .ok (.iconst 1, 1) := by decide +kernel
theorem dL_law_843 : decode cL_law 843 = .ok (.iadd, 1) := by decide +kernel
theorem dL_law_844 : decode cL_law 844 = .ok (.iaload, 1) := by decide +kernel
theorem dL_law_845 : decode cL_law 845 = .ok (.invokevirtual 95, 3) := by decide +kernel
theorem dL_law_848 : decode cL_law 848 = .ok (.if_icmp .eq 84, 3) := by decide +kernel
theorem dL_law_851 : decode cL_law 851 = .ok (.iconst 0, 1) := by decide +kernel
theorem dL_law_852 : decode cL_law 852 = .ok (.ireturn, 1) := by decide +kernel
theorem dL_law_853 : decode cL_law 853 = .ok (.aload_n 1, 1) := by decide +kernel
theorem dL_law_854 : decode cL_law 854 = .ok (.aload_n 0, 1) := by decide +kernel
theorem dL_law_855 : decode cL_law 855 = .ok (.iload_n 3, 1) := by decide +kernel
theorem dL_law_856 : decode cL_law 856 = .ok (.iconst 1, 1) := by decide +kernel
theorem dL_law_857 : decode cL_law 857 = .ok (.iadd, 1) := by decide +kernel
theorem dL_law_858 : decode cL_law 858 = .ok (.iaload, 1) := by decide +kernel
theorem dL_law_859 : decode cL_law 859 = .ok (.invokevirtual 96, 3) := by decide +kernel
theorem dL_law_862 : decode cL_law 862 = .ok (.aload_n 2, 1) := by decide +kernel
theorem dL_law_863 : decode cL_law 863 = .ok (.aload_n 0, 1) := by decide +kernel
theorem dL_law_864 : decode cL_law 864 = .ok (.iload_n 3, 1) := by decide +kernel
theorem dL_law_865 : decode cL_law 865 = .ok (.iconst 1, 1) := by decide +kernel
theorem dL_law_866 : decode cL_law 866 = .ok (.iadd, 1) := by decide +kernel
theorem dL_law_867 : decode cL_law 867 = .ok (.iaload, 1) := by decide +kernel
theorem dL_law_868 : decode cL_law 868 = .ok (.invokevirtual 99, 3) := by decide +kernel
theorem dL_law_871 : decode cL_law 871 = .ok (.if_icmp .eq 61, 3) := by decide +kernel
theorem dL_law_874 : decode cL_law 874 = .ok (.iconst 0, 1) := by decide +kernel
theorem dL_law_875 : decode cL_law 875 = .ok (.ireturn, 1) := by decide +kernel
theorem dL_law_876 : decode cL_law 876 = .ok (.aload_n 1, 1) := by decide +kernel
theorem dL_law_877 : decode cL_law 877 = .ok (.aload_n 0, 1) := by decide +kernel
theorem dL_law_878 : decode cL_law 878 = .ok (.iload_n 3, 1) := by decide +kernel
theorem dL_law_879 : decode cL_law 879 = .ok (.iconst 1, 1) := by decide +kernel
theorem dL_law_880 : decode cL_law 880 = .ok (.iadd, 1) := by decide +kernel
theorem dL_law_881 : decode cL_law 881 = .ok (.iaload, 1) := by decide +kernel
theorem dL_law_882 : decode cL_law 882 = .ok (.aload_n 0, 1) := by decide +kernel
theorem dL_law_883 : decode cL_law 883 = .ok (.iload_n 3, 1) := by decide +kernel
theorem dL_law_884 : decode cL_law 884 = .ok (.iconst 2, 1) := by decide +kernel
theorem dL_law_885 : decode cL_law 885 = .ok (.iadd, 1) := by decide +kernel
theorem dL_law_886 : decode cL_law 886 = .ok (.iaload, 1) := by decide +kernel
theorem dL_law_887 : decode cL_law 887 = .ok (.aload_n 0, 1) := by decide +kernel
theorem dL_law_888 : decode cL_law 888 = .ok (.iload_n 3, 1) := by decide +kernel
theorem dL_law_889 : decode cL_law 889 = .ok (.iconst 3, 1) := by decide +kernel
theorem dL_law_890 : decode cL_law 890 = .ok (.iadd, 1) := by decide +kernel
theorem dL_law_891 : decode cL_law 891 = .ok (.iaload, 1) := by decide +kernel
theorem dL_law_892 : decode cL_law 892 = .ok (.invokevirtual 100, 3) := by decide +kernel
theorem dL_law_895 : decode cL_law 895 = .ok (.aload_n 2, 1) := by decide +kernel
theorem dL_law_896 : decode cL_law 896 = .ok (.aload_n 0, 1) := by decide +kernel
theorem dL_law_897 : decode cL_law 897 = .ok (.iload_n 3, 1) := by decide +kernel
theorem dL_law_898 : decode cL_law 898 = .ok (.iconst 1, 1) := by decide +kernel
theorem dL_law_899 : decode cL_law 899 = .ok (.iadd, 1) := by decide +kernel
theorem dL_law_900 : decode cL_law 900 = .ok (.iaload, 1) := by decide +kernel
theorem dL_law_901 : decode cL_law 901 = .ok (.aload_n 0, 1) := by decide +kernel
theorem dL_law_902 : decode cL_law 902 = .ok (.iload_n 3, 1) := by decide +kernel
theorem dL_law_903 : decode cL_law 903 = .ok (.iconst 2, 1) := by decide +kernel
theorem dL_law_904 : decode cL_law 904 = .ok (.iadd, 1) := by decide +kernel
theorem dL_law_905 : decode cL_law 905 = .ok (.iaload, 1) := by decide +kernel
theorem dL_law_906 : decode cL_law 906 = .ok (.aload_n 0, 1) := by decide +kernel
theorem dL_law_907 : decode cL_law 907 = .ok (.iload_n 3, 1) := by decide +kernel
theorem dL_law_908 : decode cL_law 908 = .ok (.iconst 3, 1) := by decide +kernel
theorem dL_law_909 : decode cL_law 909 = .ok (.iadd, 1) := by decide +kernel
theorem dL_law_910 : decode cL_law 910 = .ok (.iaload, 1) := by decide +kernel
theorem dL_law_911 : decode cL_law 911 = .ok (.invokevirtual 104, 3) := by decide +kernel
theorem dL_law_914 : decode cL_law 914 = .ok (.if_icmp .eq 18, 3) := by decide +kernel
theorem dL_law_917 : decode cL_law 917 = .ok (.iconst 0, 1) := by decide +kernel
theorem dL_law_918 : decode cL_law 918 = .ok (.ireturn, 1) := by decide +kernel
theorem dL_law_919 : decode cL_law 919 = .ok (.aload_n 1, 1) := by decide +kernel
theorem dL_law_920 : decode cL_law 920 = .ok (.invokevirtual 105, 3) := by decide +kernel
theorem dL_law_923 : decode cL_law 923 = .ok (.aload_n 2, 1) := by decide +kernel
theorem dL_law_924 : decode cL_law 924 = .ok (.invokevirtual 108, 3) := by decide +kernel
theorem dL_law_927 : decode cL_law 927 = .ok (.if_icmp .eq 5, 3) := by decide +kernel
theorem dL_law_930 : decode cL_law 930 = .ok (.iconst 0, 1) := by decide +kernel
theorem dL_law_931 : decode cL_law 931 = .ok (.ireturn, 1) := by decide +kernel
theorem dL_law_932 : decode cL_law 932 = .ok (.iinc 3 6, 3) := by decide +kernel
theorem dL_law_935 : decode cL_law 935 = .ok (.goto (-917), 3) := by decide +kernel
theorem dL_law_938 : decode cL_law 938 = .ok (.iconst 1, 1) := by decide +kernel
theorem dL_law_939 : decode cL_law 939 = .ok (.ireturn, 1) := by decide +kernel
end
section
/-! ===== the logical machine: ints are integers, cells are numbered from the law's own heap size on ===== -/
def iv (z : Int) : Value := .int (Int32.ofInt z)
def jv (z : Int) : Value := .long (Int64.ofInt z)
def fv (u : UInt32) : Value := .float u
def xr (a : Nat) : Value := .ref a
/-- launch, first cell, class numbers and slots, array classes, the texts' cells and their bytes', the script (cell, length, ints) -/
abbrev Ev : Type := Launch × Nat × va_G × (Nat → ClassId) × (Nat → Nat) × (Nat → Nat) × Nat × Nat × (Nat → Int32)
abbrev Ev.l (E : Ev) : Launch := E.1
abbrev Ev.b (E : Ev) : Nat := E.2.1
abbrev Ev.D (E : Ev) : va_G := E.2.2.1
abbrev Ev.c (E : Ev) : Nat → ClassId := E.2.2.2.1
abbrev Ev.aK (E : Ev) : Nat → Nat := E.2.2.2.2.1
abbrev Ev.aV (E : Ev) : Nat → Nat := E.2.2.2.2.2.1
abbrev Ev.sb (E : Ev) : Nat := E.2.2.2.2.2.2.1
abbrev Ev.sL (E : Ev) : Nat := E.2.2.2.2.2.2.2.1
abbrev Ev.sx (E : Ev) : Nat → Int32 := E.2.2.2.2.2.2.2.2
/-- a logical reference, or null -/
def ro (E : Ev) (r : Option Nat) : Value := va_rf (r.map (fun a => E.b + a))
abbrev rr (E : Ev) (a : Nat) : Value := ro E (some a)
theorem rr_eq (E : Ev) (a : Nat) : rr E a = .ref (E.b + a) := rfl
def tysE (E : Ev) : List (ClassId × FieldType) := [(E.c 0, .int), (E.c 1, .byte), (E.c 2, .object RX0), (E.c 3, .object RX3), (E.c 4, .array .int)]
abbrev AE (E : Ev) : Nat → Prop := fun q => E.b ≤ q
abbrev Mem : Type := List va_E
def ob (k : Nat) (fs : List Value) : va_E := .inr (k, fs)
/-- an array of ints (t = 0) or bytes (t = 1) -/
def ia (E : Ev) (t n : Nat) (f : Int → Int) : va_E := .inl (E.c t, n, .inl (fun j => Int32.ofInt (f j)))
/-- an array of references: t = 2, 3, 4 -/
def ra (E : Ev) (t n : Nat) (g : Int → Option Nat) : va_E := .inl (E.c t, n, .inr (.inr (.inr (.inr (fun j => (g j).map (fun a => E.b + a))))))
def wl (β : Nat) (M : Mem) : va_W := M.mapIdx (fun i e => (β + i, e))
theorem wl_get {β : Nat} {M : Mem} {i : Nat} {e : va_E} (h : M[i]? = some e) : (wl β M)[i]? = some (β + i, e) := by
  unfold wl
  rw [List.getElem?_mapIdx, h]
  rfl
theorem wl_of {β : Nat} {M : Mem} {i : Nat} {q : Nat × va_E} (h : (wl β M)[i]? = some q) : q.1 = β + i ∧ M[i]? = some q.2 := by
  unfold wl at h
  rw [List.getElem?_mapIdx] at h
  cases hm : M[i]? with
  | none => rw [hm] at h; cases h
  | some e => rw [hm] at h; cases h; exact ⟨rfl, rfl⟩
theorem wl_set {β : Nat} {M : Mem} {i : Nat} {e : va_E} : (wl β M).set i (β + i, e) = wl β (M.set i e) := by
  unfold wl
  rw [List.mapIdx_set]
theorem wl_push {β : Nat} {M : Mem} {e : va_E} : wl β M ++ [(β + M.length, e)] = wl β (M ++ [e]) := by
  unfold wl
  rw [List.mapIdx_concat]
theorem wl_D {β : Nat} {M : Mem} : va_D (fun q => β ≤ q) (wl β M) := by
  refine ⟨fun i j p q hi hj h => ?_, fun k q hk => ?_⟩
  · have h1 := (wl_of hi).1
    have h2 := (wl_of hj).1
    omega
  · have h1 := (wl_of hk).1
    show β ≤ q.1
    omega
/-- the heap from the first cell on is the memory -/
def PS (E : Ev) (M : Mem) (H : Heap) : Prop := va_P E.D vwCl (wl E.b M) H ∧ H.size = E.b + M.length
def isNest : Cond → Bool
  | .fieldLinkNest .. => true
  | .methodLinkNest .. => true
  | _ => false
theorem nest_warm {w : Cond} (h : isNest w = true) {s U : State} (hW : s.WarmedH U.vm) (hZ : va_Nw w s) : va_Nw w U := by
  cases w <;> first | exact va_Nw.warmF hW hZ | exact va_Nw.warmM hW hZ | cases h
theorem nest_tab {w : Cond} (h : isNest w = true) : w.onTables = true := by
  cases w <;> first | rfl | cases h
def va_AOA (ty : FieldType) (U : State) : Prop := (Cond.arrayOver (.array ty)).before #[] U = true
def lenS : List Nat := [5, 6, 9, 7, 6, 1]
def bytS : List (List Int32) := [[98, 97, 110, 100, 115], [115, 109, 111, 111, 116, 104], [115, 117, 98, 115, 116, 97, 110, 99, 101], [115, 116, 97, 116, 105, 111, 110], [115, 101, 114, 105, 101, 115], [120]]
def ixS : List Nat := [36, 59, 64, 96, 105, 139]
def txS : List String := ["bands", "smooth", "substance", "station", "series", "x"]
/-- what lies outside the memory and never changes -/
def Xt (E : Ev) (U : State) (H : Heap) : Prop :=
  vk_S 6 lenS bytS E.aK E.aV (AE E) U H ∧ (∀ i, i < 6 → vk_R RX5 (ixS.getD i 0) (txS.getD i "") (E.aK i) U) ∧ va_X E.sb E.sL E.sx U H ∧ E.sb < E.b ∧ E.sL ≤ 3072 ∧
  va_Z "java/lang/String" "COMPACT_STRINGS" "Z" (.int 1) (AE E) U H ∧ va_Zq "jdk/internal/util/Preconditions" "SIOOBE_FORMATTER" "Ljava/util/function/BiFunction;" (AE E) U H
/-- what the tables say, and what lies outside -/
def KS (E : Ev) (U : State) (H : Heap) : Prop := va_K E.D vwCl (tysE E) U ∧ (∀ w ∈ lw_tbl, isNest w = true → va_Nw w U) ∧ Xt E U H
theorem KS.to {E : Ev} {s U : State} {H H1 : Heap} (h : KS E s H) (hW : s.WarmedH U.vm) (hk : ∀ a : Nat, a < H.size → ¬ AE E a → H1[a]? = H[a]?) (hsz : E.b ≤ H.size) : KS E U H1 := by
  obtain ⟨h1, h2, h3, h4, h5, h6, h6b, h7, h8⟩ := h
  refine ⟨h1.moved hW.alike, fun w hw hn => nest_warm hn hW (h2 w hw hn), (h3.moved hW.alike).kept hk, fun i hi => (h4 i hi).warm hW, (h5.moved hW.alike).kept (hk _ (Nat.lt_of_lt_of_le h6 hsz) (fun q => by have q' : E.b ≤ E.sb := q; omega)), h6, h6b, (h7.moved hW.alike).kept hk, (h8.moved hW.alike).kept hk⟩
theorem KS.same {E : Ev} {U V : State} {H : Heap} (h : KS E U H) (hv : V.vm = U.vm) (hsz : E.b ≤ H.size) : KS E V H := h.to (by rw [hv]; exact State.WarmedH.refl U) (fun _ _ _ => rfl) hsz
abbrev MI : Type := MethodName × ByteArray × Nat × Option FieldType
abbrev MI.y (q : MI) : MethodName := q.1
abbrev MI.cc (q : MI) : ByteArray := q.2.1
abbrev MI.nL (q : MI) : Nat := q.2.2.1
abbrev MI.rt (q : MI) : Option FieldType := q.2.2.2
/-- a method's standing: the machine, its code, the tables' words -/
def Cx (E : Ev) (mi : MI) (p : Program) (s : State) (m : MethodId) (args : Array Value) (meth : Method) (c : Code) : Prop :=
  p.tables.exec = Jvm.exec ∧ c.code = mi.cc ∧ meth.sig.returnType = mi.rt ∧ meth.locks = false ∧ c.maxLocals = mi.nL ∧ s.vm.findClass mi.y.cls = some m.cls ∧ meth.name = mi.y.name ∧ (∀ w ∈ lw_tbl, goodWord w = true → w.before args s = true) ∧ KS E s s.heap ∧ E.b ≤ s.heap.size
/-- locals: what is known of each -/
def asc : Nat → List (Option Value) → List (Nat × Value)
  | _, [] => []
  | i, none :: r => asc (i + 1) r
  | i, some v :: r => (i, v) :: asc (i + 1) r
theorem asc_mem {q : Nat × Value} : ∀ {L : List (Option Value)} {i : Nat}, q ∈ asc i L ↔ ∃ k, L[k]? = some (some q.2) ∧ q.1 = i + k
  | [], i => by simp [asc]
  | none :: r, i => by
    rw [asc, asc_mem (L := r)]
    constructor
    · rintro ⟨k, h1, h2⟩
      exact ⟨k + 1, by simpa using h1, by omega⟩
    · rintro ⟨k, h1, h2⟩
      cases k with
      | zero => simp at h1
      | succ k => exact ⟨k, by simpa using h1, by omega⟩
  | some v :: r, i => by
    rw [asc, List.mem_cons, asc_mem (L := r)]
    constructor
    · rintro (h | ⟨k, h1, h2⟩)
      · exact ⟨0, by simp [h], by simp [h]⟩
      · exact ⟨k + 1, by simpa using h1, by omega⟩
    · rintro ⟨k, h1, h2⟩
      cases k with
      | zero =>
        left
        simp at h1
        exact Prod.ext (by simpa using h2) h1.symm
      | succ k => exact Or.inr ⟨k, by simpa using h1, by omega⟩
theorem asc_at {ls : Array Slot} {nL i : Nat} {L : List (Option Value)} {v : Value} (h : lv_has ls nL (asc 0 L)) (hl : L[i]? = some (some v)) : ls[i]? = some (.val v) := by
  have := h.2.2 (i, v) (asc_mem.mpr ⟨i, hl, by simp⟩)
  exact this
/-- no double-word local -/
def c1 (L : List (Option Value)) : Bool := L.all (fun o => match o with | some v => v.category == 1 | none => true)
theorem c1_at {L : List (Option Value)} (h : c1 L = true) {k : Nat} {v : Value} (hk : L[k]? = some (some v)) : v.category = 1 := by
  have := List.all_eq_true.mp h (some v) (List.mem_of_getElem? hk)
  simpa using this
theorem asc_store {ls : Array Slot} {nL i : Nat} {L : List (Option Value)} {v : Value} (hc : c1 L = true) (h : lv_has ls nL ((i, v) :: (asc 0 L).filter (fun q => !(q.1 == i) && !(q.1 + 1 == i && q.2.category == 2)))) : lv_has ls nL (asc 0 (L.set i (some v))) := by
  refine ⟨h.1, h.2.1, fun q hq => ?_⟩
  obtain ⟨k, h1, h2⟩ := asc_mem.mp hq
  apply h.2.2
  by_cases e : k = i
  · subst e
    have hlt : k < L.length := by
      have := (List.getElem?_eq_some_iff.mp h1).1
      simpa using this
    rw [List.getElem?_set_self hlt] at h1
    have e2 : q = (k, v) := Prod.ext (by simpa using h2) (by simpa using h1.symm)
    rw [e2]
    exact List.mem_cons_self
  · rw [List.getElem?_set_ne (Ne.symm e)] at h1
    refine List.mem_cons_of_mem _ (List.mem_filter.mpr ⟨asc_mem.mpr ⟨k, h1, h2⟩, ?_⟩)
    have h3 : q.1 ≠ i := by omega
    have h4 := c1_at hc h1
    simp [h3, h4]
/-- what the end must say: of the frames below, the arguments, the start and the end -/
abbrev Fin9 : Type := List Frame → Array Value → State → State → Prop
/-- THE LOGICAL JUDGEMENT: from program counter pc, with locals L, stack st and memory M, the walk comes to its end -/
def V (E : Ev) (R : Room) (mi : MI) (fin : Fin9) (K N : Nat) (M : Mem) (pc : Nat) (L : List (Option Value)) (st : List Value) : Prop :=
  ∀ (p : Program) (e : Env) (s : State) (m : MethodId) (args : Array Value) (below : List Frame) (meth : Method) (c : Code) (H : Heap) (locs : List Loc) (ls : Array Slot) (d0 : Drawn),
    Cx E mi p s m args meth c → s.drawn.sameBut d0 lw_cs → PS E M H → va_S (AE E) s.heap H locs → lv_has ls mi.nL (asc 0 L) →
    W p E.l e R (s.setDrawn d0) m args below meth c H locs K N (fin below args s) (F0 m pc ls st)
def QC (E : Ev) (Post : Option Value → Mem → Prop) : Array Value → State → Outcome → State → Prop := fun _ st oc t => (∃ (r : Option Value) (M' : Mem), oc = .returned r ∧ Post r M' ∧ PS E M' t.heap) ∧ va_F (AE E) st t
def PC (E : Ev) (as : List Value) (M : Mem) : Array Value → State → Prop := fun v U => v = as.toArray ∧ PS E M U.heap ∧ KS E U U.heap ∧ E.b ≤ U.heap.size
def wsA (mi : MI) : List Cond := .code mi.y mi.cc mi.nL mi.rt :: lw_tbl.filter goodWord
/-- THE LOGICAL CONTRACT: a call of mi with these arguments in memory M returns r and leaves M' with Post r M' -/
def Cn (E : Ev) (R : Room) (mi : MI) (as : List Value) (M : Mem) (Post : Option Value → Mem → Prop) : Prop :=
  MetD lw_cs E.l mi.y (wsA mi) R (PC E as M) (QC E Post) R.cells R.slots (AE E)
def finM (E : Ev) (R : Room) (Post : Option Value → Mem → Prop) : Fin9 := fun below args s => MQD lw_cs below (QC E Post) args s R.cells R.slots (AE E)
theorem Cx.word {E : Ev} {mi : MI} {p : Program} {s : State} {m : MethodId} {args : Array Value} {meth : Method} {c : Code} (h : Cx E mi p s m args meth c) (d0 : Drawn) {w : Cond} (hw : w ∈ lw_tbl) (hg : goodWord w = true) : w.before args (s.setDrawn d0) = true :=
  (Cond.before_setDrawn args s d0 w).trans (h.2.2.2.2.2.2.2.1 w hw hg)
theorem Cx.nest {E : Ev} {mi : MI} {p : Program} {s : State} {m : MethodId} {args : Array Value} {meth : Method} {c : Code} (h : Cx E mi p s m args meth c) (d0 : Drawn) {w : Cond} (hw : w ∈ lw_tbl) (hg : isNest w = true) : w.before args (s.setDrawn d0) = true :=
  (Cond.before_setDrawn args s d0 w).trans (va_Nw.use (nest_tab hg) (h.2.2.2.2.2.2.2.2.1.2.1 w hw hg))
theorem Cx.K {E : Ev} {mi : MI} {p : Program} {s : State} {m : MethodId} {args : Array Value} {meth : Method} {c : Code} (h : Cx E mi p s m args meth c) (d0 : Drawn) : va_K E.D vwCl (tysE E) (s.setDrawn d0) := h.2.2.2.2.2.2.2.2.1.1.moved (U := s.setDrawn d0) (Vm.Alike.refl s.vm)
theorem Cx.own {E : Ev} {mi : MI} {p : Program} {s : State} {m : MethodId} {args : Array Value} {meth : Method} {c : Code} (h : Cx E mi p s m args meth c) (d0 : Drawn) : (s.setDrawn d0).vm.findClass mi.y.cls = some m.cls := h.2.2.2.2.2.1
/-- an int of the machine -/
abbrev I32 (z : Int) : Prop := -2147483648 ≤ z ∧ z < 2147483648
theorem i_toInt {z : Int} (h : I32 z) : (Int32.ofInt z).toInt = z := Int32.toInt_ofInt_of_le (by have := h.1; omega) (by have := h.2; omega)
theorem i_lt {x y : Int} (hx : I32 x) (hy : I32 y) : Int32.ofInt x < Int32.ofInt y ↔ x < y := by rw [Int32.lt_iff_toInt_lt, i_toInt hx, i_toInt hy]
theorem i_le {x y : Int} (hx : I32 x) (hy : I32 y) : Int32.ofInt x ≤ Int32.ofInt y ↔ x ≤ y := by rw [Int32.le_iff_toInt_le, i_toInt hx, i_toInt hy]
theorem i_eq {x y : Int} (hx : I32 x) (hy : I32 y) : Int32.ofInt x = Int32.ofInt y ↔ x = y := by rw [← Int32.toInt_inj, i_toInt hx, i_toInt hy]
theorem i_zero : (0 : Int32) = Int32.ofInt 0 := rfl
theorem i_clamp {z : Int} (h0 : 0 ≤ z) (h : z < 2147483648) : (Int32.ofInt z).toNatClampNeg = z.toNat := by
  show (Int32.ofInt z).toInt.toNat = z.toNat
  rw [i_toInt ⟨by omega, h⟩]
theorem i_in {z : Int} {n : Nat} (h0 : 0 ≤ z) (h : z < n) (hn : n < 2147483648) : vp_in (Int32.ofInt z) n := by
  rw [vp_in_iff, i_toInt ⟨by omega, by omega⟩]
  exact ⟨h0, h⟩
theorem i_div {x y : Int} (hx : 0 ≤ x) (hx2 : x < 2147483648) (hy : 0 < y) (hy2 : y < 2147483648) : Int32.ofInt x / Int32.ofInt y = Int32.ofInt (x / y) := by
  have e : x.tdiv y = x / y := Int.tdiv_eq_ediv_of_nonneg hx
  have h1 : Int32.ofInt y ≠ -1 := by
    intro q
    have := congrArg Int32.toInt q
    rw [i_toInt ⟨by omega, hy2⟩] at this
    have h2 : (-1 : Int32).toInt = -1 := by decide
    omega
  have h3 : x / y ≤ x := Int.ediv_le_self y hx
  have h4 : 0 ≤ x / y := Int.ediv_nonneg hx (Int.le_of_lt hy)
  rw [← Int32.toInt_inj, Int32.toInt_div_of_ne_right _ _ h1, i_toInt ⟨by omega, hx2⟩, i_toInt ⟨by omega, hy2⟩, i_toInt ⟨by omega, by omega⟩, e]
theorem i_long {x : Int} (h : I32 x) : (Int32.ofInt x).toInt64 = Int64.ofInt x := by
  have e1 : Int32.minValue.toInt = -2147483648 := by decide
  have e2 : Int32.maxValue.toInt = 2147483647 := by decide
  exact Int32.toInt64_ofInt (by have := h.1; omega) (by have := h.2; omega)
end
section
section RULES
variable {E : Ev} {R : Room} {mi : MI} {fin : Fin9} {K N : Nat} {M : Mem} {pc : Nat} {L : List (Option Value)} {st : List Value}
/-- a truth as a number -/
def pI (P : Prop) [Decidable P] : Int := if P then 1 else 0
theorem pI_t {P : Prop} [Decidable P] (h : P) : pI P = 1 := if_pos h
theorem pI_f {P : Prop} [Decidable P] (h : ¬ P) : pI P = 0 := if_neg h
theorem ret_t {P : Prop} [Decidable P] {Post : Option Value → Mem → Prop} {M : Mem} (h : P) (hp : Post (some (iv (pI P))) M) : Post (some (iv 1)) M := by rw [pI_t h] at hp; exact hp
theorem ret_f {P : Prop} [Decidable P] {Post : Option Value → Mem → Prop} {M : Mem} (h : ¬ P) (hp : Post (some (iv (pI P))) M) : Post (some (iv 0)) M := by rw [pI_f h] at hp; exact hp
/-- another number for the one on the stack -/
theorem v_top {x y : Int} (h : x = y) (k : V E R mi fin K N M pc L (iv y :: st)) : V E R mi fin K N M pc L (iv x :: st) := h ▸ k
theorem v_loc {L2 : List (Option Value)} (h : L = L2) (k : V E R mi fin K N M pc L2 st) : V E R mi fin K N M pc L st := h ▸ k
theorem v_mem {M2 : Mem} (h : M = M2) (k : V E R mi fin K N M2 pc L st) : V E R mi fin K N M pc L st := h ▸ k

theorem v_iconst {n : Int} (d : decode mi.cc pc = .ok (.iconst n, 1)) (k : V E R mi fin K N M (pc + 1) L (iv n :: st)) : V E R mi fin K N M pc L (st) := by
  intro p e s m args below meth c H locs ls d0 C hd hP hS hl
  have k := k p e s m args below meth c H locs ls d0 C hd hP hS hl
  refine lv_iconst C.1 C.2.1 d rfl ?_
  exact k
theorem v_bipush {n : Int} (d : decode mi.cc pc = .ok (.bipush n, 2)) (h : (Int8.ofInt n).toInt32 = Int32.ofInt n) (k : V E R mi fin K N M (pc + 2) L (iv n :: st)) : V E R mi fin K N M pc L (st) := by
  intro p e s m args below meth c H locs ls d0 C hd hP hS hl
  have k := k p e s m args below meth c H locs ls d0 C hd hP hS hl
  refine lv_bipush C.1 C.2.1 d h ?_
  exact k
theorem v_sipush {n : Int} (d : decode mi.cc pc = .ok (.sipush n, 3)) (h : (Int16.ofInt n).toInt32 = Int32.ofInt n) (k : V E R mi fin K N M (pc + 3) L (iv n :: st)) : V E R mi fin K N M pc L (st) := by
  intro p e s m args below meth c H locs ls d0 C hd hP hS hl
  have k := k p e s m args below meth c H locs ls d0 C hd hP hS hl
  refine lv_sipush C.1 C.2.1 d h ?_
  exact k
theorem v_lconst {n : Fin 2} (d : decode mi.cc pc = .ok (.lconst n, 1)) (k : V E R mi fin K N M (pc + 1) L (jv (n : Nat) :: st)) : V E R mi fin K N M pc L (st) := by
  intro p e s m args below meth c H locs ls d0 C hd hP hS hl
  have k := k p e s m args below meth c H locs ls d0 C hd hP hS hl
  refine lv_lconst C.1 C.2.1 d (v := Int64.ofInt (n : Nat)) (Int64.ofInt_eq_ofNat.symm) ?_
  exact k
theorem v_iadd {x y : Int} (d : decode mi.cc pc = .ok (.iadd, 1)) (k : V E R mi fin K N M (pc + 1) L (iv (x + y) :: st)) : V E R mi fin K N M pc L (iv y :: iv x :: st) := by
  intro p e s m args below meth c H locs ls d0 C hd hP hS hl
  have k := k p e s m args below meth c H locs ls d0 C hd hP hS hl
  refine lv_iadd C.1 C.2.1 d ?_
  rw [← Int32.ofInt_add]
  exact k
theorem v_isub {x y : Int} (d : decode mi.cc pc = .ok (.isub, 1)) (k : V E R mi fin K N M (pc + 1) L (iv (x - y) :: st)) : V E R mi fin K N M pc L (iv y :: iv x :: st) := by
  intro p e s m args below meth c H locs ls d0 C hd hP hS hl
  have k := k p e s m args below meth c H locs ls d0 C hd hP hS hl
  refine lv_isub C.1 C.2.1 d ?_
  rw [← Int32.ofInt_sub]
  exact k
theorem v_imul {x y : Int} (d : decode mi.cc pc = .ok (.imul, 1)) (k : V E R mi fin K N M (pc + 1) L (iv (x * y) :: st)) : V E R mi fin K N M pc L (iv y :: iv x :: st) := by
  intro p e s m args below meth c H locs ls d0 C hd hP hS hl
  have k := k p e s m args below meth c H locs ls d0 C hd hP hS hl
  refine lv_imul C.1 C.2.1 d ?_
  rw [← Int32.ofInt_mul]
  exact k
theorem v_ladd {x y : Int} (d : decode mi.cc pc = .ok (.ladd, 1)) (k : V E R mi fin K N M (pc + 1) L (jv (x + y) :: st)) : V E R mi fin K N M pc L (jv y :: jv x :: st) := by
  intro p e s m args below meth c H locs ls d0 C hd hP hS hl
  have k := k p e s m args below meth c H locs ls d0 C hd hP hS hl
  refine lv_ladd C.1 C.2.1 d ?_
  rw [← Int64.ofInt_add]
  exact k
theorem v_lsub {x y : Int} (d : decode mi.cc pc = .ok (.lsub, 1)) (k : V E R mi fin K N M (pc + 1) L (jv (x - y) :: st)) : V E R mi fin K N M pc L (jv y :: jv x :: st) := by
  intro p e s m args below meth c H locs ls d0 C hd hP hS hl
  have k := k p e s m args below meth c H locs ls d0 C hd hP hS hl
  refine lv_lsub C.1 C.2.1 d ?_
  rw [← Int64.ofInt_sub]
  exact k
theorem v_lmul {x y : Int} (d : decode mi.cc pc = .ok (.lmul, 1)) (k : V E R mi fin K N M (pc + 1) L (jv (x * y) :: st)) : V E R mi fin K N M pc L (jv y :: jv x :: st) := by
  intro p e s m args below meth c H locs ls d0 C hd hP hS hl
  have k := k p e s m args below meth c H locs ls d0 C hd hP hS hl
  refine lv_lmul C.1 C.2.1 d ?_
  rw [← Int64.ofInt_mul]
  exact k
theorem v_idiv {x y : Int} (d : decode mi.cc pc = .ok (.idiv, 1)) (h1 : 0 ≤ x) (h2 : x < 2147483648) (h3 : 0 < y) (h4 : y < 2147483648) (k : V E R mi fin K N M (pc + 1) L (iv (x / y) :: st)) : V E R mi fin K N M pc L (iv y :: iv x :: st) := by
  intro p e s m args below meth c H locs ls d0 C hd hP hS hl
  have k := k p e s m args below meth c H locs ls d0 C hd hP hS hl
  refine lv_idiv C.1 C.2.1 d (fun q => by rw [i_zero, i_eq ⟨by omega, by omega⟩ ⟨by omega, by omega⟩] at q; omega) ?_
  rw [i_div h1 h2 h3 h4]
  exact k
theorem v_iand {x y z : Int} (d : decode mi.cc pc = .ok (.iand, 1)) (h : Int32.ofInt x &&& Int32.ofInt y = Int32.ofInt z) (k : V E R mi fin K N M (pc + 1) L (iv z :: st)) : V E R mi fin K N M pc L (iv y :: iv x :: st) := by
  intro p e s m args below meth c H locs ls d0 C hd hP hS hl
  have k := k p e s m args below meth c H locs ls d0 C hd hP hS hl
  refine lv_iand C.1 C.2.1 d ?_
  rw [h]
  exact k
theorem v_ior {x y z : Int} (d : decode mi.cc pc = .ok (.ior, 1)) (h : Int32.ofInt x ||| Int32.ofInt y = Int32.ofInt z) (k : V E R mi fin K N M (pc + 1) L (iv z :: st)) : V E R mi fin K N M pc L (iv y :: iv x :: st) := by
  intro p e s m args below meth c H locs ls d0 C hd hP hS hl
  have k := k p e s m args below meth c H locs ls d0 C hd hP hS hl
  refine lv_ior C.1 C.2.1 d ?_
  rw [h]
  exact k
theorem v_ishl {x y z : Int} (d : decode mi.cc pc = .ok (.ishl, 1)) (h : Int32.ofInt x <<< (Int32.ofInt y &&& 31) = Int32.ofInt z) (k : V E R mi fin K N M (pc + 1) L (iv z :: st)) : V E R mi fin K N M pc L (iv y :: iv x :: st) := by
  intro p e s m args below meth c H locs ls d0 C hd hP hS hl
  have k := k p e s m args below meth c H locs ls d0 C hd hP hS hl
  refine lv_ishl C.1 C.2.1 d ?_
  rw [h]
  exact k
theorem v_ishr {x y z : Int} (d : decode mi.cc pc = .ok (.ishr, 1)) (h : Int32.ofInt x >>> (Int32.ofInt y &&& 31) = Int32.ofInt z) (k : V E R mi fin K N M (pc + 1) L (iv z :: st)) : V E R mi fin K N M pc L (iv y :: iv x :: st) := by
  intro p e s m args below meth c H locs ls d0 C hd hP hS hl
  have k := k p e s m args below meth c H locs ls d0 C hd hP hS hl
  refine lv_ishr C.1 C.2.1 d ?_
  rw [h]
  exact k
theorem v_iushr {x y z : Int} (d : decode mi.cc pc = .ok (.iushr, 1)) (h : ((Int32.ofInt x).toUInt32 >>> ((Int32.ofInt y).toUInt32 &&& Int32.toUInt32 31)).toInt32 = Int32.ofInt z) (k : V E R mi fin K N M (pc + 1) L (iv z :: st)) : V E R mi fin K N M pc L (iv y :: iv x :: st) := by
  intro p e s m args below meth c H locs ls d0 C hd hP hS hl
  have k := k p e s m args below meth c H locs ls d0 C hd hP hS hl
  refine lv_iushr C.1 C.2.1 d h ?_
  exact k
theorem v_i2b {x z : Int} (d : decode mi.cc pc = .ok (.i2b, 1)) (h : (Int32.ofInt x).toInt8.toInt32 = Int32.ofInt z) (k : V E R mi fin K N M (pc + 1) L (iv z :: st)) : V E R mi fin K N M pc L (iv x :: st) := by
  intro p e s m args below meth c H locs ls d0 C hd hP hS hl
  have k := k p e s m args below meth c H locs ls d0 C hd hP hS hl
  refine lv_i2b C.1 C.2.1 d h ?_
  exact k
theorem v_i2c {x z : Int} (d : decode mi.cc pc = .ok (.i2c, 1)) (h : ((Int32.ofInt x).toUInt32 % 65536).toInt32 = Int32.ofInt z) (k : V E R mi fin K N M (pc + 1) L (iv z :: st)) : V E R mi fin K N M pc L (iv x :: st) := by
  intro p e s m args below meth c H locs ls d0 C hd hP hS hl
  have k := k p e s m args below meth c H locs ls d0 C hd hP hS hl
  refine lv_i2c C.1 C.2.1 d h ?_
  exact k
theorem v_i2l {x : Int} (d : decode mi.cc pc = .ok (.i2l, 1)) (h : I32 x) (k : V E R mi fin K N M (pc + 1) L (jv x :: st)) : V E R mi fin K N M pc L (iv x :: st) := by
  intro p e s m args below meth c H locs ls d0 C hd hP hS hl
  have k := k p e s m args below meth c H locs ls d0 C hd hP hS hl
  refine lv_i2l C.1 C.2.1 d (i_long h) ?_
  exact k
theorem v_dupi {x : Int} (d : decode mi.cc pc = .ok (.dup, 1)) (k : V E R mi fin K N M (pc + 1) L (iv x :: iv x :: st)) : V E R mi fin K N M pc L (iv x :: st) := by
  intro p e s m args below meth c H locs ls d0 C hd hP hS hl
  have k := k p e s m args below meth c H locs ls d0 C hd hP hS hl
  refine lv_dup C.1 C.2.1 d rfl ?_
  exact k
theorem v_dupr {r : Option Nat} (d : decode mi.cc pc = .ok (.dup, 1)) (k : V E R mi fin K N M (pc + 1) L (ro E r :: ro E r :: st)) : V E R mi fin K N M pc L (ro E r :: st) := by
  intro p e s m args below meth c H locs ls d0 C hd hP hS hl
  have k := k p e s m args below meth c H locs ls d0 C hd hP hS hl
  refine lv_dup C.1 C.2.1 d (by cases r <;> rfl) ?_
  exact k
theorem v_popi {x : Int} (d : decode mi.cc pc = .ok (.pop, 1)) (k : V E R mi fin K N M (pc + 1) L (st)) : V E R mi fin K N M pc L (iv x :: st) := by
  intro p e s m args below meth c H locs ls d0 C hd hP hS hl
  have k := k p e s m args below meth c H locs ls d0 C hd hP hS hl
  refine lv_pop C.1 C.2.1 d rfl ?_
  exact k
theorem v_popr {r : Option Nat} (d : decode mi.cc pc = .ok (.pop, 1)) (k : V E R mi fin K N M (pc + 1) L (st)) : V E R mi fin K N M pc L (ro E r :: st) := by
  intro p e s m args below meth c H locs ls d0 C hd hP hS hl
  have k := k p e s m args below meth c H locs ls d0 C hd hP hS hl
  refine lv_pop C.1 C.2.1 d (by cases r <;> rfl) ?_
  exact k
theorem v_dup2ir {x : Int} {r : Option Nat} (d : decode mi.cc pc = .ok (.dup2, 1)) (k : V E R mi fin K N M (pc + 1) L (iv x :: ro E r :: iv x :: ro E r :: st)) : V E R mi fin K N M pc L (iv x :: ro E r :: st) := by
  intro p e s m args below meth c H locs ls d0 C hd hP hS hl
  have k := k p e s m args below meth c H locs ls d0 C hd hP hS hl
  refine lv_dup2_11 C.1 C.2.1 d rfl (by cases r <;> rfl) ?_
  exact k
theorem v_null (d : decode mi.cc pc = .ok (.aconst_null, 1)) (k : V E R mi fin K N M (pc + 1) L (ro E none :: st)) : V E R mi fin K N M pc L (st) := by
  intro p e s m args below meth c H locs ls d0 C hd hP hS hl
  have k := k p e s m args below meth c H locs ls d0 C hd hP hS hl
  refine lv_null C.1 C.2.1 d ?_
  exact k
theorem v_fconst0 (d : decode mi.cc pc = .ok (.fconst 0, 1)) (k : V E R mi fin K N M (pc + 1) L (fv FP.fconst0 :: st)) : V E R mi fin K N M pc L (st) := by
  intro p e s m args below meth c H locs ls d0 C hd hP hS hl
  have k := k p e s m args below meth c H locs ls d0 C hd hP hS hl
  refine lv_fconst0 C.1 C.2.1 d ?_
  exact k
theorem v_i2f {x : Int} (d : decode mi.cc pc = .ok (.i2f, 1)) (k : V E R mi fin K N M (pc + 1) L (fv (FP.i2f (Int32.ofInt x)) :: st)) : V E R mi fin K N M pc L (iv x :: st) := by
  intro p e s m args below meth c H locs ls d0 C hd hP hS hl
  have k := k p e s m args below meth c H locs ls d0 C hd hP hS hl
  refine lv_i2f C.1 C.2.1 d ?_
  exact k
theorem v_f2i {x : UInt32} (d : decode mi.cc pc = .ok (.f2i, 1)) (k : V E R mi fin K N M (pc + 1) L (iv (FP.f2i x).toInt :: st)) : V E R mi fin K N M pc L (fv x :: st) := by
  intro p e s m args below meth c H locs ls d0 C hd hP hS hl
  have k := k p e s m args below meth c H locs ls d0 C hd hP hS hl
  refine lv_f2i C.1 C.2.1 d ?_
  rw [← Int32.ofInt_toInt (FP.f2i x)]
  exact k
theorem v_ldcf {i : Nat} {v : UInt32} (d : decode mi.cc pc = .ok (.ldc i, 2)) (hw : Cond.constantFloat mi.y.cls i v ∈ lw_tbl) (k : V E R mi fin K N M (pc + 2) L (fv v :: st)) : V E R mi fin K N M pc L (st) := by
  intro p e s m args below meth c H locs ls d0 C hd hP hS hl
  have k := k p e s m args below meth c H locs ls d0 C hd hP hS hl
  refine lv_ldcf C.1 C.2.1 (C.own d0) (C.word d0 hw rfl) d ?_
  exact k
theorem v_ldc2 {i : Nat} {v : Int64} (d : decode mi.cc pc = .ok (.ldc2_w i, 3)) (hw : Cond.constantLong mi.y.cls i v ∈ lw_tbl) (k : V E R mi fin K N M (pc + 3) L (jv v.toInt :: st)) : V E R mi fin K N M pc L (st) := by
  intro p e s m args below meth c H locs ls d0 C hd hP hS hl
  have k := k p e s m args below meth c H locs ls d0 C hd hP hS hl
  refine lv_ldc2 C.1 C.2.1 (C.own d0) (C.word d0 hw rfl) d ?_
  rw [← Int64.ofInt_toInt v]
  exact k
theorem v_ldcw {i : Nat} {v : Int32} (d : decode mi.cc pc = .ok (.ldc_w i, 3)) (hw : Cond.constant mi.y.cls i v ∈ lw_tbl) (k : V E R mi fin K N M (pc + 3) L (iv v.toInt :: st)) : V E R mi fin K N M pc L (st) := by
  intro p e s m args below meth c H locs ls d0 C hd hP hS hl
  have k := k p e s m args below meth c H locs ls d0 C hd hP hS hl
  refine lv_ldcw C.1 C.2.1 (C.own d0) (C.word d0 hw rfl) d ?_
  rw [← Int32.ofInt_toInt v]
  exact k
theorem v_ldc {i : Nat} {v : Int32} (d : decode mi.cc pc = .ok (.ldc i, 2)) (hw : Cond.constant mi.y.cls i v ∈ lw_tbl) (k : V E R mi fin K N M (pc + 2) L (iv v.toInt :: st)) : V E R mi fin K N M pc L (st) := by
  intro p e s m args below meth c H locs ls d0 C hd hP hS hl
  have k := k p e s m args below meth c H locs ls d0 C hd hP hS hl
  refine lv_ldc C.1 C.2.1 (C.own d0) (C.word d0 hw rfl) d ?_
  rw [← Int32.ofInt_toInt v]
  exact k
theorem v_fadd {x y : UInt32} (d : decode mi.cc pc = .ok (.fadd, 1)) (k : ∀ r : UInt32, alike32 r (FP.fadd x y) = true → V E R mi fin K N M (pc + 1) L (fv r :: st)) : V E R mi fin K N M pc L (fv y :: fv x :: st) := by
  intro p e s m args below meth c H locs ls d0 C hd hP hS hl
  refine lv_fadd_any hd lw_bits C.1 C.2.1 d (fun r d1 hal hd1 => ?_)
  exact k r hal p e s m args below meth c H locs ls d1 C hd1 hP hS hl
theorem v_fsub {x y : UInt32} (d : decode mi.cc pc = .ok (.fsub, 1)) (k : ∀ r : UInt32, alike32 r (FP.fsub x y) = true → V E R mi fin K N M (pc + 1) L (fv r :: st)) : V E R mi fin K N M pc L (fv y :: fv x :: st) := by
  intro p e s m args below meth c H locs ls d0 C hd hP hS hl
  refine lv_fsub_any hd lw_bits C.1 C.2.1 d (fun r d1 hal hd1 => ?_)
  exact k r hal p e s m args below meth c H locs ls d1 C hd1 hP hS hl
theorem v_fmul {x y : UInt32} (d : decode mi.cc pc = .ok (.fmul, 1)) (k : ∀ r : UInt32, alike32 r (FP.fmul x y) = true → V E R mi fin K N M (pc + 1) L (fv r :: st)) : V E R mi fin K N M pc L (fv y :: fv x :: st) := by
  intro p e s m args below meth c H locs ls d0 C hd hP hS hl
  refine lv_fmul_any hd lw_bits C.1 C.2.1 d (fun r d1 hal hd1 => ?_)
  exact k r hal p e s m args below meth c H locs ls d1 C hd1 hP hS hl
theorem v_fdiv {x y : UInt32} (d : decode mi.cc pc = .ok (.fdiv, 1)) (k : ∀ r : UInt32, alike32 r (FP.fdiv x y) = true → V E R mi fin K N M (pc + 1) L (fv r :: st)) : V E R mi fin K N M pc L (fv y :: fv x :: st) := by
  intro p e s m args below meth c H locs ls d0 C hd hP hS hl
  refine lv_fdiv_any hd lw_bits C.1 C.2.1 d (fun r d1 hal hd1 => ?_)
  exact k r hal p e s m args below meth c H locs ls d1 C hd1 hP hS hl
theorem v_icmp_eq {x y off : Int} {tgt : Nat} (d : decode mi.cc pc = .ok (.if_icmp .eq off, 3)) (ht : (pc : Int) + off = (tgt : Int)) (hx : I32 x) (hy : I32 y) (kt : x = y → V E R mi fin K N M tgt L st) (kf : ¬ (x = y) → V E R mi fin K N M (pc + 3) L st) : V E R mi fin K N M pc L (iv y :: iv x :: st) := by
  intro p e s m args below meth c H locs ls d0 C hd hP hS hl
  refine lv_icmp_eq C.1 C.2.1 d ht (fun q => kt ?_ p e s m args below meth c H locs ls d0 C hd hP hS hl) (fun q => kf ?_ p e s m args below meth c H locs ls d0 C hd hP hS hl)
  · rw [i_eq hx hy] at q; exact q
  · rw [i_eq hx hy] at q; exact q
theorem v_if_eq {x off : Int} {tgt : Nat} (d : decode mi.cc pc = .ok (.ifCond .eq off, 3)) (ht : (pc : Int) + off = (tgt : Int)) (hx : I32 x) (kt : x = 0 → V E R mi fin K N M tgt L st) (kf : ¬ (x = 0) → V E R mi fin K N M (pc + 3) L st) : V E R mi fin K N M pc L (iv x :: st) := by
  intro p e s m args below meth c H locs ls d0 C hd hP hS hl
  have hy : I32 0 := ⟨by omega, by omega⟩
  refine lv_if_eq C.1 C.2.1 d ht (fun q => kt ((i_eq hx hy).mp q) p e s m args below meth c H locs ls d0 C hd hP hS hl) (fun q => kf (fun z => q ((i_eq hx hy).mpr z)) p e s m args below meth c H locs ls d0 C hd hP hS hl)
theorem v_icmp_ne {x y off : Int} {tgt : Nat} (d : decode mi.cc pc = .ok (.if_icmp .ne off, 3)) (ht : (pc : Int) + off = (tgt : Int)) (hx : I32 x) (hy : I32 y) (kt : ¬ x = y → V E R mi fin K N M tgt L st) (kf : x = y → V E R mi fin K N M (pc + 3) L st) : V E R mi fin K N M pc L (iv y :: iv x :: st) := by
  intro p e s m args below meth c H locs ls d0 C hd hP hS hl
  exact lv_icmp_ne C.1 C.2.1 d ht (fun q => kt (fun z => q ((i_eq hx hy).mpr z)) p e s m args below meth c H locs ls d0 C hd hP hS hl) (fun q => kf ((i_eq hx hy).mp q) p e s m args below meth c H locs ls d0 C hd hP hS hl)
theorem v_if_ne {x off : Int} {tgt : Nat} (d : decode mi.cc pc = .ok (.ifCond .ne off, 3)) (ht : (pc : Int) + off = (tgt : Int)) (hx : I32 x) (kt : ¬ x = 0 → V E R mi fin K N M tgt L st) (kf : x = 0 → V E R mi fin K N M (pc + 3) L st) : V E R mi fin K N M pc L (iv x :: st) := by
  intro p e s m args below meth c H locs ls d0 C hd hP hS hl
  have hy : I32 0 := ⟨by omega, by omega⟩
  exact lv_if_ne C.1 C.2.1 d ht (fun q => kt (fun z => q ((i_eq hx hy).mpr z)) p e s m args below meth c H locs ls d0 C hd hP hS hl) (fun q => kf ((i_eq hx hy).mp q) p e s m args below meth c H locs ls d0 C hd hP hS hl)
theorem v_icmp_lt {x y off : Int} {tgt : Nat} (d : decode mi.cc pc = .ok (.if_icmp .lt off, 3)) (ht : (pc : Int) + off = (tgt : Int)) (hx : I32 x) (hy : I32 y) (kt : x < y → V E R mi fin K N M tgt L st) (kf : ¬ (x < y) → V E R mi fin K N M (pc + 3) L st) : V E R mi fin K N M pc L (iv y :: iv x :: st) := by
  intro p e s m args below meth c H locs ls d0 C hd hP hS hl
  refine lv_icmp_lt C.1 C.2.1 d ht (fun q => kt ?_ p e s m args below meth c H locs ls d0 C hd hP hS hl) (fun q => kf ?_ p e s m args below meth c H locs ls d0 C hd hP hS hl)
  · rw [i_lt hx hy] at q; exact q
  · rw [i_lt hx hy] at q; exact q
theorem v_if_lt {x off : Int} {tgt : Nat} (d : decode mi.cc pc = .ok (.ifCond .lt off, 3)) (ht : (pc : Int) + off = (tgt : Int)) (hx : I32 x) (kt : x < 0 → V E R mi fin K N M tgt L st) (kf : ¬ (x < 0) → V E R mi fin K N M (pc + 3) L st) : V E R mi fin K N M pc L (iv x :: st) := by
  intro p e s m args below meth c H locs ls d0 C hd hP hS hl
  have hy : I32 0 := ⟨by omega, by omega⟩
  refine lv_if_lt C.1 C.2.1 d ht (fun q => kt ((i_lt hx hy).mp q) p e s m args below meth c H locs ls d0 C hd hP hS hl) (fun q => kf (fun z => q ((i_lt hx hy).mpr z)) p e s m args below meth c H locs ls d0 C hd hP hS hl)
theorem v_icmp_ge {x y off : Int} {tgt : Nat} (d : decode mi.cc pc = .ok (.if_icmp .ge off, 3)) (ht : (pc : Int) + off = (tgt : Int)) (hx : I32 x) (hy : I32 y) (kt : y ≤ x → V E R mi fin K N M tgt L st) (kf : ¬ (y ≤ x) → V E R mi fin K N M (pc + 3) L st) : V E R mi fin K N M pc L (iv y :: iv x :: st) := by
  intro p e s m args below meth c H locs ls d0 C hd hP hS hl
  refine lv_icmp_ge C.1 C.2.1 d ht (fun q => kt ?_ p e s m args below meth c H locs ls d0 C hd hP hS hl) (fun q => kf ?_ p e s m args below meth c H locs ls d0 C hd hP hS hl)
  · first | exact (i_le hy hx).mp q | (have q : _ := q; rw [ge_iff_le, i_le hy hx] at q; exact q) | (rw [gt_iff_lt, i_le hy hx] at q; exact q)
  · first | (exact fun z => q ((i_le hy hx).mpr z)) | (rw [ge_iff_le, i_le hy hx] at q; exact q)
theorem v_if_ge {x off : Int} {tgt : Nat} (d : decode mi.cc pc = .ok (.ifCond .ge off, 3)) (ht : (pc : Int) + off = (tgt : Int)) (hx : I32 x) (kt : 0 ≤ x → V E R mi fin K N M tgt L st) (kf : ¬ (0 ≤ x) → V E R mi fin K N M (pc + 3) L st) : V E R mi fin K N M pc L (iv x :: st) := by
  intro p e s m args below meth c H locs ls d0 C hd hP hS hl
  have hy : I32 0 := ⟨by omega, by omega⟩
  refine lv_if_ge C.1 C.2.1 d ht (fun q => kt ((i_le hy hx).mp q) p e s m args below meth c H locs ls d0 C hd hP hS hl) (fun q => kf (fun z => q ((i_le hy hx).mpr z)) p e s m args below meth c H locs ls d0 C hd hP hS hl)
theorem v_icmp_gt {x y off : Int} {tgt : Nat} (d : decode mi.cc pc = .ok (.if_icmp .gt off, 3)) (ht : (pc : Int) + off = (tgt : Int)) (hx : I32 x) (hy : I32 y) (kt : y < x → V E R mi fin K N M tgt L st) (kf : ¬ (y < x) → V E R mi fin K N M (pc + 3) L st) : V E R mi fin K N M pc L (iv y :: iv x :: st) := by
  intro p e s m args below meth c H locs ls d0 C hd hP hS hl
  refine lv_icmp_gt C.1 C.2.1 d ht (fun q => kt ?_ p e s m args below meth c H locs ls d0 C hd hP hS hl) (fun q => kf ?_ p e s m args below meth c H locs ls d0 C hd hP hS hl)
  · first | exact (i_lt hy hx).mp q | (have q : _ := q; rw [ge_iff_le, i_lt hy hx] at q; exact q) | (rw [gt_iff_lt, i_lt hy hx] at q; exact q)
  · first | (exact fun z => q ((i_lt hy hx).mpr z)) | (rw [ge_iff_le, i_lt hy hx] at q; exact q)
theorem v_if_gt {x off : Int} {tgt : Nat} (d : decode mi.cc pc = .ok (.ifCond .gt off, 3)) (ht : (pc : Int) + off = (tgt : Int)) (hx : I32 x) (kt : 0 < x → V E R mi fin K N M tgt L st) (kf : ¬ (0 < x) → V E R mi fin K N M (pc + 3) L st) : V E R mi fin K N M pc L (iv x :: st) := by
  intro p e s m args below meth c H locs ls d0 C hd hP hS hl
  have hy : I32 0 := ⟨by omega, by omega⟩
  refine lv_if_gt C.1 C.2.1 d ht (fun q => kt ((i_lt hy hx).mp q) p e s m args below meth c H locs ls d0 C hd hP hS hl) (fun q => kf (fun z => q ((i_lt hy hx).mpr z)) p e s m args below meth c H locs ls d0 C hd hP hS hl)
theorem v_icmp_le {x y off : Int} {tgt : Nat} (d : decode mi.cc pc = .ok (.if_icmp .le off, 3)) (ht : (pc : Int) + off = (tgt : Int)) (hx : I32 x) (hy : I32 y) (kt : x ≤ y → V E R mi fin K N M tgt L st) (kf : ¬ (x ≤ y) → V E R mi fin K N M (pc + 3) L st) : V E R mi fin K N M pc L (iv y :: iv x :: st) := by
  intro p e s m args below meth c H locs ls d0 C hd hP hS hl
  refine lv_icmp_le C.1 C.2.1 d ht (fun q => kt ?_ p e s m args below meth c H locs ls d0 C hd hP hS hl) (fun q => kf ?_ p e s m args below meth c H locs ls d0 C hd hP hS hl)
  · rw [i_le hx hy] at q; exact q
  · rw [i_le hx hy] at q; exact q
theorem v_if_le {x off : Int} {tgt : Nat} (d : decode mi.cc pc = .ok (.ifCond .le off, 3)) (ht : (pc : Int) + off = (tgt : Int)) (hx : I32 x) (kt : x ≤ 0 → V E R mi fin K N M tgt L st) (kf : ¬ (x ≤ 0) → V E R mi fin K N M (pc + 3) L st) : V E R mi fin K N M pc L (iv x :: st) := by
  intro p e s m args below meth c H locs ls d0 C hd hP hS hl
  have hy : I32 0 := ⟨by omega, by omega⟩
  refine lv_if_le C.1 C.2.1 d ht (fun q => kt ((i_le hx hy).mp q) p e s m args below meth c H locs ls d0 C hd hP hS hl) (fun q => kf (fun z => q ((i_le hx hy).mpr z)) p e s m args below meth c H locs ls d0 C hd hP hS hl)
theorem v_ifeq_b {P : Prop} [Decidable P] {off : Int} {tgt : Nat} (d : decode mi.cc pc = .ok (.ifCond .eq off, 3)) (ht : (pc : Int) + off = (tgt : Int)) (kt : ¬ P → V E R mi fin K N M tgt L st) (kf : P → V E R mi fin K N M (pc + 3) L st) : V E R mi fin K N M pc L (iv (pI P) :: st) := by
  by_cases h : P
  · rw [pI_t h]
    exact v_if_eq d ht ⟨by omega, by omega⟩ (fun q => absurd q (by decide)) (fun q => kf h)
  · rw [pI_f h]
    exact v_if_eq d ht ⟨by omega, by omega⟩ (fun q => kt h) (fun q => absurd rfl q)
theorem v_ifne_b {P : Prop} [Decidable P] {off : Int} {tgt : Nat} (d : decode mi.cc pc = .ok (.ifCond .ne off, 3)) (ht : (pc : Int) + off = (tgt : Int)) (kt : P → V E R mi fin K N M tgt L st) (kf : ¬ P → V E R mi fin K N M (pc + 3) L st) : V E R mi fin K N M pc L (iv (pI P) :: st) := by
  by_cases h : P
  · rw [pI_t h]
    exact v_if_ne d ht ⟨by omega, by omega⟩ (fun q => kt h) (fun q => absurd q (by decide))
  · rw [pI_f h]
    exact v_if_ne d ht ⟨by omega, by omega⟩ (fun q => absurd rfl q) (fun q => kf h)
theorem v_goto {off : Int} {tgt : Nat} (d : decode mi.cc pc = .ok (.goto off, 3)) (ht : (pc : Int) + off = (tgt : Int)) (k : V E R mi fin K N M tgt L st) : V E R mi fin K N M pc L st := by
  intro p e s m args below meth c H locs ls d0 C hd hP hS hl
  exact lv_goto C.1 C.2.1 d ht (k p e s m args below meth c H locs ls d0 C hd hP hS hl)
theorem v_ifnull_s {a : Nat} {off : Int} (d : decode mi.cc pc = .ok (.ifnull off, 3)) (k : V E R mi fin K N M (pc + 3) L st) : V E R mi fin K N M pc L (rr E a :: st) := by
  intro p e s m args below meth c H locs ls d0 C hd hP hS hl
  exact lv_ifnull C.1 C.2.1 d (k p e s m args below meth c H locs ls d0 C hd hP hS hl)
theorem v_ifnull_n {off : Int} {tgt : Nat} (d : decode mi.cc pc = .ok (.ifnull off, 3)) (ht : (pc : Int) + off = (tgt : Int)) (k : V E R mi fin K N M tgt L st) : V E R mi fin K N M pc L (ro E none :: st) := by
  intro p e s m args below meth c H locs ls d0 C hd hP hS hl
  exact lv_ifnullN C.1 C.2.1 d ht (k p e s m args below meth c H locs ls d0 C hd hP hS hl)
theorem v_ifnonnull_s {a : Nat} {off : Int} {tgt : Nat} (d : decode mi.cc pc = .ok (.ifnonnull off, 3)) (ht : (pc : Int) + off = (tgt : Int)) (k : V E R mi fin K N M tgt L st) : V E R mi fin K N M pc L (rr E a :: st) := by
  intro p e s m args below meth c H locs ls d0 C hd hP hS hl
  exact lv_ifnonnull C.1 C.2.1 d ht (k p e s m args below meth c H locs ls d0 C hd hP hS hl)
theorem v_ifnonnull_n {off : Int} (d : decode mi.cc pc = .ok (.ifnonnull off, 3)) (k : V E R mi fin K N M (pc + 3) L st) : V E R mi fin K N M pc L (ro E none :: st) := by
  intro p e s m args below meth c H locs ls d0 C hd hP hS hl
  exact lv_ifnonnullN C.1 C.2.1 d (k p e s m args below meth c H locs ls d0 C hd hP hS hl)
theorem v_lcmp {x y : Int} (d : decode mi.cc pc = .ok (.lcmp, 1)) (hx : -9223372036854775808 ≤ x ∧ x < 9223372036854775808) (hy : -9223372036854775808 ≤ y ∧ y < 9223372036854775808) (k : V E R mi fin K N M (pc + 1) L (iv (if y < x then 1 else if x = y then 0 else -1) :: st)) : V E R mi fin K N M pc L (jv y :: jv x :: st) := by
  intro p e s m args below meth c H locs ls d0 C hd hP hS hl
  have k := k p e s m args below meth c H locs ls d0 C hd hP hS hl
  refine W.lcmp C.1 C.2.1 d ?_
  have ex : (Int64.ofInt x).toInt = x := Int64.toInt_ofInt_of_le (by omega) (by omega)
  have ey : (Int64.ofInt y).toInt = y := Int64.toInt_ofInt_of_le (by omega) (by omega)
  have e : lg_cmp (Int64.ofInt x) (Int64.ofInt y) = Int32.ofInt (if y < x then 1 else if x = y then 0 else -1) := by
    unfold lg_cmp
    simp only [gt_iff_lt, Int64.lt_iff_toInt_lt, ← Int64.toInt_inj, ex, ey]
    by_cases h1 : y < x
    · simp only [h1, if_true]; rfl
    · by_cases h2 : x = y
      · simp only [h1, h2, if_true, if_false]; split <;> first | omega | rfl
      · simp only [h1, h2, if_false]; rfl
  rw [e]
  exact k
theorem v_swout {x dflt lo hi : Int} {offs : Array Int} {len tgt : Nat} (d : decode mi.cc pc = .ok (.tableswitch dflt lo hi offs, len)) (hx : I32 x) (h : x < lo ∨ hi < x) (ht : (pc : Int) + dflt = (tgt : Int)) (k : V E R mi fin K N M tgt L st) : V E R mi fin K N M pc L (iv x :: st) := by
  intro p e s m args below meth c H locs ls d0 C hd hP hS hl
  exact lv_tableOut C.1 C.2.1 d (by rw [i_toInt hx]; exact h) ht (k p e s m args below meth c H locs ls d0 C hd hP hS hl)
theorem v_swin {x dflt lo hi off : Int} {offs : Array Int} {len tgt : Nat} (d : decode mi.cc pc = .ok (.tableswitch dflt lo hi offs, len)) (hx : I32 x) (h1 : lo ≤ x) (h2 : x ≤ hi) (ho : offs[(x - lo).toNat]? = some off) (ht : (pc : Int) + off = (tgt : Int)) (k : V E R mi fin K N M tgt L st) : V E R mi fin K N M pc L (iv x :: st) := by
  intro p e s m args below meth c H locs ls d0 C hd hP hS hl
  exact lv_tableIn C.1 C.2.1 d (by rw [i_toInt hx]; omega) (by rw [i_toInt hx]; omega) (by rw [i_toInt hx]; exact ho) ht (k p e s m args below meth c H locs ls d0 C hd hP hS hl)
theorem v_iloadn {x : Int} {q : Fin 4} {i : Nat} (d : decode mi.cc pc = .ok (.iload_n q, 1)) (hi : (q : Nat) = i) (h : L[i]? = some (some (iv x))) (k : V E R mi fin K N M (pc + 1) L (iv x :: st)) : V E R mi fin K N M pc L st := by
  intro p e s m args below meth c H locs ls d0 C hd hP hS hl
  exact lv_iload_n C.1 C.2.1 d hi (asc_at hl h) (k p e s m args below meth c H locs ls d0 C hd hP hS hl)
theorem v_iload {x : Int} {i : Nat} (d : decode mi.cc pc = .ok (.iload i, 2)) (h : L[i]? = some (some (iv x))) (k : V E R mi fin K N M (pc + 2) L (iv x :: st)) : V E R mi fin K N M pc L st := by
  intro p e s m args below meth c H locs ls d0 C hd hP hS hl
  exact lv_iload C.1 C.2.1 d (asc_at hl h) (k p e s m args below meth c H locs ls d0 C hd hP hS hl)
theorem v_floadn {x : UInt32} {q : Fin 4} {i : Nat} (d : decode mi.cc pc = .ok (.fload_n q, 1)) (hi : (q : Nat) = i) (h : L[i]? = some (some (fv x))) (k : V E R mi fin K N M (pc + 1) L (fv x :: st)) : V E R mi fin K N M pc L st := by
  intro p e s m args below meth c H locs ls d0 C hd hP hS hl
  exact lv_fload_n C.1 C.2.1 d hi (asc_at hl h) (k p e s m args below meth c H locs ls d0 C hd hP hS hl)
theorem v_fload {x : UInt32} {i : Nat} (d : decode mi.cc pc = .ok (.fload i, 2)) (h : L[i]? = some (some (fv x))) (k : V E R mi fin K N M (pc + 2) L (fv x :: st)) : V E R mi fin K N M pc L st := by
  intro p e s m args below meth c H locs ls d0 C hd hP hS hl
  exact lv_fload C.1 C.2.1 d (asc_at hl h) (k p e s m args below meth c H locs ls d0 C hd hP hS hl)
theorem v_lloadn {x : Int} {q : Fin 4} {i : Nat} (d : decode mi.cc pc = .ok (.lload_n q, 1)) (hi : (q : Nat) = i) (h : L[i]? = some (some (jv x))) (k : V E R mi fin K N M (pc + 1) L (jv x :: st)) : V E R mi fin K N M pc L st := by
  intro p e s m args below meth c H locs ls d0 C hd hP hS hl
  exact lv_lload_n C.1 C.2.1 d hi (asc_at hl h) (k p e s m args below meth c H locs ls d0 C hd hP hS hl)
theorem v_lload {x : Int} {i : Nat} (d : decode mi.cc pc = .ok (.lload i, 2)) (h : L[i]? = some (some (jv x))) (k : V E R mi fin K N M (pc + 2) L (jv x :: st)) : V E R mi fin K N M pc L st := by
  intro p e s m args below meth c H locs ls d0 C hd hP hS hl
  exact lv_lload C.1 C.2.1 d (asc_at hl h) (k p e s m args below meth c H locs ls d0 C hd hP hS hl)
theorem v_aloadn {r : Option Nat} {q : Fin 4} {i : Nat} (d : decode mi.cc pc = .ok (.aload_n q, 1)) (hi : (q : Nat) = i) (h : L[i]? = some (some (ro E r))) (k : V E R mi fin K N M (pc + 1) L (ro E r :: st)) : V E R mi fin K N M pc L st := by
  intro p e s m args below meth c H locs ls d0 C hd hP hS hl
  cases r with
  | none => exact lv_aload_nN C.1 C.2.1 d hi (asc_at hl h) (k p e s m args below meth c H locs ls d0 C hd hP hS hl)
  | some a => exact lv_aload_n C.1 C.2.1 d hi (asc_at hl h) (k p e s m args below meth c H locs ls d0 C hd hP hS hl)
theorem v_aload {r : Option Nat} {i : Nat} (d : decode mi.cc pc = .ok (.aload i, 2)) (h : L[i]? = some (some (ro E r))) (k : V E R mi fin K N M (pc + 2) L (ro E r :: st)) : V E R mi fin K N M pc L st := by
  intro p e s m args below meth c H locs ls d0 C hd hP hS hl
  cases r with
  | none => exact lv_aloadN C.1 C.2.1 d (asc_at hl h) (k p e s m args below meth c H locs ls d0 C hd hP hS hl)
  | some a => exact lv_aload C.1 C.2.1 d (asc_at hl h) (k p e s m args below meth c H locs ls d0 C hd hP hS hl)
theorem v_aloadxn {a : Nat} {q : Fin 4} {i : Nat} (d : decode mi.cc pc = .ok (.aload_n q, 1)) (hi : (q : Nat) = i) (h : L[i]? = some (some (xr a))) (k : V E R mi fin K N M (pc + 1) L (xr a :: st)) : V E R mi fin K N M pc L st := by
  intro p e s m args below meth c H locs ls d0 C hd hP hS hl
  exact lv_aload_n C.1 C.2.1 d hi (asc_at hl h) (k p e s m args below meth c H locs ls d0 C hd hP hS hl)
theorem v_istoren {x : Int} {q : Fin 4} {i : Nat} (d : decode mi.cc pc = .ok (.istore_n q, 1)) (hi : (q : Nat) = i) (hn : i < mi.nL) (hc : c1 L = true) (k : V E R mi fin K N M (pc + 1) (L.set i (some (iv x))) st) : V E R mi fin K N M pc L (iv x :: st) := by
  intro p e s m args below meth c H locs ls d0 C hd hP hS hl
  exact lv_istore_n C.1 C.2.1 d hi hl hn rfl (fun ls2 hl2 => k p e s m args below meth c H locs ls2 d0 C hd hP hS (asc_store hc hl2))
theorem v_istore {x : Int} {i : Nat} (d : decode mi.cc pc = .ok (.istore i, 2)) (hn : i < mi.nL) (hc : c1 L = true) (k : V E R mi fin K N M (pc + 2) (L.set i (some (iv x))) st) : V E R mi fin K N M pc L (iv x :: st) := by
  intro p e s m args below meth c H locs ls d0 C hd hP hS hl
  exact lv_istore C.1 C.2.1 d hl hn rfl (fun ls2 hl2 => k p e s m args below meth c H locs ls2 d0 C hd hP hS (asc_store hc hl2))
theorem v_fstoren {x : UInt32} {q : Fin 4} {i : Nat} (d : decode mi.cc pc = .ok (.fstore_n q, 1)) (hi : (q : Nat) = i) (hn : i < mi.nL) (hc : c1 L = true) (k : V E R mi fin K N M (pc + 1) (L.set i (some (fv x))) st) : V E R mi fin K N M pc L (fv x :: st) := by
  intro p e s m args below meth c H locs ls d0 C hd hP hS hl
  exact lv_fstore_n C.1 C.2.1 d hi hl hn rfl (fun ls2 hl2 => k p e s m args below meth c H locs ls2 d0 C hd hP hS (asc_store hc hl2))
theorem v_fstore {x : UInt32} {i : Nat} (d : decode mi.cc pc = .ok (.fstore i, 2)) (hn : i < mi.nL) (hc : c1 L = true) (k : V E R mi fin K N M (pc + 2) (L.set i (some (fv x))) st) : V E R mi fin K N M pc L (fv x :: st) := by
  intro p e s m args below meth c H locs ls d0 C hd hP hS hl
  exact lv_fstore C.1 C.2.1 d hl hn rfl (fun ls2 hl2 => k p e s m args below meth c H locs ls2 d0 C hd hP hS (asc_store hc hl2))
theorem v_astoren {r : Option Nat} {q : Fin 4} {i : Nat} (d : decode mi.cc pc = .ok (.astore_n q, 1)) (hi : (q : Nat) = i) (hn : i < mi.nL) (hc : c1 L = true) (k : V E R mi fin K N M (pc + 1) (L.set i (some (ro E r))) st) : V E R mi fin K N M pc L (ro E r :: st) := by
  intro p e s m args below meth c H locs ls d0 C hd hP hS hl
  cases r with
  | none => exact lv_astore_nN C.1 C.2.1 d hi hl hn rfl (fun ls2 hl2 => k p e s m args below meth c H locs ls2 d0 C hd hP hS (asc_store hc hl2))
  | some a => exact lv_astore_n C.1 C.2.1 d hi hl hn rfl (fun ls2 hl2 => k p e s m args below meth c H locs ls2 d0 C hd hP hS (asc_store hc hl2))
theorem v_astore {r : Option Nat} {i : Nat} (d : decode mi.cc pc = .ok (.astore i, 2)) (hn : i < mi.nL) (hc : c1 L = true) (k : V E R mi fin K N M (pc + 2) (L.set i (some (ro E r))) st) : V E R mi fin K N M pc L (ro E r :: st) := by
  intro p e s m args below meth c H locs ls d0 C hd hP hS hl
  cases r with
  | none => exact lv_astoreN C.1 C.2.1 d hl hn rfl (fun ls2 hl2 => k p e s m args below meth c H locs ls2 d0 C hd hP hS (asc_store hc hl2))
  | some a => exact lv_astore C.1 C.2.1 d hl hn rfl (fun ls2 hl2 => k p e s m args below meth c H locs ls2 d0 C hd hP hS (asc_store hc hl2))
theorem v_iinc {x n : Int} {i : Nat} (d : decode mi.cc pc = .ok (.iinc i n, 3)) (h : L[i]? = some (some (iv x))) (hn : i < mi.nL) (hc : c1 L = true) (k : V E R mi fin K N M (pc + 3) (L.set i (some (iv (x + n)))) st) : V E R mi fin K N M pc L st := by
  intro p e s m args below meth c H locs ls d0 C hd hP hS hl
  obtain ⟨j, hj⟩ := List.getElem?_of_mem (asc_mem.mpr ⟨i, h, by simp⟩ : ((i, iv x) : Nat × Value) ∈ asc 0 L)
  exact lv_iinc (k := j) (v := Int32.ofInt (x + n)) C.1 C.2.1 d hl hj (by rw [Int32.ofInt_add]) hn rfl (fun ls2 hl2 => k p e s m args below meth c H locs ls2 d0 C hd hP hS (asc_store hc hl2))
theorem v_iload_0 {x : Int} {r9 : List (Option Value)} (d : decode mi.cc pc = .ok (.iload_n 0, 1)) (k : V E R mi fin K N M (pc + 1) (some (iv x) :: r9) (iv x :: st)) : V E R mi fin K N M pc (some (iv x) :: r9) st := v_iloadn (i := 0) d rfl rfl k
theorem v_fload_0 {x : UInt32} {r9 : List (Option Value)} (d : decode mi.cc pc = .ok (.fload_n 0, 1)) (k : V E R mi fin K N M (pc + 1) (some (fv x) :: r9) (fv x :: st)) : V E R mi fin K N M pc (some (fv x) :: r9) st := v_floadn (i := 0) d rfl rfl k
theorem v_aload_0 {r : Option Nat} {r9 : List (Option Value)} (d : decode mi.cc pc = .ok (.aload_n 0, 1)) (k : V E R mi fin K N M (pc + 1) (some (ro E r) :: r9) (ro E r :: st)) : V E R mi fin K N M pc (some (ro E r) :: r9) st := v_aloadn (i := 0) d rfl rfl k
theorem v_axload_0 {a : Nat} {r9 : List (Option Value)} (d : decode mi.cc pc = .ok (.aload_n 0, 1)) (k : V E R mi fin K N M (pc + 1) (some (xr a) :: r9) (xr a :: st)) : V E R mi fin K N M pc (some (xr a) :: r9) st := v_aloadxn (i := 0) d rfl rfl k
theorem v_istore_0 {x : Int} {w9 : Option Value} {r9 : List (Option Value)} (d : decode mi.cc pc = .ok (.istore_n 0, 1)) (hn : 0 < mi.nL) (hc : c1 (w9 :: r9) = true) (k : V E R mi fin K N M (pc + 1) (some (iv x) :: r9) st) : V E R mi fin K N M pc (w9 :: r9) (iv x :: st) := v_istoren (i := 0) d rfl hn hc k
theorem v_fstore_0 {x : UInt32} {w9 : Option Value} {r9 : List (Option Value)} (d : decode mi.cc pc = .ok (.fstore_n 0, 1)) (hn : 0 < mi.nL) (hc : c1 (w9 :: r9) = true) (k : V E R mi fin K N M (pc + 1) (some (fv x) :: r9) st) : V E R mi fin K N M pc (w9 :: r9) (fv x :: st) := v_fstoren (i := 0) d rfl hn hc k
theorem v_astore_0 {r : Option Nat} {w9 : Option Value} {r9 : List (Option Value)} (d : decode mi.cc pc = .ok (.astore_n 0, 1)) (hn : 0 < mi.nL) (hc : c1 (w9 :: r9) = true) (k : V E R mi fin K N M (pc + 1) (some (ro E r) :: r9) st) : V E R mi fin K N M pc (w9 :: r9) (ro E r :: st) := v_astoren (i := 0) d rfl hn hc k
theorem v_iinc_0 {x n : Int} {r9 : List (Option Value)} (d : decode mi.cc pc = .ok (.iinc 0 n, 3)) (hn : 0 < mi.nL) (hc : c1 (some (iv x) :: r9) = true) (k : V E R mi fin K N M (pc + 3) (some (iv (x + n)) :: r9) st) : V E R mi fin K N M pc (some (iv x) :: r9) st := v_iinc (i := 0) d rfl hn hc k
theorem v_iload_1 {x : Int} {a0 : Option Value} {r9 : List (Option Value)} (d : decode mi.cc pc = .ok (.iload_n 1, 1)) (k : V E R mi fin K N M (pc + 1) (a0 :: some (iv x) :: r9) (iv x :: st)) : V E R mi fin K N M pc (a0 :: some (iv x) :: r9) st := v_iloadn (i := 1) d rfl rfl k
theorem v_fload_1 {x : UInt32} {a0 : Option Value} {r9 : List (Option Value)} (d : decode mi.cc pc = .ok (.fload_n 1, 1)) (k : V E R mi fin K N M (pc + 1) (a0 :: some (fv x) :: r9) (fv x :: st)) : V E R mi fin K N M pc (a0 :: some (fv x) :: r9) st := v_floadn (i := 1) d rfl rfl k
theorem v_aload_1 {r : Option Nat} {a0 : Option Value} {r9 : List (Option Value)} (d : decode mi.cc pc = .ok (.aload_n 1, 1)) (k : V E R mi fin K N M (pc + 1) (a0 :: some (ro E r) :: r9) (ro E r :: st)) : V E R mi fin K N M pc (a0 :: some (ro E r) :: r9) st := v_aloadn (i := 1) d rfl rfl k
theorem v_lload_1 {x : Int} {a0 : Option Value} {r9 : List (Option Value)} (d : decode mi.cc pc = .ok (.lload_n 1, 1)) (k : V E R mi fin K N M (pc + 1) (a0 :: some (jv x) :: r9) (jv x :: st)) : V E R mi fin K N M pc (a0 :: some (jv x) :: r9) st := v_lloadn (i := 1) d rfl rfl k
theorem v_axload_1 {a : Nat} {a0 : Option Value} {r9 : List (Option Value)} (d : decode mi.cc pc = .ok (.aload_n 1, 1)) (k : V E R mi fin K N M (pc + 1) (a0 :: some (xr a) :: r9) (xr a :: st)) : V E R mi fin K N M pc (a0 :: some (xr a) :: r9) st := v_aloadxn (i := 1) d rfl rfl k
theorem v_istore_1 {x : Int} {w9 : Option Value} {a0 : Option Value} {r9 : List (Option Value)} (d : decode mi.cc pc = .ok (.istore_n 1, 1)) (hn : 1 < mi.nL) (hc : c1 (a0 :: w9 :: r9) = true) (k : V E R mi fin K N M (pc + 1) (a0 :: some (iv x) :: r9) st) : V E R mi fin K N M pc (a0 :: w9 :: r9) (iv x :: st) := v_istoren (i := 1) d rfl hn hc k
theorem v_fstore_1 {x : UInt32} {w9 : Option Value} {a0 : Option Value} {r9 : List (Option Value)} (d : decode mi.cc pc = .ok (.fstore_n 1, 1)) (hn : 1 < mi.nL) (hc : c1 (a0 :: w9 :: r9) = true) (k : V E R mi fin K N M (pc + 1) (a0 :: some (fv x) :: r9) st) : V E R mi fin K N M pc (a0 :: w9 :: r9) (fv x :: st) := v_fstoren (i := 1) d rfl hn hc k
theorem v_astore_1 {r : Option Nat} {w9 : Option Value} {a0 : Option Value} {r9 : List (Option Value)} (d : decode mi.cc pc = .ok (.astore_n 1, 1)) (hn : 1 < mi.nL) (hc : c1 (a0 :: w9 :: r9) = true) (k : V E R mi fin K N M (pc + 1) (a0 :: some (ro E r) :: r9) st) : V E R mi fin K N M pc (a0 :: w9 :: r9) (ro E r :: st) := v_astoren (i := 1) d rfl hn hc k
theorem v_iinc_1 {x n : Int} {a0 : Option Value} {r9 : List (Option Value)} (d : decode mi.cc pc = .ok (.iinc 1 n, 3)) (hn : 1 < mi.nL) (hc : c1 (a0 :: some (iv x) :: r9) = true) (k : V E R mi fin K N M (pc + 3) (a0 :: some (iv (x + n)) :: r9) st) : V E R mi fin K N M pc (a0 :: some (iv x) :: r9) st := v_iinc (i := 1) d rfl hn hc k
theorem v_iload_2 {x : Int} {a0 a1 : Option Value} {r9 : List (Option Value)} (d : decode mi.cc pc = .ok (.iload_n 2, 1)) (k : V E R mi fin K N M (pc + 1) (a0 :: a1 :: some (iv x) :: r9) (iv x :: st)) : V E R mi fin K N M pc (a0 :: a1 :: some (iv x) :: r9) st := v_iloadn (i := 2) d rfl rfl k
theorem v_fload_2 {x : UInt32} {a0 a1 : Option Value} {r9 : List (Option Value)} (d : decode mi.cc pc = .ok (.fload_n 2, 1)) (k : V E R mi fin K N M (pc + 1) (a0 :: a1 :: some (fv x) :: r9) (fv x :: st)) : V E R mi fin K N M pc (a0 :: a1 :: some (fv x) :: r9) st := v_floadn (i := 2) d rfl rfl k
theorem v_aload_2 {r : Option Nat} {a0 a1 : Option Value} {r9 : List (Option Value)} (d : decode mi.cc pc = .ok (.aload_n 2, 1)) (k : V E R mi fin K N M (pc + 1) (a0 :: a1 :: some (ro E r) :: r9) (ro E r :: st)) : V E R mi fin K N M pc (a0 :: a1 :: some (ro E r) :: r9) st := v_aloadn (i := 2) d rfl rfl k
theorem v_axload_2 {a : Nat} {a0 a1 : Option Value} {r9 : List (Option Value)} (d : decode mi.cc pc = .ok (.aload_n 2, 1)) (k : V E R mi fin K N M (pc + 1) (a0 :: a1 :: some (xr a) :: r9) (xr a :: st)) : V E R mi fin K N M pc (a0 :: a1 :: some (xr a) :: r9) st := v_aloadxn (i := 2) d rfl rfl k
theorem v_istore_2 {x : Int} {w9 : Option Value} {a0 a1 : Option Value} {r9 : List (Option Value)} (d : decode mi.cc pc = .ok (.istore_n 2, 1)) (hn : 2 < mi.nL) (hc : c1 (a0 :: a1 :: w9 :: r9) = true) (k : V E R mi fin K N M (pc + 1) (a0 :: a1 :: some (iv x) :: r9) st) : V E R mi fin K N M pc (a0 :: a1 :: w9 :: r9) (iv x :: st) := v_istoren (i := 2) d rfl hn hc k
theorem v_fstore_2 {x : UInt32} {w9 : Option Value} {a0 a1 : Option Value} {r9 : List (Option Value)} (d : decode mi.cc pc = .ok (.fstore_n 2, 1)) (hn : 2 < mi.nL) (hc : c1 (a0 :: a1 :: w9 :: r9) = true) (k : V E R mi fin K N M (pc + 1) (a0 :: a1 :: some (fv x) :: r9) st) : V E R mi fin K N M pc (a0 :: a1 :: w9 :: r9) (fv x :: st) := v_fstoren (i := 2) d rfl hn hc k
theorem v_astore_2 {r : Option Nat} {w9 : Option Value} {a0 a1 : Option Value} {r9 : List (Option Value)} (d : decode mi.cc pc = .ok (.astore_n 2, 1)) (hn : 2 < mi.nL) (hc : c1 (a0 :: a1 :: w9 :: r9) = true) (k : V E R mi fin K N M (pc + 1) (a0 :: a1 :: some (ro E r) :: r9) st) : V E R mi fin K N M pc (a0 :: a1 :: w9 :: r9) (ro E r :: st) := v_astoren (i := 2) d rfl hn hc k
theorem v_iinc_2 {x n : Int} {a0 a1 : Option Value} {r9 : List (Option Value)} (d : decode mi.cc pc = .ok (.iinc 2 n, 3)) (hn : 2 < mi.nL) (hc : c1 (a0 :: a1 :: some (iv x) :: r9) = true) (k : V E R mi fin K N M (pc + 3) (a0 :: a1 :: some (iv (x + n)) :: r9) st) : V E R mi fin K N M pc (a0 :: a1 :: some (iv x) :: r9) st := v_iinc (i := 2) d rfl hn hc k
theorem v_iload_3 {x : Int} {a0 a1 a2 : Option Value} {r9 : List (Option Value)} (d : decode mi.cc pc = .ok (.iload_n 3, 1)) (k : V E R mi fin K N M (pc + 1) (a0 :: a1 :: a2 :: some (iv x) :: r9) (iv x :: st)) : V E R mi fin K N M pc (a0 :: a1 :: a2 :: some (iv x) :: r9) st := v_iloadn (i := 3) d rfl rfl k
theorem v_fload_3 {x : UInt32} {a0 a1 a2 : Option Value} {r9 : List (Option Value)} (d : decode mi.cc pc = .ok (.fload_n 3, 1)) (k : V E R mi fin K N M (pc + 1) (a0 :: a1 :: a2 :: some (fv x) :: r9) (fv x :: st)) : V E R mi fin K N M pc (a0 :: a1 :: a2 :: some (fv x) :: r9) st := v_floadn (i := 3) d rfl rfl k
theorem v_aload_3 {r : Option Nat} {a0 a1 a2 : Option Value} {r9 : List (Option Value)} (d : decode mi.cc pc = .ok (.aload_n 3, 1)) (k : V E R mi fin K N M (pc + 1) (a0 :: a1 :: a2 :: some (ro E r) :: r9) (ro E r :: st)) : V E R mi fin K N M pc (a0 :: a1 :: a2 :: some (ro E r) :: r9) st := v_aloadn (i := 3) d rfl rfl k
theorem v_istore_3 {x : Int} {w9 : Option Value} {a0 a1 a2 : Option Value} {r9 : List (Option Value)} (d : decode mi.cc pc = .ok (.istore_n 3, 1)) (hn : 3 < mi.nL) (hc : c1 (a0 :: a1 :: a2 :: w9 :: r9) = true) (k : V E R mi fin K N M (pc + 1) (a0 :: a1 :: a2 :: some (iv x) :: r9) st) : V E R mi fin K N M pc (a0 :: a1 :: a2 :: w9 :: r9) (iv x :: st) := v_istoren (i := 3) d rfl hn hc k
theorem v_fstore_3 {x : UInt32} {w9 : Option Value} {a0 a1 a2 : Option Value} {r9 : List (Option Value)} (d : decode mi.cc pc = .ok (.fstore_n 3, 1)) (hn : 3 < mi.nL) (hc : c1 (a0 :: a1 :: a2 :: w9 :: r9) = true) (k : V E R mi fin K N M (pc + 1) (a0 :: a1 :: a2 :: some (fv x) :: r9) st) : V E R mi fin K N M pc (a0 :: a1 :: a2 :: w9 :: r9) (fv x :: st) := v_fstoren (i := 3) d rfl hn hc k
theorem v_astore_3 {r : Option Nat} {w9 : Option Value} {a0 a1 a2 : Option Value} {r9 : List (Option Value)} (d : decode mi.cc pc = .ok (.astore_n 3, 1)) (hn : 3 < mi.nL) (hc : c1 (a0 :: a1 :: a2 :: w9 :: r9) = true) (k : V E R mi fin K N M (pc + 1) (a0 :: a1 :: a2 :: some (ro E r) :: r9) st) : V E R mi fin K N M pc (a0 :: a1 :: a2 :: w9 :: r9) (ro E r :: st) := v_astoren (i := 3) d rfl hn hc k
theorem v_iinc_3 {x n : Int} {a0 a1 a2 : Option Value} {r9 : List (Option Value)} (d : decode mi.cc pc = .ok (.iinc 3 n, 3)) (hn : 3 < mi.nL) (hc : c1 (a0 :: a1 :: a2 :: some (iv x) :: r9) = true) (k : V E R mi fin K N M (pc + 3) (a0 :: a1 :: a2 :: some (iv (x + n)) :: r9) st) : V E R mi fin K N M pc (a0 :: a1 :: a2 :: some (iv x) :: r9) st := v_iinc (i := 3) d rfl hn hc k
theorem v_iload_4 {x : Int} {a0 a1 a2 a3 : Option Value} {r9 : List (Option Value)} (d : decode mi.cc pc = .ok (.iload 4, 2)) (k : V E R mi fin K N M (pc + 2) (a0 :: a1 :: a2 :: a3 :: some (iv x) :: r9) (iv x :: st)) : V E R mi fin K N M pc (a0 :: a1 :: a2 :: a3 :: some (iv x) :: r9) st := v_iload (i := 4) d rfl k
theorem v_fload_4 {x : UInt32} {a0 a1 a2 a3 : Option Value} {r9 : List (Option Value)} (d : decode mi.cc pc = .ok (.fload 4, 2)) (k : V E R mi fin K N M (pc + 2) (a0 :: a1 :: a2 :: a3 :: some (fv x) :: r9) (fv x :: st)) : V E R mi fin K N M pc (a0 :: a1 :: a2 :: a3 :: some (fv x) :: r9) st := v_fload (i := 4) d rfl k
theorem v_aload_4 {r : Option Nat} {a0 a1 a2 a3 : Option Value} {r9 : List (Option Value)} (d : decode mi.cc pc = .ok (.aload 4, 2)) (k : V E R mi fin K N M (pc + 2) (a0 :: a1 :: a2 :: a3 :: some (ro E r) :: r9) (ro E r :: st)) : V E R mi fin K N M pc (a0 :: a1 :: a2 :: a3 :: some (ro E r) :: r9) st := v_aload (i := 4) d rfl k
theorem v_istore_4 {x : Int} {w9 : Option Value} {a0 a1 a2 a3 : Option Value} {r9 : List (Option Value)} (d : decode mi.cc pc = .ok (.istore 4, 2)) (hn : 4 < mi.nL) (hc : c1 (a0 :: a1 :: a2 :: a3 :: w9 :: r9) = true) (k : V E R mi fin K N M (pc + 2) (a0 :: a1 :: a2 :: a3 :: some (iv x) :: r9) st) : V E R mi fin K N M pc (a0 :: a1 :: a2 :: a3 :: w9 :: r9) (iv x :: st) := v_istore (i := 4) d hn hc k
theorem v_fstore_4 {x : UInt32} {w9 : Option Value} {a0 a1 a2 a3 : Option Value} {r9 : List (Option Value)} (d : decode mi.cc pc = .ok (.fstore 4, 2)) (hn : 4 < mi.nL) (hc : c1 (a0 :: a1 :: a2 :: a3 :: w9 :: r9) = true) (k : V E R mi fin K N M (pc + 2) (a0 :: a1 :: a2 :: a3 :: some (fv x) :: r9) st) : V E R mi fin K N M pc (a0 :: a1 :: a2 :: a3 :: w9 :: r9) (fv x :: st) := v_fstore (i := 4) d hn hc k
theorem v_astore_4 {r : Option Nat} {w9 : Option Value} {a0 a1 a2 a3 : Option Value} {r9 : List (Option Value)} (d : decode mi.cc pc = .ok (.astore 4, 2)) (hn : 4 < mi.nL) (hc : c1 (a0 :: a1 :: a2 :: a3 :: w9 :: r9) = true) (k : V E R mi fin K N M (pc + 2) (a0 :: a1 :: a2 :: a3 :: some (ro E r) :: r9) st) : V E R mi fin K N M pc (a0 :: a1 :: a2 :: a3 :: w9 :: r9) (ro E r :: st) := v_astore (i := 4) d hn hc k
theorem v_iinc_4 {x n : Int} {a0 a1 a2 a3 : Option Value} {r9 : List (Option Value)} (d : decode mi.cc pc = .ok (.iinc 4 n, 3)) (hn : 4 < mi.nL) (hc : c1 (a0 :: a1 :: a2 :: a3 :: some (iv x) :: r9) = true) (k : V E R mi fin K N M (pc + 3) (a0 :: a1 :: a2 :: a3 :: some (iv (x + n)) :: r9) st) : V E R mi fin K N M pc (a0 :: a1 :: a2 :: a3 :: some (iv x) :: r9) st := v_iinc (i := 4) d rfl hn hc k
theorem v_iload_5 {x : Int} {a0 a1 a2 a3 a4 : Option Value} {r9 : List (Option Value)} (d : decode mi.cc pc = .ok (.iload 5, 2)) (k : V E R mi fin K N M (pc + 2) (a0 :: a1 :: a2 :: a3 :: a4 :: some (iv x) :: r9) (iv x :: st)) : V E R mi fin K N M pc (a0 :: a1 :: a2 :: a3 :: a4 :: some (iv x) :: r9) st := v_iload (i := 5) d rfl k
theorem v_fload_5 {x : UInt32} {a0 a1 a2 a3 a4 : Option Value} {r9 : List (Option Value)} (d : decode mi.cc pc = .ok (.fload 5, 2)) (k : V E R mi fin K N M (pc + 2) (a0 :: a1 :: a2 :: a3 :: a4 :: some (fv x) :: r9) (fv x :: st)) : V E R mi fin K N M pc (a0 :: a1 :: a2 :: a3 :: a4 :: some (fv x) :: r9) st := v_fload (i := 5) d rfl k
theorem v_aload_5 {r : Option Nat} {a0 a1 a2 a3 a4 : Option Value} {r9 : List (Option Value)} (d : decode mi.cc pc = .ok (.aload 5, 2)) (k : V E R mi fin K N M (pc + 2) (a0 :: a1 :: a2 :: a3 :: a4 :: some (ro E r) :: r9) (ro E r :: st)) : V E R mi fin K N M pc (a0 :: a1 :: a2 :: a3 :: a4 :: some (ro E r) :: r9) st := v_aload (i := 5) d rfl k
theorem v_istore_5 {x : Int} {w9 : Option Value} {a0 a1 a2 a3 a4 : Option Value} {r9 : List (Option Value)} (d : decode mi.cc pc = .ok (.istore 5, 2)) (hn : 5 < mi.nL) (hc : c1 (a0 :: a1 :: a2 :: a3 :: a4 :: w9 :: r9) = true) (k : V E R mi fin K N M (pc + 2) (a0 :: a1 :: a2 :: a3 :: a4 :: some (iv x) :: r9) st) : V E R mi fin K N M pc (a0 :: a1 :: a2 :: a3 :: a4 :: w9 :: r9) (iv x :: st) := v_istore (i := 5) d hn hc k
theorem v_fstore_5 {x : UInt32} {w9 : Option Value} {a0 a1 a2 a3 a4 : Option Value} {r9 : List (Option Value)} (d : decode mi.cc pc = .ok (.fstore 5, 2)) (hn : 5 < mi.nL) (hc : c1 (a0 :: a1 :: a2 :: a3 :: a4 :: w9 :: r9) = true) (k : V E R mi fin K N M (pc + 2) (a0 :: a1 :: a2 :: a3 :: a4 :: some (fv x) :: r9) st) : V E R mi fin K N M pc (a0 :: a1 :: a2 :: a3 :: a4 :: w9 :: r9) (fv x :: st) := v_fstore (i := 5) d hn hc k
theorem v_astore_5 {r : Option Nat} {w9 : Option Value} {a0 a1 a2 a3 a4 : Option Value} {r9 : List (Option Value)} (d : decode mi.cc pc = .ok (.astore 5, 2)) (hn : 5 < mi.nL) (hc : c1 (a0 :: a1 :: a2 :: a3 :: a4 :: w9 :: r9) = true) (k : V E R mi fin K N M (pc + 2) (a0 :: a1 :: a2 :: a3 :: a4 :: some (ro E r) :: r9) st) : V E R mi fin K N M pc (a0 :: a1 :: a2 :: a3 :: a4 :: w9 :: r9) (ro E r :: st) := v_astore (i := 5) d hn hc k
theorem v_iinc_5 {x n : Int} {a0 a1 a2 a3 a4 : Option Value} {r9 : List (Option Value)} (d : decode mi.cc pc = .ok (.iinc 5 n, 3)) (hn : 5 < mi.nL) (hc : c1 (a0 :: a1 :: a2 :: a3 :: a4 :: some (iv x) :: r9) = true) (k : V E R mi fin K N M (pc + 3) (a0 :: a1 :: a2 :: a3 :: a4 :: some (iv (x + n)) :: r9) st) : V E R mi fin K N M pc (a0 :: a1 :: a2 :: a3 :: a4 :: some (iv x) :: r9) st := v_iinc (i := 5) d rfl hn hc k
theorem v_iload_6 {x : Int} {a0 a1 a2 a3 a4 a5 : Option Value} {r9 : List (Option Value)} (d : decode mi.cc pc = .ok (.iload 6, 2)) (k : V E R mi fin K N M (pc + 2) (a0 :: a1 :: a2 :: a3 :: a4 :: a5 :: some (iv x) :: r9) (iv x :: st)) : V E R mi fin K N M pc (a0 :: a1 :: a2 :: a3 :: a4 :: a5 :: some (iv x) :: r9) st := v_iload (i := 6) d rfl k
theorem v_fload_6 {x : UInt32} {a0 a1 a2 a3 a4 a5 : Option Value} {r9 : List (Option Value)} (d : decode mi.cc pc = .ok (.fload 6, 2)) (k : V E R mi fin K N M (pc + 2) (a0 :: a1 :: a2 :: a3 :: a4 :: a5 :: some (fv x) :: r9) (fv x :: st)) : V E R mi fin K N M pc (a0 :: a1 :: a2 :: a3 :: a4 :: a5 :: some (fv x) :: r9) st := v_fload (i := 6) d rfl k
theorem v_aload_6 {r : Option Nat} {a0 a1 a2 a3 a4 a5 : Option Value} {r9 : List (Option Value)} (d : decode mi.cc pc = .ok (.aload 6, 2)) (k : V E R mi fin K N M (pc + 2) (a0 :: a1 :: a2 :: a3 :: a4 :: a5 :: some (ro E r) :: r9) (ro E r :: st)) : V E R mi fin K N M pc (a0 :: a1 :: a2 :: a3 :: a4 :: a5 :: some (ro E r) :: r9) st := v_aload (i := 6) d rfl k
theorem v_istore_6 {x : Int} {w9 : Option Value} {a0 a1 a2 a3 a4 a5 : Option Value} {r9 : List (Option Value)} (d : decode mi.cc pc = .ok (.istore 6, 2)) (hn : 6 < mi.nL) (hc : c1 (a0 :: a1 :: a2 :: a3 :: a4 :: a5 :: w9 :: r9) = true) (k : V E R mi fin K N M (pc + 2) (a0 :: a1 :: a2 :: a3 :: a4 :: a5 :: some (iv x) :: r9) st) : V E R mi fin K N M pc (a0 :: a1 :: a2 :: a3 :: a4 :: a5 :: w9 :: r9) (iv x :: st) := v_istore (i := 6) d hn hc k
theorem v_fstore_6 {x : UInt32} {w9 : Option Value} {a0 a1 a2 a3 a4 a5 : Option Value} {r9 : List (Option Value)} (d : decode mi.cc pc = .ok (.fstore 6, 2)) (hn : 6 < mi.nL) (hc : c1 (a0 :: a1 :: a2 :: a3 :: a4 :: a5 :: w9 :: r9) = true) (k : V E R mi fin K N M (pc + 2) (a0 :: a1 :: a2 :: a3 :: a4 :: a5 :: some (fv x) :: r9) st) : V E R mi fin K N M pc (a0 :: a1 :: a2 :: a3 :: a4 :: a5 :: w9 :: r9) (fv x :: st) := v_fstore (i := 6) d hn hc k
theorem v_astore_6 {r : Option Nat} {w9 : Option Value} {a0 a1 a2 a3 a4 a5 : Option Value} {r9 : List (Option Value)} (d : decode mi.cc pc = .ok (.astore 6, 2)) (hn : 6 < mi.nL) (hc : c1 (a0 :: a1 :: a2 :: a3 :: a4 :: a5 :: w9 :: r9) = true) (k : V E R mi fin K N M (pc + 2) (a0 :: a1 :: a2 :: a3 :: a4 :: a5 :: some (ro E r) :: r9) st) : V E R mi fin K N M pc (a0 :: a1 :: a2 :: a3 :: a4 :: a5 :: w9 :: r9) (ro E r :: st) := v_astore (i := 6) d hn hc k
theorem v_iinc_6 {x n : Int} {a0 a1 a2 a3 a4 a5 : Option Value} {r9 : List (Option Value)} (d : decode mi.cc pc = .ok (.iinc 6 n, 3)) (hn : 6 < mi.nL) (hc : c1 (a0 :: a1 :: a2 :: a3 :: a4 :: a5 :: some (iv x) :: r9) = true) (k : V E R mi fin K N M (pc + 3) (a0 :: a1 :: a2 :: a3 :: a4 :: a5 :: some (iv (x + n)) :: r9) st) : V E R mi fin K N M pc (a0 :: a1 :: a2 :: a3 :: a4 :: a5 :: some (iv x) :: r9) st := v_iinc (i := 6) d rfl hn hc k
theorem v_iload_7 {x : Int} {a0 a1 a2 a3 a4 a5 a6 : Option Value} {r9 : List (Option Value)} (d : decode mi.cc pc = .ok (.iload 7, 2)) (k : V E R mi fin K N M (pc + 2) (a0 :: a1 :: a2 :: a3 :: a4 :: a5 :: a6 :: some (iv x) :: r9) (iv x :: st)) : V E R mi fin K N M pc (a0 :: a1 :: a2 :: a3 :: a4 :: a5 :: a6 :: some (iv x) :: r9) st := v_iload (i := 7) d rfl k
theorem v_fload_7 {x : UInt32} {a0 a1 a2 a3 a4 a5 a6 : Option Value} {r9 : List (Option Value)} (d : decode mi.cc pc = .ok (.fload 7, 2)) (k : V E R mi fin K N M (pc + 2) (a0 :: a1 :: a2 :: a3 :: a4 :: a5 :: a6 :: some (fv x) :: r9) (fv x :: st)) : V E R mi fin K N M pc (a0 :: a1 :: a2 :: a3 :: a4 :: a5 :: a6 :: some (fv x) :: r9) st := v_fload (i := 7) d rfl k
theorem v_aload_7 {r : Option Nat} {a0 a1 a2 a3 a4 a5 a6 : Option Value} {r9 : List (Option Value)} (d : decode mi.cc pc = .ok (.aload 7, 2)) (k : V E R mi fin K N M (pc + 2) (a0 :: a1 :: a2 :: a3 :: a4 :: a5 :: a6 :: some (ro E r) :: r9) (ro E r :: st)) : V E R mi fin K N M pc (a0 :: a1 :: a2 :: a3 :: a4 :: a5 :: a6 :: some (ro E r) :: r9) st := v_aload (i := 7) d rfl k
theorem v_istore_7 {x : Int} {w9 : Option Value} {a0 a1 a2 a3 a4 a5 a6 : Option Value} {r9 : List (Option Value)} (d : decode mi.cc pc = .ok (.istore 7, 2)) (hn : 7 < mi.nL) (hc : c1 (a0 :: a1 :: a2 :: a3 :: a4 :: a5 :: a6 :: w9 :: r9) = true) (k : V E R mi fin K N M (pc + 2) (a0 :: a1 :: a2 :: a3 :: a4 :: a5 :: a6 :: some (iv x) :: r9) st) : V E R mi fin K N M pc (a0 :: a1 :: a2 :: a3 :: a4 :: a5 :: a6 :: w9 :: r9) (iv x :: st) := v_istore (i := 7) d hn hc k
theorem v_fstore_7 {x : UInt32} {w9 : Option Value} {a0 a1 a2 a3 a4 a5 a6 : Option Value} {r9 : List (Option Value)} (d : decode mi.cc pc = .ok (.fstore 7, 2)) (hn : 7 < mi.nL) (hc : c1 (a0 :: a1 :: a2 :: a3 :: a4 :: a5 :: a6 :: w9 :: r9) = true) (k : V E R mi fin K N M (pc + 2) (a0 :: a1 :: a2 :: a3 :: a4 :: a5 :: a6 :: some (fv x) :: r9) st) : V E R mi fin K N M pc (a0 :: a1 :: a2 :: a3 :: a4 :: a5 :: a6 :: w9 :: r9) (fv x :: st) := v_fstore (i := 7) d hn hc k
theorem v_astore_7 {r : Option Nat} {w9 : Option Value} {a0 a1 a2 a3 a4 a5 a6 : Option Value} {r9 : List (Option Value)} (d : decode mi.cc pc = .ok (.astore 7, 2)) (hn : 7 < mi.nL) (hc : c1 (a0 :: a1 :: a2 :: a3 :: a4 :: a5 :: a6 :: w9 :: r9) = true) (k : V E R mi fin K N M (pc + 2) (a0 :: a1 :: a2 :: a3 :: a4 :: a5 :: a6 :: some (ro E r) :: r9) st) : V E R mi fin K N M pc (a0 :: a1 :: a2 :: a3 :: a4 :: a5 :: a6 :: w9 :: r9) (ro E r :: st) := v_astore (i := 7) d hn hc k
theorem v_iinc_7 {x n : Int} {a0 a1 a2 a3 a4 a5 a6 : Option Value} {r9 : List (Option Value)} (d : decode mi.cc pc = .ok (.iinc 7 n, 3)) (hn : 7 < mi.nL) (hc : c1 (a0 :: a1 :: a2 :: a3 :: a4 :: a5 :: a6 :: some (iv x) :: r9) = true) (k : V E R mi fin K N M (pc + 3) (a0 :: a1 :: a2 :: a3 :: a4 :: a5 :: a6 :: some (iv (x + n)) :: r9) st) : V E R mi fin K N M pc (a0 :: a1 :: a2 :: a3 :: a4 :: a5 :: a6 :: some (iv x) :: r9) st := v_iinc (i := 7) d rfl hn hc k
theorem v_iload_8 {x : Int} {a0 a1 a2 a3 a4 a5 a6 a7 : Option Value} {r9 : List (Option Value)} (d : decode mi.cc pc = .ok (.iload 8, 2)) (k : V E R mi fin K N M (pc + 2) (a0 :: a1 :: a2 :: a3 :: a4 :: a5 :: a6 :: a7 :: some (iv x) :: r9) (iv x :: st)) : V E R mi fin K N M pc (a0 :: a1 :: a2 :: a3 :: a4 :: a5 :: a6 :: a7 :: some (iv x) :: r9) st := v_iload (i := 8) d rfl k
theorem v_fload_8 {x : UInt32} {a0 a1 a2 a3 a4 a5 a6 a7 : Option Value} {r9 : List (Option Value)} (d : decode mi.cc pc = .ok (.fload 8, 2)) (k : V E R mi fin K N M (pc + 2) (a0 :: a1 :: a2 :: a3 :: a4 :: a5 :: a6 :: a7 :: some (fv x) :: r9) (fv x :: st)) : V E R mi fin K N M pc (a0 :: a1 :: a2 :: a3 :: a4 :: a5 :: a6 :: a7 :: some (fv x) :: r9) st := v_fload (i := 8) d rfl k
theorem v_aload_8 {r : Option Nat} {a0 a1 a2 a3 a4 a5 a6 a7 : Option Value} {r9 : List (Option Value)} (d : decode mi.cc pc = .ok (.aload 8, 2)) (k : V E R mi fin K N M (pc + 2) (a0 :: a1 :: a2 :: a3 :: a4 :: a5 :: a6 :: a7 :: some (ro E r) :: r9) (ro E r :: st)) : V E R mi fin K N M pc (a0 :: a1 :: a2 :: a3 :: a4 :: a5 :: a6 :: a7 :: some (ro E r) :: r9) st := v_aload (i := 8) d rfl k
theorem v_istore_8 {x : Int} {w9 : Option Value} {a0 a1 a2 a3 a4 a5 a6 a7 : Option Value} {r9 : List (Option Value)} (d : decode mi.cc pc = .ok (.istore 8, 2)) (hn : 8 < mi.nL) (hc : c1 (a0 :: a1 :: a2 :: a3 :: a4 :: a5 :: a6 :: a7 :: w9 :: r9) = true) (k : V E R mi fin K N M (pc + 2) (a0 :: a1 :: a2 :: a3 :: a4 :: a5 :: a6 :: a7 :: some (iv x) :: r9) st) : V E R mi fin K N M pc (a0 :: a1 :: a2 :: a3 :: a4 :: a5 :: a6 :: a7 :: w9 :: r9) (iv x :: st) := v_istore (i := 8) d hn hc k
theorem v_fstore_8 {x : UInt32} {w9 : Option Value} {a0 a1 a2 a3 a4 a5 a6 a7 : Option Value} {r9 : List (Option Value)} (d : decode mi.cc pc = .ok (.fstore 8, 2)) (hn : 8 < mi.nL) (hc : c1 (a0 :: a1 :: a2 :: a3 :: a4 :: a5 :: a6 :: a7 :: w9 :: r9) = true) (k : V E R mi fin K N M (pc + 2) (a0 :: a1 :: a2 :: a3 :: a4 :: a5 :: a6 :: a7 :: some (fv x) :: r9) st) : V E R mi fin K N M pc (a0 :: a1 :: a2 :: a3 :: a4 :: a5 :: a6 :: a7 :: w9 :: r9) (fv x :: st) := v_fstore (i := 8) d hn hc k
theorem v_astore_8 {r : Option Nat} {w9 : Option Value} {a0 a1 a2 a3 a4 a5 a6 a7 : Option Value} {r9 : List (Option Value)} (d : decode mi.cc pc = .ok (.astore 8, 2)) (hn : 8 < mi.nL) (hc : c1 (a0 :: a1 :: a2 :: a3 :: a4 :: a5 :: a6 :: a7 :: w9 :: r9) = true) (k : V E R mi fin K N M (pc + 2) (a0 :: a1 :: a2 :: a3 :: a4 :: a5 :: a6 :: a7 :: some (ro E r) :: r9) st) : V E R mi fin K N M pc (a0 :: a1 :: a2 :: a3 :: a4 :: a5 :: a6 :: a7 :: w9 :: r9) (ro E r :: st) := v_astore (i := 8) d hn hc k
theorem v_iinc_8 {x n : Int} {a0 a1 a2 a3 a4 a5 a6 a7 : Option Value} {r9 : List (Option Value)} (d : decode mi.cc pc = .ok (.iinc 8 n, 3)) (hn : 8 < mi.nL) (hc : c1 (a0 :: a1 :: a2 :: a3 :: a4 :: a5 :: a6 :: a7 :: some (iv x) :: r9) = true) (k : V E R mi fin K N M (pc + 3) (a0 :: a1 :: a2 :: a3 :: a4 :: a5 :: a6 :: a7 :: some (iv (x + n)) :: r9) st) : V E R mi fin K N M pc (a0 :: a1 :: a2 :: a3 :: a4 :: a5 :: a6 :: a7 :: some (iv x) :: r9) st := v_iinc (i := 8) d rfl hn hc k
theorem v_iload_9 {x : Int} {a0 a1 a2 a3 a4 a5 a6 a7 a8 : Option Value} {r9 : List (Option Value)} (d : decode mi.cc pc = .ok (.iload 9, 2)) (k : V E R mi fin K N M (pc + 2) (a0 :: a1 :: a2 :: a3 :: a4 :: a5 :: a6 :: a7 :: a8 :: some (iv x) :: r9) (iv x :: st)) : V E R mi fin K N M pc (a0 :: a1 :: a2 :: a3 :: a4 :: a5 :: a6 :: a7 :: a8 :: some (iv x) :: r9) st := v_iload (i := 9) d rfl k
theorem v_fload_9 {x : UInt32} {a0 a1 a2 a3 a4 a5 a6 a7 a8 : Option Value} {r9 : List (Option Value)} (d : decode mi.cc pc = .ok (.fload 9, 2)) (k : V E R mi fin K N M (pc + 2) (a0 :: a1 :: a2 :: a3 :: a4 :: a5 :: a6 :: a7 :: a8 :: some (fv x) :: r9) (fv x :: st)) : V E R mi fin K N M pc (a0 :: a1 :: a2 :: a3 :: a4 :: a5 :: a6 :: a7 :: a8 :: some (fv x) :: r9) st := v_fload (i := 9) d rfl k
theorem v_aload_9 {r : Option Nat} {a0 a1 a2 a3 a4 a5 a6 a7 a8 : Option Value} {r9 : List (Option Value)} (d : decode mi.cc pc = .ok (.aload 9, 2)) (k : V E R mi fin K N M (pc + 2) (a0 :: a1 :: a2 :: a3 :: a4 :: a5 :: a6 :: a7 :: a8 :: some (ro E r) :: r9) (ro E r :: st)) : V E R mi fin K N M pc (a0 :: a1 :: a2 :: a3 :: a4 :: a5 :: a6 :: a7 :: a8 :: some (ro E r) :: r9) st := v_aload (i := 9) d rfl k
theorem v_istore_9 {x : Int} {w9 : Option Value} {a0 a1 a2 a3 a4 a5 a6 a7 a8 : Option Value} {r9 : List (Option Value)} (d : decode mi.cc pc = .ok (.istore 9, 2)) (hn : 9 < mi.nL) (hc : c1 (a0 :: a1 :: a2 :: a3 :: a4 :: a5 :: a6 :: a7 :: a8 :: w9 :: r9) = true) (k : V E R mi fin K N M (pc + 2) (a0 :: a1 :: a2 :: a3 :: a4 :: a5 :: a6 :: a7 :: a8 :: some (iv x) :: r9) st) : V E R mi fin K N M pc (a0 :: a1 :: a2 :: a3 :: a4 :: a5 :: a6 :: a7 :: a8 :: w9 :: r9) (iv x :: st) := v_istore (i := 9) d hn hc k
theorem v_fstore_9 {x : UInt32} {w9 : Option Value} {a0 a1 a2 a3 a4 a5 a6 a7 a8 : Option Value} {r9 : List (Option Value)} (d : decode mi.cc pc = .ok (.fstore 9, 2)) (hn : 9 < mi.nL) (hc : c1 (a0 :: a1 :: a2 :: a3 :: a4 :: a5 :: a6 :: a7 :: a8 :: w9 :: r9) = true) (k : V E R mi fin K N M (pc + 2) (a0 :: a1 :: a2 :: a3 :: a4 :: a5 :: a6 :: a7 :: a8 :: some (fv x) :: r9) st) : V E R mi fin K N M pc (a0 :: a1 :: a2 :: a3 :: a4 :: a5 :: a6 :: a7 :: a8 :: w9 :: r9) (fv x :: st) := v_fstore (i := 9) d hn hc k
theorem v_astore_9 {r : Option Nat} {w9 : Option Value} {a0 a1 a2 a3 a4 a5 a6 a7 a8 : Option Value} {r9 : List (Option Value)} (d : decode mi.cc pc = .ok (.astore 9, 2)) (hn : 9 < mi.nL) (hc : c1 (a0 :: a1 :: a2 :: a3 :: a4 :: a5 :: a6 :: a7 :: a8 :: w9 :: r9) = true) (k : V E R mi fin K N M (pc + 2) (a0 :: a1 :: a2 :: a3 :: a4 :: a5 :: a6 :: a7 :: a8 :: some (ro E r) :: r9) st) : V E R mi fin K N M pc (a0 :: a1 :: a2 :: a3 :: a4 :: a5 :: a6 :: a7 :: a8 :: w9 :: r9) (ro E r :: st) := v_astore (i := 9) d hn hc k
theorem v_iinc_9 {x n : Int} {a0 a1 a2 a3 a4 a5 a6 a7 a8 : Option Value} {r9 : List (Option Value)} (d : decode mi.cc pc = .ok (.iinc 9 n, 3)) (hn : 9 < mi.nL) (hc : c1 (a0 :: a1 :: a2 :: a3 :: a4 :: a5 :: a6 :: a7 :: a8 :: some (iv x) :: r9) = true) (k : V E R mi fin K N M (pc + 3) (a0 :: a1 :: a2 :: a3 :: a4 :: a5 :: a6 :: a7 :: a8 :: some (iv (x + n)) :: r9) st) : V E R mi fin K N M pc (a0 :: a1 :: a2 :: a3 :: a4 :: a5 :: a6 :: a7 :: a8 :: some (iv x) :: r9) st := v_iinc (i := 9) d rfl hn hc k
theorem v_iload_10 {x : Int} {a0 a1 a2 a3 a4 a5 a6 a7 a8 a9 : Option Value} {r9 : List (Option Value)} (d : decode mi.cc pc = .ok (.iload 10, 2)) (k : V E R mi fin K N M (pc + 2) (a0 :: a1 :: a2 :: a3 :: a4 :: a5 :: a6 :: a7 :: a8 :: a9 :: some (iv x) :: r9) (iv x :: st)) : V E R mi fin K N M pc (a0 :: a1 :: a2 :: a3 :: a4 :: a5 :: a6 :: a7 :: a8 :: a9 :: some (iv x) :: r9) st := v_iload (i := 10) d rfl k
theorem v_fload_10 {x : UInt32} {a0 a1 a2 a3 a4 a5 a6 a7 a8 a9 : Option Value} {r9 : List (Option Value)} (d : decode mi.cc pc = .ok (.fload 10, 2)) (k : V E R mi fin K N M (pc + 2) (a0 :: a1 :: a2 :: a3 :: a4 :: a5 :: a6 :: a7 :: a8 :: a9 :: some (fv x) :: r9) (fv x :: st)) : V E R mi fin K N M pc (a0 :: a1 :: a2 :: a3 :: a4 :: a5 :: a6 :: a7 :: a8 :: a9 :: some (fv x) :: r9) st := v_fload (i := 10) d rfl k
theorem v_aload_10 {r : Option Nat} {a0 a1 a2 a3 a4 a5 a6 a7 a8 a9 : Option Value} {r9 : List (Option Value)} (d : decode mi.cc pc = .ok (.aload 10, 2)) (k : V E R mi fin K N M (pc + 2) (a0 :: a1 :: a2 :: a3 :: a4 :: a5 :: a6 :: a7 :: a8 :: a9 :: some (ro E r) :: r9) (ro E r :: st)) : V E R mi fin K N M pc (a0 :: a1 :: a2 :: a3 :: a4 :: a5 :: a6 :: a7 :: a8 :: a9 :: some (ro E r) :: r9) st := v_aload (i := 10) d rfl k
theorem v_istore_10 {x : Int} {w9 : Option Value} {a0 a1 a2 a3 a4 a5 a6 a7 a8 a9 : Option Value} {r9 : List (Option Value)} (d : decode mi.cc pc = .ok (.istore 10, 2)) (hn : 10 < mi.nL) (hc : c1 (a0 :: a1 :: a2 :: a3 :: a4 :: a5 :: a6 :: a7 :: a8 :: a9 :: w9 :: r9) = true) (k : V E R mi fin K N M (pc + 2) (a0 :: a1 :: a2 :: a3 :: a4 :: a5 :: a6 :: a7 :: a8 :: a9 :: some (iv x) :: r9) st) : V E R mi fin K N M pc (a0 :: a1 :: a2 :: a3 :: a4 :: a5 :: a6 :: a7 :: a8 :: a9 :: w9 :: r9) (iv x :: st) := v_istore (i := 10) d hn hc k
theorem v_fstore_10 {x : UInt32} {w9 : Option Value} {a0 a1 a2 a3 a4 a5 a6 a7 a8 a9 : Option Value} {r9 : List (Option Value)} (d : decode mi.cc pc = .ok (.fstore 10, 2)) (hn : 10 < mi.nL) (hc : c1 (a0 :: a1 :: a2 :: a3 :: a4 :: a5 :: a6 :: a7 :: a8 :: a9 :: w9 :: r9) = true) (k : V E R mi fin K N M (pc + 2) (a0 :: a1 :: a2 :: a3 :: a4 :: a5 :: a6 :: a7 :: a8 :: a9 :: some (fv x) :: r9) st) : V E R mi fin K N M pc (a0 :: a1 :: a2 :: a3 :: a4 :: a5 :: a6 :: a7 :: a8 :: a9 :: w9 :: r9) (fv x :: st) := v_fstore (i := 10) d hn hc k
theorem v_astore_10 {r : Option Nat} {w9 : Option Value} {a0 a1 a2 a3 a4 a5 a6 a7 a8 a9 : Option Value} {r9 : List (Option Value)} (d : decode mi.cc pc = .ok (.astore 10, 2)) (hn : 10 < mi.nL) (hc : c1 (a0 :: a1 :: a2 :: a3 :: a4 :: a5 :: a6 :: a7 :: a8 :: a9 :: w9 :: r9) = true) (k : V E R mi fin K N M (pc + 2) (a0 :: a1 :: a2 :: a3 :: a4 :: a5 :: a6 :: a7 :: a8 :: a9 :: some (ro E r) :: r9) st) : V E R mi fin K N M pc (a0 :: a1 :: a2 :: a3 :: a4 :: a5 :: a6 :: a7 :: a8 :: a9 :: w9 :: r9) (ro E r :: st) := v_astore (i := 10) d hn hc k
theorem v_iinc_10 {x n : Int} {a0 a1 a2 a3 a4 a5 a6 a7 a8 a9 : Option Value} {r9 : List (Option Value)} (d : decode mi.cc pc = .ok (.iinc 10 n, 3)) (hn : 10 < mi.nL) (hc : c1 (a0 :: a1 :: a2 :: a3 :: a4 :: a5 :: a6 :: a7 :: a8 :: a9 :: some (iv x) :: r9) = true) (k : V E R mi fin K N M (pc + 3) (a0 :: a1 :: a2 :: a3 :: a4 :: a5 :: a6 :: a7 :: a8 :: a9 :: some (iv (x + n)) :: r9) st) : V E R mi fin K N M pc (a0 :: a1 :: a2 :: a3 :: a4 :: a5 :: a6 :: a7 :: a8 :: a9 :: some (iv x) :: r9) st := v_iinc (i := 10) d rfl hn hc k
end RULES
end
section
section HEAP
variable {E : Ev} {R : Room} {mi : MI} {fin : Fin9} {K N : Nat} {M : Mem} {pc : Nat} {L : List (Option Value)} {st : List Value}
theorem in_lw (ws : List Cond) (ps : List Nat) (hp : ws = ps.filterMap (fun i => lw_tbl[i]?)) (h : ws.all goodWord = true) : ∀ w ∈ ws, w ∈ lw_tbl.filter goodWord := by
  intro w hw
  have h1 := List.all_eq_true.mp h w hw
  rw [hp] at hw
  obtain ⟨i, -, hi⟩ := List.mem_filterMap.mp hw
  exact List.mem_filter.mpr ⟨List.mem_of_getElem? hi, h1⟩
theorem Cx.tg {p : Program} {s : State} {m : MethodId} {args : Array Value} {meth : Method} {c : Code} (h : Cx E mi p s m args meth c) (d0 : Drawn) : ∀ w ∈ lw_tbl.filter goodWord, w.before args (s.setDrawn d0) = true := fun w hw => h.word d0 (List.mem_filter.mp hw).1 (List.mem_filter.mp hw).2
theorem PS.put {H H1 : Heap} {a : Nat} {e0 e1 : va_E} (hP : PS E M H) (hM : M[a]? = some e0) (he : va_at E.D vwCl (E.b + a, e1) H1) (z : H1.size = H.size) (oq : ∀ q : Nat, q ≠ E.b + a → H1[q]? = H[q]?) : PS E (M.set a e1) H1 := by
  refine ⟨?_, by rw [z, hP.2, List.length_set]⟩
  have h := va_P.set (e := e1) hP.1 (wl_D (β := E.b) (M := M)) (wl_get hM) he oq
  rw [wl_set] at h
  exact h
theorem v_getf {a ci n k idx : Nat} {fs : List Value} {v : Value} {Cq : String} {T : u_T} (d : decode mi.cc pc = .ok (.getfield idx, 3)) (hM : M[a]? = some (ob ci fs)) (hc : vwCl[ci]? = some (Cq, T, n)) (hin : ∀ w ∈ u_ws Cq T n, w ∈ lw_tbl.filter goodWord) (hk : k < n) (hlink : Cond.fieldLink mi.y.cls idx (T k).1 (T k).2.1 (T k).2.2.1 ∈ lw_tbl) (hv : fs[k]? = some v) (k9 : V E R mi fin K N M (pc + 3) L (v :: st)) : V E R mi fin K N M pc L (rr E a :: st) := by
  intro p e s m args below meth c H locs ls d0 C hd hP hS hl
  exact va_get C.1 C.2.1 (C.tg d0) hin (C.own d0) (C.K d0) hP.1 a (wl_get hM) hc k hk (C.word d0 hlink rfl) (fun x h => h) hv d (k9 p e s m args below meth c H locs ls d0 C hd hP hS hl)
theorem v_getn {a ci n k idx : Nat} {fs : List Value} {v : Value} {Cq host : String} {T : u_T} (d : decode mi.cc pc = .ok (.getfield idx, 3)) (hM : M[a]? = some (ob ci fs)) (hc : vwCl[ci]? = some (Cq, T, n)) (hin : ∀ w ∈ u_ws Cq T n, w ∈ lw_tbl.filter goodWord) (hk : k < n) (hlink : Cond.fieldLinkNest mi.y.cls idx (T k).1 (T k).2.1 (T k).2.2.1 host ∈ lw_tbl) (hv : fs[k]? = some v) (k9 : V E R mi fin K N M (pc + 3) L (v :: st)) : V E R mi fin K N M pc L (rr E a :: st) := by
  intro p e s m args below meth c H locs ls d0 C hd hP hS hl
  exact va_getN C.1 C.2.1 (C.tg d0) hin (C.own d0) (C.K d0) hP.1 a (wl_get hM) hc k hk (C.nest d0 hlink rfl) (fun x h => h) hv d (k9 p e s m args below meth c H locs ls d0 C hd hP hS hl)
theorem v_putf {a ci n k idx : Nat} {fs : List Value} {v : Value} {Cq : String} {T : u_T} {ty0 : Nat → FieldType} (d : decode mi.cc pc = .ok (.putfield idx, 3)) (hM : M[a]? = some (ob ci fs)) (hc : vwCl[ci]? = some (Cq, T, n)) (hin : ∀ w ∈ u_ws Cq T n, w ∈ lw_tbl.filter goodWord) (hty : ∀ k, k < n → parseFieldDescriptor (T k).2.2.1 = some (ty0 k)) (hnm : ∀ a, a < n → ∀ b, b < n → a ≠ b → (T a).2.1 ≠ (T b).2.1) (hk : k < n) (hlink : Cond.fieldLink mi.y.cls idx (T k).1 (T k).2.1 (T k).2.2.1 ∈ lw_tbl) (hfin : (T k).2.2.2 = false) (hn : narrow (ty0 k) v = v) (hfit : fits (ty0 k) v = true) (hl9 : k < fs.length) (k9 : V E R mi fin K N (M.set a (ob ci (fs.set k v))) (pc + 3) L st) : V E R mi fin K N M pc L (v :: rr E a :: st) := by
  intro p e s m args below meth c H locs ls d0 C hd hP hS0 hl
  have hts := C.tg d0
  have hK := C.K d0
  have hap := va_apart (own := mi.y.cls) hts hin ty0 hty hnm hK hc
  have he := wl_get (β := E.b) hM
  obtain ⟨r, h1, cell, q1, q2, q3, q4⟩ := hP.1 a _ he
  have hr : r = (Cq, T, n) := Option.some.inj (h1.symm.trans hc)
  subst hr
  obtain ⟨hS, hfc, kC, hkC, hkind⟩ := hK.1 ci _ hc
  obtain ⟨cf, kf, fi, f, hi, hsl⟩ := hS k hk
  have hlay := hts _ (hin _ (u_in_lay hk))
  unfold u_lay at hlay
  rw [if_neg (by rw [hfin]; decide)] at hlay
  have hst := (u_facts hfc hkC (u_lays hts hin hk) hi).1
  have h6 := u_store hfc hkC hkind hlay hi (hty k hk) hn hfit
  refine W.putK C.1 C.2.1 (f := f) ⟨C.own d0, C.word d0 hlink rfl, ⟨_, _, _, hi⟩, hst⟩ (by rw [q2]; exact h6) q1 q3 (by rw [hsl]; exact k2_hasslot (q4 k hk)) rfl rfl d fun H' e1 e2 e3 => ?_
  rw [hsl] at e1 ⊢
  exact k9 p e s m args below meth c H' _ ls d0 C hd (hP.put (e1 := ob ci (fs.set k v)) hM ⟨_, hc, t_OB.to (V := updV (vp_V fs) k v) ⟨_, e1, q2, q3, t_set q4 hap hk v⟩ (fun j _ => vp_updV_set hl9 v j)⟩ e2 e3) (hS0.put e2 e3 (show E.b ≤ E.b + a by omega)) hl
theorem v_putn {a ci n k idx : Nat} {fs : List Value} {v : Value} {Cq host : String} {T : u_T} {ty0 : Nat → FieldType} (d : decode mi.cc pc = .ok (.putfield idx, 3)) (hM : M[a]? = some (ob ci fs)) (hc : vwCl[ci]? = some (Cq, T, n)) (hin : ∀ w ∈ u_ws Cq T n, w ∈ lw_tbl.filter goodWord) (hty : ∀ k, k < n → parseFieldDescriptor (T k).2.2.1 = some (ty0 k)) (hnm : ∀ a, a < n → ∀ b, b < n → a ≠ b → (T a).2.1 ≠ (T b).2.1) (hk : k < n) (hlink : Cond.fieldLinkNest mi.y.cls idx (T k).1 (T k).2.1 (T k).2.2.1 host ∈ lw_tbl) (hfin : (T k).2.2.2 = false) (hn : narrow (ty0 k) v = v) (hfit : fits (ty0 k) v = true) (hl9 : k < fs.length) (k9 : V E R mi fin K N (M.set a (ob ci (fs.set k v))) (pc + 3) L st) : V E R mi fin K N M pc L (v :: rr E a :: st) := by
  intro p e s m args below meth c H locs ls d0 C hd hP hS0 hl
  have hts := C.tg d0
  have hK := C.K d0
  have hap := va_apart (own := mi.y.cls) hts hin ty0 hty hnm hK hc
  have he := wl_get (β := E.b) hM
  obtain ⟨r, h1, cell, q1, q2, q3, q4⟩ := hP.1 a _ he
  have hr : r = (Cq, T, n) := Option.some.inj (h1.symm.trans hc)
  subst hr
  obtain ⟨hS, hfc, kC, hkC, hkind⟩ := hK.1 ci _ hc
  obtain ⟨cf, kf, fi, f, hi, hsl⟩ := hS k hk
  have hlay := hts _ (hin _ (u_in_lay hk))
  unfold u_lay at hlay
  rw [if_neg (by rw [hfin]; decide)] at hlay
  have hst := (u_facts hfc hkC (u_lays hts hin hk) hi).1
  have h6 := u_store hfc hkC hkind hlay hi (hty k hk) hn hfit
  refine va_WputK C.1 C.2.1 (f := f) (C.own d0) (C.nest d0 hlink rfl) hi hst (by rw [q2]; exact h6) q1 q3 (by rw [hsl]; exact k2_hasslot (q4 k hk)) rfl rfl d fun H' e1 e2 e3 => ?_
  rw [hsl] at e1 ⊢
  exact k9 p e s m args below meth c H' _ ls d0 C hd (hP.put (e1 := ob ci (fs.set k v)) hM ⟨_, hc, t_OB.to (V := updV (vp_V fs) k v) ⟨_, e1, q2, q3, t_set q4 hap hk v⟩ (fun j _ => vp_updV_set hl9 v j)⟩ e2 e3) (hS0.put e2 e3 (show E.b ≤ E.b + a by omega)) hl
/-- a final field, in its class's constructor -/
theorem v_putF {a ci n k idx : Nat} {fs : List Value} {v : Value} {Cq : String} {T : u_T} {ty0 : Nat → FieldType} (d : decode mi.cc pc = .ok (.putfield idx, 3)) (hM : M[a]? = some (ob ci fs)) (hc : vwCl[ci]? = some (Cq, T, n)) (hin : ∀ w ∈ u_ws Cq T n, w ∈ lw_tbl.filter goodWord) (hty : ∀ k, k < n → parseFieldDescriptor (T k).2.2.1 = some (ty0 k)) (hnm : ∀ a, a < n → ∀ b, b < n → a ≠ b → (T a).2.1 ≠ (T b).2.1) (hk : k < n) (hlink : Cond.fieldLink mi.y.cls idx (T k).1 (T k).2.1 (T k).2.2.1 ∈ lw_tbl) (hfin : (T k).2.2.2 = true) (hin2 : mi.y.name = "<init>") (hdecl : (T k).1 = mi.y.cls) (hn : narrow (ty0 k) v = v) (hfit : fits (ty0 k) v = true) (hl9 : k < fs.length) (k9 : V E R mi fin K N (M.set a (ob ci (fs.set k v))) (pc + 3) L st) : V E R mi fin K N M pc L (v :: rr E a :: st) := by
  intro p e s m args below meth c H locs ls d0 C hd hP hS0 hl
  have hts := C.tg d0
  have hK := C.K d0
  have hown := C.own d0
  have hap := va_apart (own := mi.y.cls) hts hin ty0 hty hnm hK hc
  have he := wl_get (β := E.b) hM
  obtain ⟨r, h1, cell, q1, q2, q3, q4⟩ := hP.1 a _ he
  have hr : r = (Cq, T, n) := Option.some.inj (h1.symm.trans hc)
  subst hr
  obtain ⟨hS, hfc, kC, hkC, hkind⟩ := hK.1 ci _ hc
  obtain ⟨cf, kf, fi, f, hi, hsl⟩ := hS k hk
  have hlay := hts _ (hin _ (u_in_lay hk))
  unfold u_lay at hlay
  rw [if_pos hfin] at hlay
  have hst := (u_facts hfc hkC (u_lays hts hin hk) hi).1
  have hcf : m.cls = cf := by
    obtain ⟨_, _, c', _, _, _, -, -, hf', -, -, -, hown2, -⟩ := Cond.laysFinal_spec hlay
    have e1 : c' = cf := by have := hi.symm.trans hf'; simp at this; exact this.1.symm
    rw [hdecl] at hown2
    rw [← e1]; exact Option.some.inj (hown.symm.trans hown2)
  have h6 := u_fits hfc hkC hkind (Or.inr hlay) hi (hty k hk) hn hfit
  have hmn : meth.name = "<init>" := C.2.2.2.2.2.2.1.trans hin2
  refine W.putFinK C.1 C.2.1 hown (C.word d0 hlink rfl) hi hst hcf hmn (by rw [q2]; exact h6) q1 q3 (by rw [hsl]; exact k2_hasslot (q4 k hk)) rfl rfl d fun H' e1 e2 e3 => ?_
  rw [hsl] at e1 ⊢
  exact k9 p e s m args below meth c H' _ ls d0 C hd (hP.put (e1 := ob ci (fs.set k v)) hM ⟨_, hc, t_OB.to (V := updV (vp_V fs) k v) ⟨_, e1, q2, q3, t_set q4 hap hk v⟩ (fun j _ => vp_updV_set hl9 v j)⟩ e2 e3) (hS0.put e2 e3 (show E.b ≤ E.b + a by omega)) hl
def upI (f : Int → Int) (z x : Int) : Int → Int := fun j => if j = z then x else f j
def upR (f : Int → Option Nat) (z : Int) (x : Option Nat) : Int → Option Nat := fun j => if j = z then x else f j
theorem upI_s (f : Int → Int) (z x : Int) : upI f z x z = x := if_pos rfl
theorem upI_n (f : Int → Int) {z j : Int} (x : Int) (h : j ≠ z) : upI f z x j = f j := if_neg h
theorem toNat_cast {z : Int} (h : 0 ≤ z) : ((z.toNat : Nat) : Int) = z := Int.toNat_of_nonneg h
theorem v_iaload {a n : Nat} {f : Int → Int} {z : Int} (d : decode mi.cc pc = .ok (.iaload, 1)) (hM : M[a]? = some (ia E 0 n f)) (h0 : 0 ≤ z) (h1 : z < n) (h2 : n < 2147483648) (k : V E R mi fin K N M (pc + 1) L (iv (f z) :: st)) : V E R mi fin K N M pc L (iv z :: rr E a :: st) := by
  intro p e s m args below meth c H locs ls d0 C hd hP hS hl
  have k := k p e s m args below meth c H locs ls d0 C hd hP hS hl
  refine va_iald C.1 C.2.1 (C.K d0) hP.1 a 0 (wl_get hM) rfl (i_in h0 h1 h2) d ?_
  rw [i_clamp h0 (by omega), toNat_cast h0]
  exact k
theorem v_baload {a n : Nat} {f : Int → Int} {z : Int} (d : decode mi.cc pc = .ok (.baload, 1)) (hM : M[a]? = some (ia E 1 n f)) (h0 : 0 ≤ z) (h1 : z < n) (h2 : n < 2147483648) (k : V E R mi fin K N M (pc + 1) L (iv (f z) :: st)) : V E R mi fin K N M pc L (iv z :: rr E a :: st) := by
  intro p e s m args below meth c H locs ls d0 C hd hP hS hl
  have k := k p e s m args below meth c H locs ls d0 C hd hP hS hl
  refine va_bald C.1 C.2.1 (C.K d0) hP.1 a 1 (wl_get hM) rfl (i_in h0 h1 h2) d ?_
  rw [i_clamp h0 (by omega), toNat_cast h0]
  exact k
theorem up_cell (cA : ClassId) (n : Nat) (f : Int → Int) {z x : Int} (h0 : 0 ≤ z) : (arrV cA n (fun j => .int (Int32.ofInt (f j)))).setSlot z.toNat (.int (Int32.ofInt x)) = arrV cA n (fun j => .int (Int32.ofInt (upI f z x j))) := by
  rw [arrV_store]
  congr 1
  funext q
  by_cases hq : q = z.toNat
  · subst hq
    simp only [updV, upI, toNat_cast h0, if_true]
  · have h3 : ¬ ((q : Int) = z) := by omega
    simp [updV, upI, hq, h3]
theorem v_iastore {a n : Nat} {f : Int → Int} {z x : Int} (d : decode mi.cc pc = .ok (.iastore, 1)) (hM : M[a]? = some (ia E 0 n f)) (h0 : 0 ≤ z) (h1 : z < n) (h2 : n < 2147483648) (k : V E R mi fin K N (M.set a (ia E 0 n (upI f z x))) (pc + 1) L st) : V E R mi fin K N M pc L (iv x :: iv z :: rr E a :: st) := by
  intro p e s m args below meth c H locs ls d0 C hd hP hS hl
  refine W.iast C.1 C.2.1 (hP.1 a _ (wl_get hM)) (((C.K d0).2 0 _ rfl).1 n (fun j => .int (Int32.ofInt (f j)))) (fun q => by cases q) (by show ¬ (Int32.ofInt z < 0 ∨ (arrV _ _ _).slots.size ≤ _); rw [arrV_size]; exact i_in h0 h1 h2) rfl rfl d fun H1 e1 e2 e3 => ?_
  refine k p e s m args below meth c H1 _ ls d0 C hd (hP.put (e1 := ia E 0 n (upI f z x)) hM ?_ e2 e3) (hS.put e2 e3 (show E.b ≤ E.b + a by omega)) hl
  show H1[E.b + a]? = some (vp_cell (E.c 0) (n, .inl (fun j => Int32.ofInt (upI f z x j))))
  rw [e1, i_clamp h0 (by omega), vp_cell_i]
  exact congrArg some (up_cell (E.c 0) n f h0)
theorem v_bastore {a n : Nat} {f : Int → Int} {z x : Int} (d : decode mi.cc pc = .ok (.bastore, 1)) (hM : M[a]? = some (ia E 1 n f)) (h0 : 0 ≤ z) (h1 : z < n) (h2 : n < 2147483648) (hx : -128 ≤ x) (hx2 : x < 128) (k : V E R mi fin K N (M.set a (ia E 1 n (upI f z x))) (pc + 1) L st) : V E R mi fin K N M pc L (iv x :: iv z :: rr E a :: st) := by
  intro p e s m args below meth c H locs ls d0 C hd hP hS hl
  have hb : (Int32.ofInt x).toInt8.toInt32 = Int32.ofInt x := by
    rw [← Int32.toInt_inj, Int8.toInt_toInt32, Int32.toInt_toInt8, i_toInt ⟨by omega, by omega⟩]
    exact Int.bmod_eq_of_le (by omega) (by omega)
  refine W.bast C.1 C.2.1 (hP.1 a _ (wl_get hM)) (((C.K d0).2 1 _ rfl).1 n (fun j => .int (Int32.ofInt (f j)))) (fun q => by cases q) (by show ¬ (Int32.ofInt z < 0 ∨ (arrV _ _ _).slots.size ≤ _); rw [arrV_size]; exact i_in h0 h1 h2) rfl rfl d fun H1 e1 e2 e3 => ?_
  refine k p e s m args below meth c H1 _ ls d0 C hd (hP.put (e1 := ia E 1 n (upI f z x)) hM ?_ e2 e3) (hS.put e2 e3 (show E.b ≤ E.b + a by omega)) hl
  show H1[E.b + a]? = some (vp_cell (E.c 1) (n, .inl (fun j => Int32.ofInt (upI f z x j))))
  have hb2 : narrow .byte (.int (Int32.ofInt x)) = .int (Int32.ofInt x) := congrArg Value.int hb
  rw [e1, i_clamp h0 (by omega), hb2, vp_cell_i]
  exact congrArg some (up_cell (E.c 1) n f h0)
theorem v_aaload {a n t : Nat} {g : Int → Option Nat} {z : Int} {ty : FieldType} (d : decode mi.cc pc = .ok (.aaload, 1)) (hM : M[a]? = some (ra E t n g)) (ht : (tysE E)[t]? = some (E.c t, ty)) (hty : ty.isReference = true) (h0 : 0 ≤ z) (h1 : z < n) (h2 : n < 2147483648) (k : V E R mi fin K N M (pc + 1) L (ro E (g z) :: st)) : V E R mi fin K N M pc L (iv z :: rr E a :: st) := by
  intro p e s m args below meth c H locs ls d0 C hd hP hS hl
  have k := k p e s m args below meth c H locs ls d0 C hd hP hS hl
  have hin := i_in h0 h1 h2
  have hlt : (Int32.ofInt z).toNatClampNeg < n := Nat.not_le.mp fun q => hin (Or.inr q)
  refine W.aald (v := ro E (g z)) (ty := ty) C.1 C.2.1 (hP.1 a _ (wl_get hM)) (((C.K d0).2 t _ ht).1 n (fun j => va_rf ((g j).map (fun a => E.b + a)))) hty (fun q => by cases q) (by show ¬ (Int32.ofInt z < 0 ∨ (arrV _ _ _).slots.size ≤ _); rw [arrV_size]; exact hin) (by show (arrV _ _ _).slots[_]? = _; rw [arrV_read _ _ hlt, i_clamp h0 (by omega)]; show some (va_rf (Option.map (fun a => E.b + a) (g ((z.toNat : Nat) : Int)))) = _; rw [toNat_cast h0]; rfl) rfl rfl d k
theorem v_aastore {a n t ci b nn : Nat} {g : Int → Option Nat} {z : Int} {fs : List Value} {Cq : String} {T : u_T} (d : decode mi.cc pc = .ok (.aastore, 1)) (hM : M[a]? = some (ra E t n g)) (ht : (tysE E)[t]? = some (E.c t, .object Cq)) (hB : M[b]? = some (ob ci fs)) (hc : vwCl[ci]? = some (Cq, T, nn)) (h0 : 0 ≤ z) (h1 : z < n) (h2 : n < 2147483648) (k : V E R mi fin K N (M.set a (ra E t n (upR g z (some b)))) (pc + 1) L st) : V E R mi fin K N M pc L (rr E b :: iv z :: rr E a :: st) := by
  intro p e s m args below meth c H locs ls d0 C hd hP hS hl
  have hin := i_in h0 h1 h2
  have hlt : (Int32.ofInt z).toNatClampNeg < n := Nat.not_le.mp fun q => hin (Or.inr q)
  have h00 : ¬ Int32.ofInt z < 0 := fun q => hin (Or.inl q)
  obtain ⟨r', hr', cellV, g1, g2, g3, -⟩ := hP.1 b _ (wl_get hB)
  have hcls := ((C.K d0).1 ci _ hc).2
  obtain ⟨kA, comp, k1, k2, k3, -⟩ := ((C.K d0).2 t _ ht).2
  have hcomp : comp = E.D.1 ci := Option.some.inj (k3.symm.trans hcls.1)
  subst hcomp
  obtain ⟨kC, hkC, -⟩ := hcls.2
  refine W.aast C.1 C.2.1 (hP.1 a _ (wl_get hM)) (fun q h => by cases h) (fun h => by cases h) k1 k2 rfl hkC ⟨h00, by show _ < (arrV _ _ _).slots.size; rw [arrV_size]; exact hlt⟩ g1 (fun q h => by rw [g3] at h; cases h) (by rw [g2]; exact hkC) (by rw [g2]; exact va_assign hcls) rfl rfl d fun H1 e1 e2 e3 => ?_
  refine k p e s m args below meth c H1 _ ls d0 C hd (hP.put (e1 := ra E t n (upR g z (some b))) hM ?_ e2 e3) (hS.put e2 e3 (show E.b ≤ E.b + a by omega)) hl
  show H1[E.b + a]? = some (vp_cell (E.c t) (n, .inr (.inr (.inr (.inr (fun j => (upR g z (some b) j).map (fun a => E.b + a)))))))
  rw [e1]
  show some ((vp_cell (E.c t) (n, .inr (.inr (.inr (.inr (fun j => (g j).map (fun a => E.b + a))))))).setSlot _ _) = _
  rw [vp_cell_q, arrV_store, i_clamp h0 (by omega), vp_cell_q]
  congr 2
  funext q
  by_cases hq : q = z.toNat
  · subst hq
    simp only [updV, upR, toNat_cast h0, if_true]
    rfl
  · have h3 : ¬ ((q : Int) = z) := by omega
    simp only [updV, upR, hq, h3, if_false]
def MfV (q : MI) (n : Nat) : Prop := Cond.instanceMethod q.y ∈ lw_tbl ∧ Cond.selects q.y.cls q.y q.y ∈ lw_tbl ∧ Cond.initialized q.y.cls ∈ lw_tbl ∧ Cond.code q.y q.cc q.nL q.rt ∈ lw_tbl ∧ (q.y.cls ≠ "java/lang/invoke/MethodHandle" ∧ q.y.cls ≠ "java/lang/invoke/VarHandle" ∧ (parseMethodDescriptor q.y.desc).map (fun d => d.parameters.length) = some n)
def MfS (q : MI) (n : Nat) : Prop := Cond.static q.y ∈ lw_tbl ∧ Cond.initialized q.y.cls ∈ lw_tbl ∧ Cond.code q.y q.cc q.nL q.rt ∈ lw_tbl ∧ (q.y.cls ≠ "java/lang/invoke/MethodHandle" ∧ q.y.cls ≠ "java/lang/invoke/VarHandle" ∧ (parseMethodDescriptor q.y.desc).map (fun d => d.parameters.length) = some n)
def MfI (q : MI) (n : Nat) : Prop := q.y.name = "<init>" ∧ q.rt = none ∧ Cond.instanceMethod q.y ∈ lw_tbl ∧ Cond.initialized q.y.cls ∈ lw_tbl ∧ Cond.code q.y q.cc q.nL q.rt ∈ lw_tbl ∧ (q.y.cls ≠ "java/lang/invoke/MethodHandle" ∧ q.y.cls ≠ "java/lang/invoke/VarHandle" ∧ (parseMethodDescriptor q.y.desc).map (fun d => d.parameters.length) = some n)
theorem tg_of {w : Cond} (h : w ∈ lw_tbl) (hg : goodWord w = true) : w ∈ lw_tbl.filter goodWord := List.mem_filter.mpr ⟨h, hg⟩
theorem good_tg {ws : List Cond} (h : ∀ w ∈ ws, w ∈ lw_tbl.filter goodWord) : GoodIn (lw_tbl.filter goodWord) ws := fun w hw => ⟨h w hw, good_of_word (List.mem_filter.mp (h w hw)).2⟩
theorem wsA_in {q : MI} (h : Cond.code q.y q.cc q.nL q.rt ∈ lw_tbl) : ∀ w ∈ wsA q, w ∈ lw_tbl.filter goodWord := by
  intro w hw
  rcases List.mem_cons.mp hw with rfl | hw
  · exact tg_of h rfl
  · exact hw
theorem PC_blind {as : List Value} : FrameBlind (PC E as M) := fun _ U g mk h => ⟨h.1, h.2.1, h.2.2.1.same (V := U.calling g mk _) rfl h.2.2.2, h.2.2.2⟩
theorem PC_at {p : Program} {s : State} {m : MethodId} {args : Array Value} {meth : Method} {c : Code} {H : Heap} {locs : List Loc} {d0 : Drawn} {as : List Value} (C : Cx E mi p s m args meth c) (hP : PS E M H) (hS : va_S (AE E) s.heap H locs) (U : State) (hU : U.heap = H) (hW : (s.setDrawn d0).WarmedH U.vm) : PC E as M as.toArray U := by
  refine ⟨rfl, by rw [hU]; exact hP, ?_, by rw [hU]; exact Nat.le_trans C.2.2.2.2.2.2.2.2.2 hS.1⟩
  rw [hU]
  exact (C.2.2.2.2.2.2.2.2.1.same (V := s.setDrawn d0) rfl C.2.2.2.2.2.2.2.2.2).to hW (fun a h1 h2 => hS.2.1 a h1 h2) C.2.2.2.2.2.2.2.2.2
theorem v_run {q : MI} {Rq : Room} {rest st0 : List Value} {a9 : Array Value} {p : Program} {e : Env} {s : State} {m : MethodId} {args : Array Value} {below : List Frame} {meth : Method} {c : Code} {H : Heap} {locs : List Loc} {ls : Array Slot} {d0 : Drawn} (C : Cx E mi p s m args meth c) (hd : s.drawn.sameBut d0 lw_cs) (hS : va_S (AE E) s.heap H locs) (hl : lv_has ls mi.nL (asc 0 L))
    (hr : va_RunD lw_cs p E.l e R (s.setDrawn d0) m args below meth c H locs K N Rq.cells Rq.slots (F0 m pc ls st0) rest (QC E (fun r M2 => V E R mi fin (K + Rq.cells) (N + Rq.slots) M2 (pc + 3) L (r.toList ++ rest)) a9) (AE E)) : W p E.l e R (s.setDrawn d0) m args below meth c H locs K N (fin below args s) (F0 m pc ls st0) := by
  intro T hT X
  obtain ⟨v, st₀, t, T', Lc, d', hd', h0, X', hLl, e1, e2, ⟨⟨r, M', hv, hp, hP'⟩, hz, hk⟩, stp⟩ := hr T hT X
  cases hv
  have hS' : va_S (AE E) s.heap T'.heap (locs ++ Lc) := by
    rw [h0] at hz hk
    refine ⟨Nat.le_trans hS.1 (by rw [e1]; exact hz), fun q h1 h2 => ?_, fun q hq => ?_⟩
    · rw [e1, hk q (Nat.lt_of_lt_of_le h1 hS.1) h2]
      exact hS.2.1 q h1 h2
    · rcases List.mem_append.mp hq with h | h
      · exact hS.2.2 q h
      · exact hLl q h
  obtain ⟨t2, a1, b1⟩ := hp p e s m args below meth c T'.heap (locs ++ Lc) ls d' C (hd.trans hd') (by rw [e1]; exact hP') hS' hl T' rfl X'
  exact ⟨t2, stp t2 a1, b1⟩
theorem v_callV {q : MI} {Rq : Room} {b ci n idx nn : Nat} {fs As rest : List Value} {T : u_T} (d : decode mi.cc pc = .ok (.invokevirtual idx, 3)) (hM : M[b]? = some (ob ci fs)) (hc : vwCl[ci]? = some (q.y.cls, T, nn)) (hlk : Cond.methodLink mi.y.cls idx q.y ∈ lw_tbl) (hq : MfV q n) (hn : As.length = n) (hR : Rq.frames + 1 ≤ R.frames ∧ 8 + (q.nL + 11) + Rq.locals ≤ R.locals) (hw : (rest.map fun v => v.category).sum ≤ 8) (hf : K + Rq.cells ≤ R.cells ∧ N + Rq.slots ≤ R.slots)
    (k : Cn E Rq q (rr E b :: As) M (fun r M2 => V E R mi fin (K + Rq.cells) (N + Rq.slots) M2 (pc + 3) L (r.toList ++ rest))) : V E R mi fin K N M pc L (As.reverse ++ rr E b :: rest) := by
  intro p e s m args below meth c H locs ls d0 C hd hP hS hl
  refine v_run (q := q) (Rq := Rq) (rest := rest) (a9 := (rr E b :: As).toArray) C hd hS hl ?_
  refine va_runV_D (C := q.y.cls) (As := As) (rest := rest) ⟨C.1, C.2.1, C.2.2.2.2.1, C.own d0, C.tg d0⟩ k (cwV n (C.tg d0) (good_tg ?_) rfl rfl rfl ⟨rfl, hq.2.2.2.2⟩ hR) ⟨PC_blind, va_recv (C.K d0) hP.1 hc (wl_get hM), fun U hU hW => PC_at C hP hS U hU hW⟩ rfl hn hl.1 rfl (lv_room hw) d hf
  intro w hw
  rcases List.mem_append.mp hw with hw | hw
  · simp only [List.mem_cons, List.not_mem_nil, or_false] at hw
    rcases hw with rfl | rfl | rfl | rfl
    · exact tg_of hlk rfl
    · exact tg_of hq.1 rfl
    · exact tg_of hq.2.1 rfl
    · exact tg_of hq.2.2.1 rfl
  · exact wsA_in hq.2.2.2.1 w hw
theorem v_callS {q : MI} {Rq : Room} {n idx : Nat} {As rest : List Value} (d : decode mi.cc pc = .ok (.invokestatic idx, 3)) (hlk : Cond.methodLink mi.y.cls idx q.y ∈ lw_tbl) (hq : MfS q n) (hn : As.length = n) (hR : Rq.frames + 1 ≤ R.frames ∧ 8 + (q.nL + 11) + Rq.locals ≤ R.locals) (hw : (rest.map fun v => v.category).sum ≤ 8) (hf : K + Rq.cells ≤ R.cells ∧ N + Rq.slots ≤ R.slots)
    (k : Cn E Rq q As M (fun r M2 => V E R mi fin (K + Rq.cells) (N + Rq.slots) M2 (pc + 3) L (r.toList ++ rest))) : V E R mi fin K N M pc L (As.reverse ++ rest) := by
  intro p e s m args below meth c H locs ls d0 C hd hP hS hl
  refine v_run (q := q) (Rq := Rq) (rest := rest) (a9 := As.toArray) C hd hS hl ?_
  refine va_runS_D (As := As) (rest := rest) ⟨C.1, C.2.1, C.2.2.2.2.1, C.own d0, C.tg d0⟩ k ⟨callB_of n (C.tg d0) (good_tg (wsA_in hq.2.2.1)) rfl rfl rfl (C.word d0 hq.2.1 rfl) (C.word d0 hlk rfl) hq.2.2.2 hR, C.word d0 hq.1 rfl⟩ ⟨PC_blind, fun U hU hW => PC_at C hP hS U hU hW⟩ rfl hn hl.1 rfl (lv_room hw) d hf
theorem v_callI {q : MI} {Rq : Room} {b n idx : Nat} {As rest : List Value} (d : decode mi.cc pc = .ok (.invokespecial idx, 3)) (hlk : Cond.methodLink mi.y.cls idx q.y ∈ lw_tbl) (hq : MfI q n) (hn : As.length = n) (hR : Rq.frames + 1 ≤ R.frames ∧ 8 + (q.nL + 11) + Rq.locals ≤ R.locals) (hw : (rest.map fun v => v.category).sum ≤ 8) (hf : K + Rq.cells ≤ R.cells ∧ N + Rq.slots ≤ R.slots)
    (k : Cn E Rq q (rr E b :: As) M (fun r M2 => V E R mi fin (K + Rq.cells) (N + Rq.slots) M2 (pc + 3) L (r.toList ++ rest))) : V E R mi fin K N M pc L (As.reverse ++ rr E b :: rest) := by
  intro p e s m args below meth c H locs ls d0 C hd hP hS hl
  refine v_run (q := q) (Rq := Rq) (rest := rest) (a9 := (rr E b :: As).toArray) C hd hS hl ?_
  have hcb := callB_of n (C.tg d0) (good_tg (wsA_in hq.2.2.2.2.1)) (rm := Rq) rfl rfl rfl (C.word d0 hq.2.2.2.1 rfl) (C.word d0 hlk rfl) hq.2.2.2.2.2 hR
  rw [hq.2.1] at hcb
  exact va_runI_D (As := As) (rest := rest) ⟨C.1, C.2.1, C.2.2.2.2.1, C.own d0, C.tg d0⟩ k ⟨hcb, hq.1, C.word d0 hq.2.2.1 rfl⟩ ⟨PC_blind, fun U hU hW => PC_at C hP hS U hU hW⟩ rfl hn hl.1 rfl (lv_room hw) d hf
theorem v_callIN {q : MI} {Rq : Room} {b n idx : Nat} {host : String} {As rest : List Value} (d : decode mi.cc pc = .ok (.invokespecial idx, 3)) (hlk : Cond.methodLinkNest mi.y.cls idx q.y host ∈ lw_tbl) (hq : MfI q n) (hn : As.length = n) (hR : Rq.frames + 1 ≤ R.frames ∧ 8 + (q.nL + 11) + Rq.locals ≤ R.locals) (hw : (rest.map fun v => v.category).sum ≤ 8) (hf : K + Rq.cells ≤ R.cells ∧ N + Rq.slots ≤ R.slots)
    (k : Cn E Rq q (rr E b :: As) M (fun r M2 => V E R mi fin (K + Rq.cells) (N + Rq.slots) M2 (pc + 3) L (r.toList ++ rest))) : V E R mi fin K N M pc L (As.reverse ++ rr E b :: rest) := by
  intro p e s m args below meth c H locs ls d0 C hd hP hS hl
  refine v_run (q := q) (Rq := Rq) (rest := rest) (a9 := (rr E b :: As).toArray) C hd hS hl ?_
  have hcb := va_cnB (host := host) n (C.tg d0) (good_tg (wsA_in hq.2.2.2.2.1)) (rm := Rq) (R := R) (own := mi.y.cls) (index := idx) rfl rfl rfl (va_Nw.of (A := args) rfl (C.nest d0 hlk rfl)) (C.word d0 hq.2.2.2.1 rfl) hq.2.2.2.2.2 hR
  rw [hq.2.1] at hcb
  exact va_runIN_D (As := As) (rest := rest) ⟨C.1, C.2.1, C.2.2.2.2.1, C.own d0, C.tg d0⟩ k ⟨hcb, hq.1, C.word d0 hq.2.2.1 rfl⟩ ⟨PC_blind, fun U hU hW => PC_at C hP hS U hU hW⟩ rfl hn hl.1 rfl (lv_room hw) d hf
variable {Post : Option Value → Mem → Prop}
theorem v_iret {z : Int} (d : decode mi.cc pc = .ok (.ireturn, 1)) (hr : mi.rt = some .int) (hk : K ≤ R.cells) (hn : N ≤ R.slots) (hp : Post (some (iv z)) M) : V E R mi (finM E R Post) K N M pc L [iv z] := by
  intro p e s m args below meth c H locs ls d0 C hd hP hS hl
  refine W.widen hk hn ?_
  refine W.endD hd ?_
  exact W.iret C.1 C.2.1 (C.2.2.1.trans hr) (fun t ht hW => ⟨⟨_, M, rfl, hp, by rw [ht]; exact hP⟩, va_S.F (s := s.setDrawn d0) hS ht⟩) (fun q hq => hS.2.2 q hq) d C.2.2.2.1
theorem v_zret {z : Int} (d : decode mi.cc pc = .ok (.ireturn, 1)) (hr : mi.rt = some .boolean) (hk : K ≤ R.cells) (hn : N ≤ R.slots) (hz : z = 0 ∨ z = 1) (hp : Post (some (iv z)) M) : V E R mi (finM E R Post) K N M pc L [iv z] := by
  intro p e s m args below meth c H locs ls d0 C hd hP hS hl
  refine W.widen hk hn ?_
  refine W.endD hd ?_
  exact W.zret C.1 C.2.1 (C.2.2.1.trans hr) (by rcases hz with rfl | rfl <;> rfl) (fun t ht hW => ⟨⟨_, M, rfl, hp, by rw [ht]; exact hP⟩, va_S.F (s := s.setDrawn d0) hS ht⟩) (fun q hq => hS.2.2 q hq) d C.2.2.2.1
theorem v_cret {z : Int} (d : decode mi.cc pc = .ok (.ireturn, 1)) (hr : mi.rt = some .char) (hk : K ≤ R.cells) (hn : N ≤ R.slots) (hz : narrow .char (iv z) = iv z) (hp : Post (some (iv z)) M) : V E R mi (finM E R Post) K N M pc L [iv z] := by
  intro p e s m args below meth c H locs ls d0 C hd hP hS hl
  refine W.widen hk hn ?_
  refine W.endD hd ?_
  exact W.zret C.1 C.2.1 (C.2.2.1.trans hr) hz (fun t ht hW => ⟨⟨_, M, rfl, hp, by rw [ht]; exact hP⟩, va_S.F (s := s.setDrawn d0) hS ht⟩) (fun q hq => hS.2.2 q hq) d C.2.2.2.1
theorem v_bret {z : Int} (d : decode mi.cc pc = .ok (.ireturn, 1)) (hr : mi.rt = some .byte) (hk : K ≤ R.cells) (hn : N ≤ R.slots) (hz : narrow .byte (iv z) = iv z) (hp : Post (some (iv z)) M) : V E R mi (finM E R Post) K N M pc L [iv z] := by
  intro p e s m args below meth c H locs ls d0 C hd hP hS hl
  refine W.widen hk hn ?_
  refine W.endD hd ?_
  exact W.zret C.1 C.2.1 (C.2.2.1.trans hr) hz (fun t ht hW => ⟨⟨_, M, rfl, hp, by rw [ht]; exact hP⟩, va_S.F (s := s.setDrawn d0) hS ht⟩) (fun q hq => hS.2.2 q hq) d C.2.2.2.1
theorem v_lret {z : Int} (d : decode mi.cc pc = .ok (.lreturn, 1)) (hr : mi.rt = some .long) (hk : K ≤ R.cells) (hn : N ≤ R.slots) (hp : Post (some (jv z)) M) : V E R mi (finM E R Post) K N M pc L [jv z] := by
  intro p e s m args below meth c H locs ls d0 C hd hP hS hl
  refine W.widen hk hn ?_
  refine W.endD hd ?_
  exact W.lret C.1 C.2.1 (C.2.2.1.trans hr) (fun t ht hW => ⟨⟨_, M, rfl, hp, by rw [ht]; exact hP⟩, va_S.F (s := s.setDrawn d0) hS ht⟩) (fun q hq => hS.2.2 q hq) d C.2.2.2.1
theorem v_vret (d : decode mi.cc pc = .ok (.return_, 1)) (hr : mi.rt = none) (hk : K ≤ R.cells) (hn : N ≤ R.slots) (hp : Post none M) : V E R mi (finM E R Post) K N M pc L [] := by
  intro p e s m args below meth c H locs ls d0 C hd hP hS hl
  refine W.widen hk hn ?_
  refine W.endD hd ?_
  exact W.vret C.1 C.2.1 (C.2.2.1.trans hr) (fun t ht hW => ⟨⟨_, M, rfl, hp, by rw [ht]; exact hP⟩, va_S.F (s := s.setDrawn d0) hS ht⟩) (fun q hq => hS.2.2 q hq) d C.2.2.2.1
theorem v_aret {r : Option Nat} {nm : String} (d : decode mi.cc pc = .ok (.areturn, 1)) (hr : mi.rt = some (.object nm)) (hk : K ≤ R.cells) (hn : N ≤ R.slots) (hp : Post (some (ro E r)) M) : V E R mi (finM E R Post) K N M pc L [ro E r] := by
  intro p e s m args below meth c H locs ls d0 C hd hP hS hl
  refine W.widen hk hn ?_
  refine W.endD hd ?_
  exact W.aret C.1 C.2.1 (C.2.2.1.trans hr) (Or.inl ⟨_, rfl⟩) (by cases r with | none => exact Or.inl rfl | some a => exact Or.inr ⟨_, rfl⟩) (fun t ht hW => ⟨⟨_, M, rfl, hp, by rw [ht]; exact hP⟩, va_S.F (s := s.setDrawn d0) hS ht⟩) (fun q hq => hS.2.2 q hq) d C.2.2.2.1
theorem Cn.of {as : List Value} (hy : plainName mi.y.cls = true) (hl : (lg_sl as).length ≤ mi.nL) (hL : lv_args 0 as = asc 0 L) (k : V E R mi (finM E R Post) 0 0 M 0 L []) : Cn E R mi as M Post := by
  refine MetD.ofW (cc := mi.cc) (maxL := mi.nL) (ret := mi.rt) hy rfl ?_
  intro p e s m args below meth c s₁ B hml hv hd0
  obtain ⟨rfl, hP, hK, hb⟩ := hv
  rw [lg_entry_eq]
  have hlv := lv_entry as (n := mi.nL) hl
  have hts := atoms_spec (ws := wsA mi) B.pre
  exact k p e s m _ below meth c s.heap [] _ s.drawn ⟨B.exec, B.bytes, B.returns, B.notSynchronized, hml, findClass_of_methodNamed B.named, (name_of_methodNamed B.named B.method).1, fun w hw hg => hts w (List.mem_cons_of_mem _ (tg_of hw hg)), hK, hb⟩ hd0 hP va_S.rf (by rw [← hL]; exact hlv)
theorem v_max {x y : Int} {idx : Nat} (d : decode mi.cc pc = .ok (.invokestatic idx, 3)) (hlk : Cond.methodLink mi.y.cls idx Lib.Math.max.name ∈ lw_tbl) (h2 : Cond.static Lib.Math.max.name ∈ lw_tbl) (h3 : Cond.initialized "java/lang/Math" ∈ lw_tbl) (h4 : Cond.code Lib.Math.max.name Lib.Math.max.code 2 (some .int) ∈ lw_tbl) (hx : I32 x) (hy : I32 y) (hR : 1 ≤ R.frames) (hR2 : (st.map fun v => v.category).sum + 13 ≤ R.locals) (hk : K ≤ R.cells) (hn : N ≤ R.slots) (k : V E R mi fin K N M (pc + 3) L (iv (max x y) :: st)) : V E R mi fin K N M pc L (iv y :: iv x :: st) := by
  intro p e s m args below meth c H locs ls d0 C hd hP hS hl
  have k := k p e s m args below meth c H locs ls d0 C hd hP hS hl
  refine va_mmax C.1 C.2.1 (C.2.2.2.2.1.trans hl.1.symm) (C.own d0) (C.word d0 hlk rfl) (C.word d0 h2 rfl) (C.word d0 h3 rfl) (C.word d0 h4 rfl) hR hR2 hk hn d ?_
  have e1 : (if Int32.ofInt x < Int32.ofInt y then Int32.ofInt y else Int32.ofInt x) = Int32.ofInt (max x y) := by
    by_cases h : x < y
    · rw [if_pos ((i_lt hx hy).mpr h), Int.max_eq_right (Int.le_of_lt h)]
    · rw [if_neg (fun q => h ((i_lt hx hy).mp q)), Int.max_eq_left (by omega)]
  rw [e1]
  exact k
theorem v_min {x y : Int} {idx : Nat} (d : decode mi.cc pc = .ok (.invokestatic idx, 3)) (hlk : Cond.methodLink mi.y.cls idx Lib.Math.min.name ∈ lw_tbl) (h2 : Cond.static Lib.Math.min.name ∈ lw_tbl) (h3 : Cond.initialized "java/lang/Math" ∈ lw_tbl) (h4 : Cond.code Lib.Math.min.name Lib.Math.min.code 2 (some .int) ∈ lw_tbl) (hx : I32 x) (hy : I32 y) (hR : 1 ≤ R.frames) (hR2 : (st.map fun v => v.category).sum + 13 ≤ R.locals) (hk : K ≤ R.cells) (hn : N ≤ R.slots) (k : V E R mi fin K N M (pc + 3) L (iv (min x y) :: st)) : V E R mi fin K N M pc L (iv y :: iv x :: st) := by
  intro p e s m args below meth c H locs ls d0 C hd hP hS hl
  have k := k p e s m args below meth c H locs ls d0 C hd hP hS hl
  refine va_mmin C.1 C.2.1 (C.2.2.2.2.1.trans hl.1.symm) (C.own d0) (C.word d0 hlk rfl) (C.word d0 h2 rfl) (C.word d0 h3 rfl) (C.word d0 h4 rfl) hR hR2 hk hn d ?_
  first
  | (have e1 : (if Int32.ofInt x < Int32.ofInt y then Int32.ofInt x else Int32.ofInt y) = Int32.ofInt (min x y) := by
      by_cases h : x < y
      · rw [if_pos ((i_lt hx hy).mpr h), Int.min_eq_left (Int.le_of_lt h)]
      · rw [if_neg (fun q => h ((i_lt hx hy).mp q)), Int.min_eq_right (by omega)]
     rw [e1]
     exact k)
  | (have e1 : (if Int32.ofInt x ≤ Int32.ofInt y then Int32.ofInt x else Int32.ofInt y) = Int32.ofInt (min x y) := by
      by_cases h : x ≤ y
      · rw [if_pos ((i_le hx hy).mpr h), Int.min_eq_left h]
      · rw [if_neg (fun q => h ((i_le hx hy).mp q)), Int.min_eq_right (by omega)]
     rw [e1]
     exact k)
  | (have e1 : (if Int32.ofInt y < Int32.ofInt x then Int32.ofInt y else Int32.ofInt x) = Int32.ofInt (min x y) := by
      by_cases h : y < x
      · rw [if_pos ((i_lt hy hx).mpr h), Int.min_eq_right (Int.le_of_lt h)]
      · rw [if_neg (fun q => h ((i_lt hy hx).mp q)), Int.min_eq_left (by omega)]
     rw [e1]
     exact k)
end HEAP
end
section
abbrev mJ0_charAt_5068e : MI := (yJ0_charAt_5068e, cJ0_charAt_5068e, 2, (some .char))
abbrev rJ0_charAt_5068e : Room := { frames := 4, cells := 0, slots := 0, locals := 85 }
abbrev mJ0_checkIndex_df160 : MI := (yJ0_checkIndex_df160, cJ0_checkIndex_df160, 2, none)
abbrev rJ0_checkIndex_df160 : Room := { frames := 1, cells := 0, slots := 0, locals := 22 }
abbrev mJ0_coder_7d493 : MI := (yJ0_coder_7d493, cJ0_coder_7d493, 1, (some .byte))
abbrev rJ0_coder_7d493 : Room := { frames := 0, cells := 0, slots := 0, locals := 0 }
abbrev mJ0_isLatin1_aae02 : MI := (yJ0_isLatin1_aae02, cJ0_isLatin1_aae02, 1, (some .boolean))
abbrev rJ0_isLatin1_aae02 : Room := { frames := 0, cells := 0, slots := 0, locals := 0 }
abbrev mJ0_length_8abf5 : MI := (yJ0_length_8abf5, cJ0_length_8abf5, 1, (some .int))
abbrev rJ0_length_8abf5 : Room := { frames := 1, cells := 0, slots := 0, locals := 20 }
abbrev mJ1_charAt_3b067 : MI := (yJ1_charAt_3b067, cJ1_charAt_3b067, 2, (some .char))
abbrev rJ1_charAt_3b067 : Room := { frames := 2, cells := 0, slots := 0, locals := 43 }
abbrev mJ2_charAt_3b067 : MI := (yJ2_charAt_3b067, cJ2_charAt_3b067, 2, (some .char))
abbrev rJ2_charAt_3b067 : Room := { frames := 3, cells := 0, slots := 0, locals := 64 }
abbrev mJ2_checkIndex_2214a : MI := (yJ2_checkIndex_2214a, cJ2_checkIndex_2214a, 2, none)
abbrev rJ2_checkIndex_2214a : Room := { frames := 2, cells := 0, slots := 0, locals := 43 }
abbrev mJ2_getChar_3b067 : MI := (yJ2_getChar_3b067, cJ2_getChar_3b067, 2, (some .char))
abbrev rJ2_getChar_3b067 : Room := { frames := 1, cells := 0, slots := 0, locals := 20 }
abbrev mJ2_length_9d52b : MI := (yJ2_length_9d52b, cJ2_length_9d52b, 1, (some .int))
abbrev rJ2_length_9d52b : Room := { frames := 0, cells := 0, slots := 0, locals := 0 }
abbrev mJ3_checkIndex_8e157 : MI := (yJ3_checkIndex_8e157, cJ3_checkIndex_8e157, 3, (some .int))
abbrev rJ3_checkIndex_8e157 : Room := { frames := 0, cells := 0, slots := 0, locals := 0 }
abbrev mJ6_bitCount_0f7a4 : MI := (yJ6_bitCount_0f7a4, cJ6_bitCount_0f7a4, 1, (some .int))
abbrev rJ6_bitCount_0f7a4 : Room := { frames := 0, cells := 0, slots := 0, locals := 0 }
abbrev mJ9_max_7cf53 : MI := (yJ9_max_7cf53, cJ9_max_7cf53, 2, (some .int))
abbrev rJ9_max_7cf53 : Room := { frames := 0, cells := 0, slots := 0, locals := 0 }
abbrev mJ9_min_7cf53 : MI := (yJ9_min_7cf53, cJ9_min_7cf53, 2, (some .int))
abbrev rJ9_min_7cf53 : Room := { frames := 0, cells := 0, slots := 0, locals := 0 }
abbrev mX0_init : MI := (yX0_init, cX0_init, 1, none)
abbrev rX0_init : Room := { frames := 1, cells := 0, slots := 0, locals := 20 }
abbrev mX1_forgetAll : MI := (yX1_forgetAll, cX1_forgetAll, 1, none)
abbrev rX1_forgetAll : Room := { frames := 0, cells := 0, slots := 0, locals := 0 }
abbrev mX1_forgetOldest : MI := (yX1_forgetOldest, cX1_forgetOldest, 3, none)
abbrev rX1_forgetOldest : Room := { frames := 0, cells := 0, slots := 0, locals := 0 }
abbrev mX1_init : MI := (yX1_init, cX1_init, 2, none)
abbrev rX1_init : Room := { frames := 2, cells := 11, slots := 70, locals := 40 }
abbrev mX1_next : MI := (yX1_next, cX1_next, 3, (some (.object "AirIndex$Act")))
abbrev rX1_next : Room := { frames := 1, cells := 0, slots := 0, locals := 22 }
abbrev mX1_takeLatest : MI := (yX1_takeLatest, cX1_takeLatest, 1, (some (.object "AirIndex$Act")))
abbrev rX1_takeLatest : Room := { frames := 0, cells := 0, slots := 0, locals := 0 }
abbrev mX2_addStation : MI := (yX2_addStation, cX2_addStation, 2, none)
abbrev rX2_addStation : Room := { frames := 0, cells := 0, slots := 0, locals := 0 }
abbrev mX2_addSubstance : MI := (yX2_addSubstance, cX2_addSubstance, 4, (some (.object "AirIndex$Substance")))
abbrev rX2_addSubstance : Room := { frames := 0, cells := 0, slots := 0, locals := 0 }
abbrev mX2_bandOf : MI := (yX2_bandOf, cX2_bandOf, 4, (some .int))
abbrev rX2_bandOf : Room := { frames := 0, cells := 0, slots := 0, locals := 0 }
abbrev mX2_bandStart : MI := (yX2_bandStart, cX2_bandStart, 2, (some .int))
abbrev rX2_bandStart : Room := { frames := 0, cells := 0, slots := 0, locals := 0 }
abbrev mX2_clear : MI := (yX2_clear, cX2_clear, 3, none)
abbrev rX2_clear : Room := { frames := 0, cells := 0, slots := 0, locals := 0 }
abbrev mX2_countIndexed : MI := (yX2_countIndexed, cX2_countIndexed, 5, (some .int))
abbrev rX2_countIndexed : Room := { frames := 5, cells := 0, slots := 0, locals := 125 }
abbrev mX2_countReads : MI := (yX2_countReads, cX2_countReads, 4, (some .int))
abbrev rX2_countReads : Room := { frames := 0, cells := 0, slots := 0, locals := 0 }
abbrev mX2_forecastBehind : MI := (yX2_forecastBehind, cX2_forecastBehind, 9, (some .int))
abbrev rX2_forecastBehind : Room := { frames := 2, cells := 0, slots := 0, locals := 46 }
abbrev mX2_hasHour : MI := (yX2_hasHour, cX2_hasHour, 2, (some .boolean))
abbrev rX2_hasHour : Room := { frames := 0, cells := 0, slots := 0, locals := 0 }
abbrev mX2_hasPlace : MI := (yX2_hasPlace, cX2_hasPlace, 4, (some .boolean))
abbrev rX2_hasPlace : Room := { frames := 0, cells := 0, slots := 0, locals := 0 }
abbrev mX2_hasStation : MI := (yX2_hasStation, cX2_hasStation, 2, (some .boolean))
abbrev rX2_hasStation : Room := { frames := 0, cells := 0, slots := 0, locals := 0 }
abbrev mX2_indexAt : MI := (yX2_indexAt, cX2_indexAt, 5, (some .int))
abbrev rX2_indexAt : Room := { frames := 4, cells := 0, slots := 0, locals := 101 }
abbrev mX2_init : MI := (yX2_init, cX2_init, 2, none)
abbrev rX2_init : Room := { frames := 2, cells := 25, slots := 787, locals := 40 }
abbrev mX2_meanAt : MI := (yX2_meanAt, cX2_meanAt, 11, (some .int))
abbrev rX2_meanAt : Room := { frames := 2, cells := 0, slots := 0, locals := 46 }
abbrev mX2_putBand : MI := (yX2_putBand, cX2_putBand, 3, none)
abbrev rX2_putBand : Room := { frames := 0, cells := 0, slots := 0, locals := 0 }
abbrev mX2_putRead : MI := (yX2_putRead, cX2_putRead, 5, none)
abbrev rX2_putRead : Room := { frames := 1, cells := 0, slots := 0, locals := 23 }
abbrev mX2_readAt : MI := (yX2_readAt, cX2_readAt, 4, (some .int))
abbrev rX2_readAt : Room := { frames := 1, cells := 0, slots := 0, locals := 23 }
abbrev mX2_rulingAt : MI := (yX2_rulingAt, cX2_rulingAt, 5, (some .int))
abbrev rX2_rulingAt : Room := { frames := 5, cells := 0, slots := 0, locals := 125 }
abbrev mX2_subAt : MI := (yX2_subAt, cX2_subAt, 6, (some .int))
abbrev rX2_subAt : Room := { frames := 3, cells := 0, slots := 0, locals := 76 }
abbrev mX2_substanceAt : MI := (yX2_substanceAt, cX2_substanceAt, 2, (some (.object "AirIndex$Substance")))
abbrev rX2_substanceAt : Room := { frames := 0, cells := 0, slots := 0, locals := 0 }
abbrev mX2_tellFirst : MI := (yX2_tellFirst, cX2_tellFirst, 2, none)
abbrev rX2_tellFirst : Room := { frames := 1, cells := 0, slots := 0, locals := 23 }
abbrev mX2_worstStationAt : MI := (yX2_worstStationAt, cX2_worstStationAt, 7, (some .int))
abbrev rX2_worstStationAt : Room := { frames := 5, cells := 0, slots := 0, locals := 125 }
abbrev mX3_addPoint : MI := (yX3_addPoint, cX3_addPoint, 3, none)
abbrev rX3_addPoint : Room := { frames := 0, cells := 0, slots := 0, locals := 0 }
abbrev mX3_init : MI := (yX3_init, cX3_init, 1, none)
abbrev rX3_init : Room := { frames := 1, cells := 2, slots := 10, locals := 20 }
abbrev mX3_subAtLevel : MI := (yX3_subAtLevel, cX3_subAtLevel, 6, (some .int))
abbrev rX3_subAtLevel : Room := { frames := 0, cells := 0, slots := 0, locals := 0 }
abbrev mX4_append : MI := (yX4_append, cX4_append, 3, none)
abbrev rX4_append : Room := { frames := 0, cells := 0, slots := 0, locals := 0 }
abbrev mX4_byteAt : MI := (yX4_byteAt, cX4_byteAt, 2, (some .int))
abbrev rX4_byteAt : Room := { frames := 0, cells := 0, slots := 0, locals := 0 }
abbrev mX4_cutTo : MI := (yX4_cutTo, cX4_cutTo, 2, (some .boolean))
abbrev rX4_cutTo : Room := { frames := 0, cells := 0, slots := 0, locals := 0 }
abbrev mX4_hasRoom : MI := (yX4_hasRoom, cX4_hasRoom, 2, (some .boolean))
abbrev rX4_hasRoom : Room := { frames := 0, cells := 0, slots := 0, locals := 0 }
abbrev mX4_init : MI := (yX4_init, cX4_init, 1, none)
abbrev rX4_init : Room := { frames := 1, cells := 1, slots := 640, locals := 20 }
abbrev mX5_begin : MI := (yX5_begin, cX5_begin, 1, none)
abbrev rX5_begin : Room := { frames := 3, cells := 0, slots := 0, locals := 64 }
abbrev mX5_init : MI := (yX5_init, cX5_init, 2, none)
abbrev rX5_init : Room := { frames := 2, cells := 1, slots := 5, locals := 41 }
abbrev mX5_isNumberWithin : MI := (yX5_isNumberWithin, cX5_isNumberWithin, 3, (some .boolean))
abbrev rX5_isNumberWithin : Room := { frames := 1, cells := 0, slots := 0, locals := 21 }
abbrev mX5_isRead : MI := (yX5_isRead, cX5_isRead, 1, (some .boolean))
abbrev rX5_isRead : Room := { frames := 6, cells := 0, slots := 0, locals := 128 }
abbrev mX5_readsAllSeries : MI := (yX5_readsAllSeries, cX5_readsAllSeries, 3, (some .boolean))
abbrev rX5_readsAllSeries : Room := { frames := 9, cells := 0, slots := 0, locals := 196 }
abbrev mX5_readsBands : MI := (yX5_readsBands, cX5_readsBands, 4, (some .boolean))
abbrev rX5_readsBands : Room := { frames := 7, cells := 0, slots := 0, locals := 149 }
abbrev mX5_readsPoints : MI := (yX5_readsPoints, cX5_readsPoints, 6, (some .boolean))
abbrev rX5_readsPoints : Room := { frames := 3, cells := 0, slots := 0, locals := 66 }
abbrev mX5_readsReads : MI := (yX5_readsReads, cX5_readsReads, 5, (some .boolean))
abbrev rX5_readsReads : Room := { frames := 7, cells := 0, slots := 0, locals := 148 }
abbrev mX5_readsSeries : MI := (yX5_readsSeries, cX5_readsSeries, 5, (some .boolean))
abbrev rX5_readsSeries : Room := { frames := 8, cells := 0, slots := 0, locals := 172 }
abbrev mX5_readsShare : MI := (yX5_readsShare, cX5_readsShare, 2, (some .boolean))
abbrev rX5_readsShare : Room := { frames := 7, cells := 0, slots := 0, locals := 149 }
abbrev mX5_readsStations : MI := (yX5_readsStations, cX5_readsStations, 3, (some .boolean))
abbrev rX5_readsStations : Room := { frames := 7, cells := 0, slots := 0, locals := 149 }
abbrev mX5_readsSubstance : MI := (yX5_readsSubstance, cX5_readsSubstance, 4, (some .boolean))
abbrev rX5_readsSubstance : Room := { frames := 7, cells := 0, slots := 0, locals := 149 }
abbrev mX5_readsSubstances : MI := (yX5_readsSubstances, cX5_readsSubstances, 3, (some .boolean))
abbrev rX5_readsSubstances : Room := { frames := 8, cells := 0, slots := 0, locals := 172 }
abbrev mX5_refuses : MI := (yX5_refuses, cX5_refuses, 2, (some .boolean))
abbrev rX5_refuses : Room := { frames := 0, cells := 0, slots := 0, locals := 0 }
abbrev mX5_takesNumber : MI := (yX5_takesNumber, cX5_takesNumber, 3, (some .boolean))
abbrev rX5_takesNumber : Room := { frames := 2, cells := 0, slots := 0, locals := 44 }
abbrev mX5_takesSemicolon : MI := (yX5_takesSemicolon, cX5_takesSemicolon, 1, (some .boolean))
abbrev rX5_takesSemicolon : Room := { frames := 2, cells := 0, slots := 0, locals := 44 }
abbrev mX5_takesWord : MI := (yX5_takesWord, cX5_takesWord, 2, (some .boolean))
abbrev rX5_takesWord : Room := { frames := 6, cells := 0, slots := 0, locals := 128 }
abbrev mX6_init : MI := (yX6_init, cX6_init, 2, none)
abbrev rX6_init : Room := { frames := 1, cells := 0, slots := 0, locals := 20 }
abbrev mX6_isWord : MI := (yX6_isWord, cX6_isWord, 3, (some .boolean))
abbrev rX6_isWord : Room := { frames := 5, cells := 0, slots := 0, locals := 106 }
abbrev mX6_moveToFirst : MI := (yX6_moveToFirst, cX6_moveToFirst, 1, none)
abbrev rX6_moveToFirst : Room := { frames := 2, cells := 0, slots := 0, locals := 44 }
abbrev mX6_moveToNext : MI := (yX6_moveToNext, cX6_moveToNext, 2, none)
abbrev rX6_moveToNext : Room := { frames := 1, cells := 0, slots := 0, locals := 23 }
abbrev mX6_scanRun : MI := (yX6_scanRun, cX6_scanRun, 4, none)
abbrev rX6_scanRun : Room := { frames := 0, cells := 0, slots := 0, locals := 0 }
abbrev mX6_skipBlanks : MI := (yX6_skipBlanks, cX6_skipBlanks, 2, none)
abbrev rX6_skipBlanks : Room := { frames := 0, cells := 0, slots := 0, locals := 0 }
abbrev mX7_back : MI := (yX7_back, cX7_back, 7, (some .int))
abbrev rX7_back : Room := { frames := 1, cells := 0, slots := 0, locals := 25 }
abbrev mX7_canCorrect : MI := (yX7_canCorrect, cX7_canCorrect, 5, (some .boolean))
abbrev rX7_canCorrect : Room := { frames := 1, cells := 0, slots := 0, locals := 23 }
abbrev mX7_correct : MI := (yX7_correct, cX7_correct, 7, (some .int))
abbrev rX7_correct : Room := { frames := 6, cells := 0, slots := 0, locals := 154 }
abbrev mX7_district : MI := (yX7_district, cX7_district, 5, (some .int))
abbrev rX7_district : Room := { frames := 6, cells := 0, slots := 0, locals := 151 }
abbrev mX7_end : MI := (yX7_end, cX7_end, 2, (some .boolean))
abbrev rX7_end : Room := { frames := 1, cells := 0, slots := 0, locals := 21 }
abbrev mX7_fault : MI := (yX7_fault, cX7_fault, 1, (some .int))
abbrev rX7_fault : Room := { frames := 0, cells := 0, slots := 0, locals := 0 }
abbrev mX7_feed : MI := (yX7_feed, cX7_feed, 6, (some .int))
abbrev rX7_feed : Room := { frames := 1, cells := 0, slots := 0, locals := 22 }
abbrev mX7_forecast : MI := (yX7_forecast, cX7_forecast, 4, (some .int))
abbrev rX7_forecast : Room := { frames := 3, cells := 0, slots := 0, locals := 74 }
abbrev mX7_index : MI := (yX7_index, cX7_index, 4, (some .int))
abbrev rX7_index : Room := { frames := 6, cells := 0, slots := 0, locals := 149 }
abbrev mX7_init : MI := (yX7_init, cX7_init, 1, none)
abbrev rX7_init : Room := { frames := 3, cells := 68, slots := 2315, locals := 62 }
abbrev mX7_keeps : MI := (yX7_keeps, cX7_keeps, 11, (some .int))
abbrev rX7_keeps : Room := { frames := 5, cells := 0, slots := 0, locals := 125 }
abbrev mX7_lasts : MI := (yX7_lasts, cX7_lasts, 6, (some .int))
abbrev rX7_lasts : Room := { frames := 5, cells := 0, slots := 0, locals := 125 }
abbrev mX7_mean : MI := (yX7_mean, cX7_mean, 4, (some .int))
abbrev rX7_mean : Room := { frames := 3, cells := 0, slots := 0, locals := 76 }
abbrev mX7_now : MI := (yX7_now, cX7_now, 2, (some .int))
abbrev rX7_now : Room := { frames := 1, cells := 0, slots := 0, locals := 23 }
abbrev mX7_pass : MI := (yX7_pass, cX7_pass, 3, (some .int))
abbrev rX7_pass : Room := { frames := 2, cells := 0, slots := 0, locals := 44 }
abbrev mX7_read : MI := (yX7_read, cX7_read, 4, (some .int))
abbrev rX7_read : Room := { frames := 2, cells := 0, slots := 0, locals := 46 }
abbrev mX7_scale : MI := (yX7_scale, cX7_scale, 4, (some .int))
abbrev rX7_scale : Room := { frames := 1, cells := 0, slots := 0, locals := 25 }
abbrev mX7_smooth : MI := (yX7_smooth, cX7_smooth, 3, (some .int))
abbrev rX7_smooth : Room := { frames := 2, cells := 0, slots := 0, locals := 44 }
abbrev mX7_sub : MI := (yX7_sub, cX7_sub, 4, (some .int))
abbrev rX7_sub : Room := { frames := 4, cells := 0, slots := 0, locals := 101 }
abbrev mX7_takeBack : MI := (yX7_takeBack, cX7_takeBack, 3, none)
abbrev rX7_takeBack : Room := { frames := 2, cells := 0, slots := 0, locals := 47 }
abbrev mX7_text : MI := (yX7_text, cX7_text, 3, (some .int))
abbrev rX7_text : Room := { frames := 10, cells := 0, slots := 0, locals := 218 }
abbrev mX7_touchedHours : MI := (yX7_touchedHours, cX7_touchedHours, 10, (some .int))
abbrev rX7_touchedHours : Room := { frames := 5, cells := 0, slots := 0, locals := 125 }
abbrev mX7_touches : MI := (yX7_touches, cX7_touches, 5, (some .int))
abbrev rX7_touches : Room := { frames := 6, cells := 0, slots := 0, locals := 154 }
abbrev mX7_undo : MI := (yX7_undo, cX7_undo, 2, (some .int))
abbrev rX7_undo : Room := { frames := 3, cells := 0, slots := 0, locals := 69 }
abbrev mX7_window : MI := (yX7_window, cX7_window, 6, (some .boolean))
abbrev rX7_window : Room := { frames := 2, cells := 0, slots := 0, locals := 44 }
abbrev mX7_worst : MI := (yX7_worst, cX7_worst, 8, (some .int))
abbrev rX7_worst : Room := { frames := 5, cells := 0, slots := 0, locals := 125 }
abbrev mX8_are : MI := (yX8_are, cX8_are, 4, (some .boolean))
abbrev rX8_are : Room := { frames := 2, cells := 0, slots := 0, locals := 43 }
abbrev mX8_at : MI := (yX8_at, cX8_at, 3, (some .int))
abbrev rX8_at : Room := { frames := 0, cells := 0, slots := 0, locals := 0 }
abbrev mX8_back : MI := (yX8_back, cX8_back, 4, (some .int))
abbrev rX8_back : Room := { frames := 2, cells := 0, slots := 0, locals := 50 }
abbrev mX8_bad : MI := (yX8_bad, cX8_bad, 2, (some .boolean))
abbrev rX8_bad : Room := { frames := 0, cells := 0, slots := 0, locals := 0 }
abbrev mX8_bandOf : MI := (yX8_bandOf, cX8_bandOf, 4, (some .int))
abbrev rX8_bandOf : Room := { frames := 0, cells := 0, slots := 0, locals := 0 }
abbrev mX8_canCorrect : MI := (yX8_canCorrect, cX8_canCorrect, 5, (some .boolean))
abbrev rX8_canCorrect : Room := { frames := 3, cells := 0, slots := 0, locals := 66 }
abbrev mX8_correct : MI := (yX8_correct, cX8_correct, 8, (some .int))
abbrev rX8_correct : Room := { frames := 7, cells := 0, slots := 0, locals := 171 }
abbrev mX8_corrects : MI := (yX8_corrects, cX8_corrects, 7, (some .int))
abbrev rX8_corrects : Room := { frames := 6, cells := 0, slots := 0, locals := 145 }
abbrev mX8_district : MI := (yX8_district, cX8_district, 7, (some .int))
abbrev rX8_district : Room := { frames := 6, cells := 0, slots := 0, locals := 145 }
abbrev mX8_end : MI := (yX8_end, cX8_end, 2, (some .boolean))
abbrev rX8_end : Room := { frames := 0, cells := 0, slots := 0, locals := 0 }
abbrev mX8_fault : MI := (yX8_fault, cX8_fault, 1, (some .int))
abbrev rX8_fault : Room := { frames := 0, cells := 0, slots := 0, locals := 0 }
abbrev mX8_feed : MI := (yX8_feed, cX8_feed, 6, (some .int))
abbrev rX8_feed : Room := { frames := 1, cells := 0, slots := 0, locals := 22 }
abbrev mX8_forecast : MI := (yX8_forecast, cX8_forecast, 9, (some .int))
abbrev rX8_forecast : Room := { frames := 3, cells := 0, slots := 0, locals := 66 }
abbrev mX8_four : MI := (yX8_four, cX8_four, 4, (some .long))
abbrev rX8_four : Room := { frames := 1, cells := 0, slots := 0, locals := 21 }
abbrev mX8_go : MI := (yX8_go, cX8_go, 5, none)
abbrev rX8_go : Room := { frames := 1, cells := 0, slots := 0, locals := 21 }
abbrev mX8_index : MI := (yX8_index, cX8_index, 4, (some .int))
abbrev rX8_index : Room := { frames := 6, cells := 0, slots := 0, locals := 145 }
abbrev mX8_indexOf : MI := (yX8_indexOf, cX8_indexOf, 4, (some .int))
abbrev rX8_indexOf : Room := { frames := 5, cells := 0, slots := 0, locals := 122 }
abbrev mX8_init : MI := (yX8_init, cX8_init, 2, none)
abbrev rX8_init : Room := { frames := 1, cells := 5, slots := 9940, locals := 20 }
abbrev mX8_isDigit : MI := (yX8_isDigit, cX8_isDigit, 1, (some .boolean))
abbrev rX8_isDigit : Room := { frames := 0, cells := 0, slots := 0, locals := 0 }
abbrev mX8_isHour : MI := (yX8_isHour, cX8_isHour, 2, (some .boolean))
abbrev rX8_isHour : Room := { frames := 1, cells := 0, slots := 0, locals := 22 }
abbrev mX8_isIn : MI := (yX8_isIn, cX8_isIn, 3, (some .boolean))
abbrev rX8_isIn : Room := { frames := 0, cells := 0, slots := 0, locals := 0 }
abbrev mX8_isLetter : MI := (yX8_isLetter, cX8_isLetter, 1, (some .boolean))
abbrev rX8_isLetter : Room := { frames := 0, cells := 0, slots := 0, locals := 0 }
abbrev mX8_isStation : MI := (yX8_isStation, cX8_isStation, 2, (some .boolean))
abbrev rX8_isStation : Room := { frames := 1, cells := 0, slots := 0, locals := 22 }
abbrev mX8_isStationWord : MI := (yX8_isStationWord, cX8_isStationWord, 1, (some .boolean))
abbrev rX8_isStationWord : Room := { frames := 3, cells := 0, slots := 0, locals := 69 }
abbrev mX8_isSubstance : MI := (yX8_isSubstance, cX8_isSubstance, 1, (some .boolean))
abbrev rX8_isSubstance : Room := { frames := 3, cells := 0, slots := 0, locals := 69 }
abbrev mX8_isSubstance_ : MI := (yX8_isSubstance_, cX8_isSubstance_, 2, (some .boolean))
abbrev rX8_isSubstance_ : Room := { frames := 1, cells := 0, slots := 0, locals := 22 }
abbrev mX8_isWord : MI := (yX8_isWord, cX8_isWord, 3, (some .boolean))
abbrev rX8_isWord : Room := { frames := 0, cells := 0, slots := 0, locals := 0 }
abbrev mX8_its : MI := (yX8_its, cX8_its, 3, (some .int))
abbrev rX8_its : Room := { frames := 0, cells := 0, slots := 0, locals := 0 }
abbrev mX8_keeps : MI := (yX8_keeps, cX8_keeps, 10, (some .int))
abbrev rX8_keeps : Room := { frames := 6, cells := 0, slots := 0, locals := 145 }
abbrev mX8_lasts : MI := (yX8_lasts, cX8_lasts, 5, (some .int))
abbrev rX8_lasts : Room := { frames := 6, cells := 0, slots := 0, locals := 145 }
abbrev mX8_lays : MI := (yX8_lays, cX8_lays, 3, none)
abbrev rX8_lays : Room := { frames := 0, cells := 0, slots := 0, locals := 0 }
abbrev mX8_mean : MI := (yX8_mean, cX8_mean, 4, (some .int))
abbrev rX8_mean : Room := { frames := 3, cells := 0, slots := 0, locals := 74 }
abbrev mX8_meanOf : MI := (yX8_meanOf, cX8_meanOf, 10, (some .int))
abbrev rX8_meanOf : Room := { frames := 2, cells := 0, slots := 0, locals := 45 }
abbrev mX8_now : MI := (yX8_now, cX8_now, 2, (some .int))
abbrev rX8_now : Room := { frames := 1, cells := 0, slots := 0, locals := 22 }
abbrev mX8_pass : MI := (yX8_pass, cX8_pass, 2, (some .int))
abbrev rX8_pass : Room := { frames := 1, cells := 0, slots := 0, locals := 22 }
abbrev mX8_read : MI := (yX8_read, cX8_read, 4, (some .int))
abbrev rX8_read : Room := { frames := 3, cells := 0, slots := 0, locals := 66 }
abbrev mX8_readBands : MI := (yX8_readBands, cX8_readBands, 1, (some .boolean))
abbrev rX8_readBands : Room := { frames := 3, cells := 0, slots := 0, locals := 69 }
abbrev mX8_readEnd : MI := (yX8_readEnd, cX8_readEnd, 1, (some .boolean))
abbrev rX8_readEnd : Room := { frames := 2, cells := 0, slots := 0, locals := 45 }
abbrev mX8_readMany : MI := (yX8_readMany, cX8_readMany, 3, (some .int))
abbrev rX8_readMany : Room := { frames := 0, cells := 0, slots := 0, locals := 0 }
abbrev mX8_readOf : MI := (yX8_readOf, cX8_readOf, 4, (some .int))
abbrev rX8_readOf : Room := { frames := 1, cells := 0, slots := 0, locals := 22 }
abbrev mX8_readPoint : MI := (yX8_readPoint, cX8_readPoint, 4, (some .boolean))
abbrev rX8_readPoint : Room := { frames := 3, cells := 0, slots := 0, locals := 68 }
abbrev mX8_readSeries : MI := (yX8_readSeries, cX8_readSeries, 6, (some .boolean))
abbrev rX8_readSeries : Room := { frames := 2, cells := 0, slots := 0, locals := 45 }
abbrev mX8_readStation : MI := (yX8_readStation, cX8_readStation, 1, (some .boolean))
abbrev rX8_readStation : Room := { frames := 4, cells := 0, slots := 0, locals := 89 }
abbrev mX8_readSubstance : MI := (yX8_readSubstance, cX8_readSubstance, 2, (some .boolean))
abbrev rX8_readSubstance : Room := { frames := 4, cells := 0, slots := 0, locals := 91 }
abbrev mX8_readWhole : MI := (yX8_readWhole, cX8_readWhole, 1, (some .boolean))
abbrev rX8_readWhole : Room := { frames := 5, cells := 0, slots := 0, locals := 112 }
abbrev mX8_rulingOf : MI := (yX8_rulingOf, cX8_rulingOf, 5, (some .int))
abbrev rX8_rulingOf : Room := { frames := 4, cells := 0, slots := 0, locals := 98 }
abbrev mX8_scale : MI := (yX8_scale, cX8_scale, 3, (some .int))
abbrev rX8_scale : Room := { frames := 2, cells := 0, slots := 0, locals := 50 }
abbrev mX8_scaleOf : MI := (yX8_scaleOf, cX8_scaleOf, 9, (some .int))
abbrev rX8_scaleOf : Room := { frames := 1, cells := 0, slots := 0, locals := 22 }
abbrev mX8_six : MI := (yX8_six, cX8_six, 6, (some .long))
abbrev rX8_six : Room := { frames := 2, cells := 0, slots := 0, locals := 44 }
abbrev mX8_smooth : MI := (yX8_smooth, cX8_smooth, 3, (some .int))
abbrev rX8_smooth : Room := { frames := 1, cells := 0, slots := 0, locals := 22 }
abbrev mX8_snap : MI := (yX8_snap, cX8_snap, 2, none)
abbrev rX8_snap : Room := { frames := 0, cells := 0, slots := 0, locals := 0 }
abbrev mX8_sub : MI := (yX8_sub, cX8_sub, 4, (some .int))
abbrev rX8_sub : Room := { frames := 4, cells := 0, slots := 0, locals := 98 }
abbrev mX8_subOf : MI := (yX8_subOf, cX8_subOf, 5, (some .int))
abbrev rX8_subOf : Room := { frames := 3, cells := 0, slots := 0, locals := 74 }
abbrev mX8_tapeAt : MI := (yX8_tapeAt, cX8_tapeAt, 2, (some .int))
abbrev rX8_tapeAt : Room := { frames := 0, cells := 0, slots := 0, locals := 0 }
abbrev mX8_text : MI := (yX8_text, cX8_text, 2, (some .int))
abbrev rX8_text : Room := { frames := 6, cells := 0, slots := 0, locals := 132 }
abbrev mX8_told : MI := (yX8_told, cX8_told, 4, (some .boolean))
abbrev rX8_told : Room := { frames := 2, cells := 0, slots := 0, locals := 45 }
abbrev mX8_touches : MI := (yX8_touches, cX8_touches, 7, (some .int))
abbrev rX8_touches : Room := { frames := 7, cells := 0, slots := 0, locals := 171 }
abbrev mX8_two : MI := (yX8_two, cX8_two, 2, (some .long))
abbrev rX8_two : Room := { frames := 0, cells := 0, slots := 0, locals := 0 }
abbrev mX8_undo : MI := (yX8_undo, cX8_undo, 2, (some .int))
abbrev rX8_undo : Room := { frames := 0, cells := 0, slots := 0, locals := 0 }
abbrev mX8_window : MI := (yX8_window, cX8_window, 4, (some .boolean))
abbrev rX8_window : Room := { frames := 2, cells := 0, slots := 0, locals := 43 }
abbrev mX8_worst : MI := (yX8_worst, cX8_worst, 6, (some .int))
abbrev rX8_worst : Room := { frames := 6, cells := 0, slots := 0, locals := 145 }
theorem pl {w : Cond} (i : Nat) (h : lw_tbl[i]? = some w) : w ∈ lw_tbl := List.mem_of_getElem? h
set_option maxRecDepth 100000 in
theorem inX0 : ∀ w ∈ u_ws RX0 TX0 6, w ∈ lw_tbl.filter goodWord := in_lw _ [161, 163, 165, 167, 169, 171] (by decide +kernel) (by decide +kernel)
set_option maxRecDepth 100000 in
theorem inX1 : ∀ w ∈ u_ws RX1 TX1 2, w ∈ lw_tbl.filter goodWord := in_lw _ [177, 179] (by decide +kernel) (by decide +kernel)
set_option maxRecDepth 100000 in
theorem inX2 : ∀ w ∈ u_ws RX2 TX2 8, w ∈ lw_tbl.filter goodWord := in_lw _ [233, 235, 237, 239, 241, 243, 245, 247] (by decide +kernel) (by decide +kernel)
set_option maxRecDepth 100000 in
theorem inX3 : ∀ w ∈ u_ws RX3 TX3 5, w ∈ lw_tbl.filter goodWord := in_lw _ [205, 207, 209, 211, 213] (by decide +kernel) (by decide +kernel)
set_option maxRecDepth 100000 in
theorem inX4 : ∀ w ∈ u_ws RX4 TX4 2, w ∈ lw_tbl.filter goodWord := in_lw _ [82, 84] (by decide +kernel) (by decide +kernel)
set_option maxRecDepth 100000 in
theorem inX5 : ∀ w ∈ u_ws RX5 TX5 6, w ∈ lw_tbl.filter goodWord := in_lw _ [128, 130, 132, 134, 136, 138] (by decide +kernel) (by decide +kernel)
set_option maxRecDepth 100000 in
theorem inX6 : ∀ w ∈ u_ws RX6 TX6 5, w ∈ lw_tbl.filter goodWord := in_lw _ [108, 110, 112, 114, 116] (by decide +kernel) (by decide +kernel)
set_option maxRecDepth 100000 in
theorem inX7 : ∀ w ∈ u_ws RX7 TX7 5, w ∈ lw_tbl.filter goodWord := in_lw _ [275, 277, 279, 281, 283] (by decide +kernel) (by decide +kernel)
set_option maxRecDepth 100000 in
theorem inX8 : ∀ w ∈ u_ws RX8 TX8 18, w ∈ lw_tbl.filter goodWord := in_lw _ [690, 692, 694, 696, 698, 700, 702, 704, 706, 708, 710, 712, 714, 716, 718, 720, 722, 724] (by decide +kernel) (by decide +kernel)
set_option maxRecDepth 100000 in
theorem mfJ0_charAt_5068e : MfV mJ0_charAt_5068e 1 := ⟨pl 362 (by decide +kernel), pl 363 (by decide +kernel), pl 58 (by decide +kernel), pl 364 (by decide +kernel), by decide +kernel⟩
set_option maxRecDepth 100000 in
theorem mfJ0_checkIndex_df160 : MfS mJ0_checkIndex_df160 2 := ⟨pl 373 (by decide +kernel), pl 58 (by decide +kernel), pl 374 (by decide +kernel), by decide +kernel⟩
set_option maxRecDepth 100000 in
theorem mfJ0_coder_7d493 : MfV mJ0_coder_7d493 0 := ⟨pl 356 (by decide +kernel), pl 357 (by decide +kernel), pl 58 (by decide +kernel), pl 358 (by decide +kernel), by decide +kernel⟩
set_option maxRecDepth 100000 in
theorem mfJ0_isLatin1_aae02 : MfV mJ0_isLatin1_aae02 0 := ⟨pl 366 (by decide +kernel), pl 367 (by decide +kernel), pl 58 (by decide +kernel), pl 368 (by decide +kernel), by decide +kernel⟩
set_option maxRecDepth 100000 in
theorem mfJ0_length_8abf5 : MfV mJ0_length_8abf5 0 := ⟨pl 352 (by decide +kernel), pl 353 (by decide +kernel), pl 58 (by decide +kernel), pl 354 (by decide +kernel), by decide +kernel⟩
set_option maxRecDepth 100000 in
theorem mfJ1_charAt_3b067 : MfS mJ1_charAt_3b067 2 := ⟨pl 370 (by decide +kernel), pl 59 (by decide +kernel), pl 371 (by decide +kernel), by decide +kernel⟩
set_option maxRecDepth 100000 in
theorem mfJ2_charAt_3b067 : MfS mJ2_charAt_3b067 2 := ⟨pl 381 (by decide +kernel), pl 61 (by decide +kernel), pl 382 (by decide +kernel), by decide +kernel⟩
set_option maxRecDepth 100000 in
theorem mfJ2_checkIndex_2214a : MfS mJ2_checkIndex_2214a 2 := ⟨pl 384 (by decide +kernel), pl 61 (by decide +kernel), pl 385 (by decide +kernel), by decide +kernel⟩
set_option maxRecDepth 100000 in
theorem mfJ2_getChar_3b067 : MfS mJ2_getChar_3b067 2 := ⟨pl 391 (by decide +kernel), pl 61 (by decide +kernel), pl 392 (by decide +kernel), by decide +kernel⟩
set_option maxRecDepth 100000 in
theorem mfJ2_length_9d52b : MfS mJ2_length_9d52b 1 := ⟨pl 387 (by decide +kernel), pl 61 (by decide +kernel), pl 388 (by decide +kernel), by decide +kernel⟩
set_option maxRecDepth 100000 in
theorem mfJ3_checkIndex_8e157 : MfS mJ3_checkIndex_8e157 3 := ⟨pl 378 (by decide +kernel), pl 60 (by decide +kernel), pl 379 (by decide +kernel), by decide +kernel⟩
set_option maxRecDepth 100000 in
theorem mfJ6_bitCount_0f7a4 : MfS mJ6_bitCount_0f7a4 1 := ⟨pl 626 (by decide +kernel), pl 62 (by decide +kernel), pl 627 (by decide +kernel), by decide +kernel⟩
set_option maxRecDepth 100000 in
theorem mfJ9_max_7cf53 : MfS mJ9_max_7cf53 2 := ⟨pl 465 (by decide +kernel), pl 57 (by decide +kernel), pl 466 (by decide +kernel), by decide +kernel⟩
set_option maxRecDepth 100000 in
theorem mfJ9_min_7cf53 : MfS mJ9_min_7cf53 2 := ⟨pl 328 (by decide +kernel), pl 57 (by decide +kernel), pl 329 (by decide +kernel), by decide +kernel⟩
set_option maxRecDepth 100000 in
theorem mfX0_init : MfI mX0_init 0 := ⟨rfl, rfl, pl 151 (by decide +kernel), pl 53 (by decide +kernel), pl 152 (by decide +kernel), by decide +kernel⟩
set_option maxRecDepth 100000 in
theorem mfX1_forgetAll : MfV mX1_forgetAll 0 := ⟨pl 476 (by decide +kernel), pl 477 (by decide +kernel), pl 52 (by decide +kernel), pl 478 (by decide +kernel), by decide +kernel⟩
set_option maxRecDepth 100000 in
theorem mfX1_forgetOldest : MfV mX1_forgetOldest 0 := ⟨pl 623 (by decide +kernel), pl 14 (by decide +kernel), pl 52 (by decide +kernel), pl 624 (by decide +kernel), by decide +kernel⟩
set_option maxRecDepth 100000 in
theorem mfX1_init : MfI mX1_init 0 := ⟨rfl, rfl, pl 144 (by decide +kernel), pl 52 (by decide +kernel), pl 145 (by decide +kernel), by decide +kernel⟩
set_option maxRecDepth 100000 in
theorem mfX1_next : MfV mX1_next 1 := ⟨pl 618 (by decide +kernel), pl 619 (by decide +kernel), pl 52 (by decide +kernel), pl 620 (by decide +kernel), by decide +kernel⟩
set_option maxRecDepth 100000 in
theorem mfX1_takeLatest : MfV mX1_takeLatest 0 := ⟨pl 648 (by decide +kernel), pl 649 (by decide +kernel), pl 52 (by decide +kernel), pl 650 (by decide +kernel), by decide +kernel⟩
set_option maxRecDepth 100000 in
theorem mfX2_addStation : MfV mX2_addStation 1 := ⟨pl 267 (by decide +kernel), pl 268 (by decide +kernel), pl 54 (by decide +kernel), pl 269 (by decide +kernel), by decide +kernel⟩
set_option maxRecDepth 100000 in
theorem mfX2_addSubstance : MfV mX2_addSubstance 2 := ⟨pl 259 (by decide +kernel), pl 260 (by decide +kernel), pl 54 (by decide +kernel), pl 261 (by decide +kernel), by decide +kernel⟩
set_option maxRecDepth 100000 in
theorem mfX2_bandOf : MfV mX2_bandOf 1 := ⟨pl 551 (by decide +kernel), pl 552 (by decide +kernel), pl 54 (by decide +kernel), pl 553 (by decide +kernel), by decide +kernel⟩
set_option maxRecDepth 100000 in
theorem mfX2_bandStart : MfV mX2_bandStart 1 := ⟨pl 597 (by decide +kernel), pl 598 (by decide +kernel), pl 54 (by decide +kernel), pl 599 (by decide +kernel), by decide +kernel⟩
set_option maxRecDepth 100000 in
theorem mfX2_clear : MfV mX2_clear 0 := ⟨pl 255 (by decide +kernel), pl 256 (by decide +kernel), pl 54 (by decide +kernel), pl 257 (by decide +kernel), by decide +kernel⟩
set_option maxRecDepth 100000 in
theorem mfX2_countIndexed : MfV mX2_countIndexed 2 := ⟨pl 567 (by decide +kernel), pl 568 (by decide +kernel), pl 54 (by decide +kernel), pl 569 (by decide +kernel), by decide +kernel⟩
set_option maxRecDepth 100000 in
theorem mfX2_countReads : MfV mX2_countReads 0 := ⟨pl 488 (by decide +kernel), pl 489 (by decide +kernel), pl 54 (by decide +kernel), pl 490 (by decide +kernel), by decide +kernel⟩
set_option maxRecDepth 100000 in
theorem mfX2_forecastBehind : MfV mX2_forecastBehind 3 := ⟨pl 587 (by decide +kernel), pl 588 (by decide +kernel), pl 54 (by decide +kernel), pl 589 (by decide +kernel), by decide +kernel⟩
set_option maxRecDepth 100000 in
theorem mfX2_hasHour : MfV mX2_hasHour 1 := ⟨pl 559 (by decide +kernel), pl 560 (by decide +kernel), pl 54 (by decide +kernel), pl 561 (by decide +kernel), by decide +kernel⟩
set_option maxRecDepth 100000 in
theorem mfX2_hasPlace : MfV mX2_hasPlace 3 := ⟨pl 472 (by decide +kernel), pl 473 (by decide +kernel), pl 54 (by decide +kernel), pl 474 (by decide +kernel), by decide +kernel⟩
set_option maxRecDepth 100000 in
theorem mfX2_hasStation : MfV mX2_hasStation 1 := ⟨pl 575 (by decide +kernel), pl 576 (by decide +kernel), pl 54 (by decide +kernel), pl 577 (by decide +kernel), by decide +kernel⟩
set_option maxRecDepth 100000 in
theorem mfX2_indexAt : MfV mX2_indexAt 2 := ⟨pl 541 (by decide +kernel), pl 542 (by decide +kernel), pl 54 (by decide +kernel), pl 543 (by decide +kernel), by decide +kernel⟩
set_option maxRecDepth 100000 in
theorem mfX2_init : MfI mX2_init 0 := ⟨rfl, rfl, pl 185 (by decide +kernel), pl 54 (by decide +kernel), pl 186 (by decide +kernel), by decide +kernel⟩
set_option maxRecDepth 100000 in
theorem mfX2_meanAt : MfV mX2_meanAt 3 := ⟨pl 504 (by decide +kernel), pl 505 (by decide +kernel), pl 54 (by decide +kernel), pl 506 (by decide +kernel), by decide +kernel⟩
set_option maxRecDepth 100000 in
theorem mfX2_putBand : MfV mX2_putBand 2 := ⟨pl 413 (by decide +kernel), pl 414 (by decide +kernel), pl 54 (by decide +kernel), pl 415 (by decide +kernel), by decide +kernel⟩
set_option maxRecDepth 100000 in
theorem mfX2_putRead : MfV mX2_putRead 4 := ⟨pl 468 (by decide +kernel), pl 469 (by decide +kernel), pl 54 (by decide +kernel), pl 470 (by decide +kernel), by decide +kernel⟩
set_option maxRecDepth 100000 in
theorem mfX2_readAt : MfV mX2_readAt 3 := ⟨pl 496 (by decide +kernel), pl 497 (by decide +kernel), pl 54 (by decide +kernel), pl 498 (by decide +kernel), by decide +kernel⟩
set_option maxRecDepth 100000 in
theorem mfX2_rulingAt : MfV mX2_rulingAt 2 := ⟨pl 546 (by decide +kernel), pl 547 (by decide +kernel), pl 54 (by decide +kernel), pl 548 (by decide +kernel), by decide +kernel⟩
set_option maxRecDepth 100000 in
theorem mfX2_subAt : MfV mX2_subAt 3 := ⟨pl 531 (by decide +kernel), pl 532 (by decide +kernel), pl 54 (by decide +kernel), pl 533 (by decide +kernel), by decide +kernel⟩
set_option maxRecDepth 100000 in
theorem mfX2_substanceAt : MfV mX2_substanceAt 1 := ⟨pl 508 (by decide +kernel), pl 509 (by decide +kernel), pl 54 (by decide +kernel), pl 510 (by decide +kernel), by decide +kernel⟩
set_option maxRecDepth 100000 in
theorem mfX2_tellFirst : MfV mX2_tellFirst 0 := ⟨pl 251 (by decide +kernel), pl 252 (by decide +kernel), pl 54 (by decide +kernel), pl 253 (by decide +kernel), by decide +kernel⟩
set_option maxRecDepth 100000 in
theorem mfX2_worstStationAt : MfV mX2_worstStationAt 2 := ⟨pl 563 (by decide +kernel), pl 564 (by decide +kernel), pl 54 (by decide +kernel), pl 565 (by decide +kernel), by decide +kernel⟩
set_option maxRecDepth 100000 in
theorem mfX3_addPoint : MfV mX3_addPoint 2 := ⟨pl 263 (by decide +kernel), pl 264 (by decide +kernel), pl 55 (by decide +kernel), pl 265 (by decide +kernel), by decide +kernel⟩
set_option maxRecDepth 100000 in
theorem mfX3_init : MfI mX3_init 0 := ⟨rfl, rfl, pl 194 (by decide +kernel), pl 55 (by decide +kernel), pl 195 (by decide +kernel), by decide +kernel⟩
set_option maxRecDepth 100000 in
theorem mfX3_subAtLevel : MfV mX3_subAtLevel 1 := ⟨pl 519 (by decide +kernel), pl 520 (by decide +kernel), pl 55 (by decide +kernel), pl 521 (by decide +kernel), by decide +kernel⟩
set_option maxRecDepth 100000 in
theorem mfX4_append : MfV mX4_append 1 := ⟨pl 295 (by decide +kernel), pl 296 (by decide +kernel), pl 49 (by decide +kernel), pl 297 (by decide +kernel), by decide +kernel⟩
set_option maxRecDepth 100000 in
theorem mfX4_byteAt : MfV mX4_byteAt 1 := ⟨pl 331 (by decide +kernel), pl 332 (by decide +kernel), pl 49 (by decide +kernel), pl 333 (by decide +kernel), by decide +kernel⟩
set_option maxRecDepth 100000 in
theorem mfX4_cutTo : MfV mX4_cutTo 1 := ⟨pl 303 (by decide +kernel), pl 304 (by decide +kernel), pl 49 (by decide +kernel), pl 305 (by decide +kernel), by decide +kernel⟩
set_option maxRecDepth 100000 in
theorem mfX4_hasRoom : MfV mX4_hasRoom 1 := ⟨pl 291 (by decide +kernel), pl 292 (by decide +kernel), pl 49 (by decide +kernel), pl 293 (by decide +kernel), by decide +kernel⟩
set_option maxRecDepth 100000 in
theorem mfX4_init : MfI mX4_init 0 := ⟨rfl, rfl, pl 74 (by decide +kernel), pl 49 (by decide +kernel), pl 75 (by decide +kernel), by decide +kernel⟩
set_option maxRecDepth 100000 in
theorem mfX5_begin : MfV mX5_begin 0 := ⟨pl 312 (by decide +kernel), pl 313 (by decide +kernel), pl 50 (by decide +kernel), pl 314 (by decide +kernel), by decide +kernel⟩
set_option maxRecDepth 100000 in
theorem mfX5_init : MfI mX5_init 1 := ⟨rfl, rfl, pl 91 (by decide +kernel), pl 50 (by decide +kernel), pl 92 (by decide +kernel), by decide +kernel⟩
set_option maxRecDepth 100000 in
theorem mfX5_isNumberWithin : MfV mX5_isNumberWithin 2 := ⟨pl 410 (by decide +kernel), pl 5 (by decide +kernel), pl 50 (by decide +kernel), pl 411 (by decide +kernel), by decide +kernel⟩
set_option maxRecDepth 100000 in
theorem mfX5_isRead : MfV mX5_isRead 0 := ⟨pl 461 (by decide +kernel), pl 11 (by decide +kernel), pl 50 (by decide +kernel), pl 462 (by decide +kernel), by decide +kernel⟩
set_option maxRecDepth 100000 in
theorem mfX5_readsAllSeries : MfV mX5_readsAllSeries 1 := ⟨pl 447 (by decide +kernel), pl 448 (by decide +kernel), pl 50 (by decide +kernel), pl 449 (by decide +kernel), by decide +kernel⟩
set_option maxRecDepth 100000 in
theorem mfX5_readsBands : MfV mX5_readsBands 1 := ⟨pl 339 (by decide +kernel), pl 340 (by decide +kernel), pl 50 (by decide +kernel), pl 341 (by decide +kernel), by decide +kernel⟩
set_option maxRecDepth 100000 in
theorem mfX5_readsPoints : MfV mX5_readsPoints 1 := ⟨pl 437 (by decide +kernel), pl 8 (by decide +kernel), pl 50 (by decide +kernel), pl 438 (by decide +kernel), by decide +kernel⟩
set_option maxRecDepth 100000 in
theorem mfX5_readsReads : MfV mX5_readsReads 3 := ⟨pl 457 (by decide +kernel), pl 10 (by decide +kernel), pl 50 (by decide +kernel), pl 458 (by decide +kernel), by decide +kernel⟩
set_option maxRecDepth 100000 in
theorem mfX5_readsSeries : MfV mX5_readsSeries 1 := ⟨pl 452 (by decide +kernel), pl 9 (by decide +kernel), pl 50 (by decide +kernel), pl 453 (by decide +kernel), by decide +kernel⟩
set_option maxRecDepth 100000 in
theorem mfX5_readsShare : MfV mX5_readsShare 1 := ⟨pl 421 (by decide +kernel), pl 422 (by decide +kernel), pl 50 (by decide +kernel), pl 423 (by decide +kernel), by decide +kernel⟩
set_option maxRecDepth 100000 in
theorem mfX5_readsStations : MfV mX5_readsStations 1 := ⟨pl 441 (by decide +kernel), pl 442 (by decide +kernel), pl 50 (by decide +kernel), pl 443 (by decide +kernel), by decide +kernel⟩
set_option maxRecDepth 100000 in
theorem mfX5_readsSubstance : MfV mX5_readsSubstance 1 := ⟨pl 432 (by decide +kernel), pl 7 (by decide +kernel), pl 50 (by decide +kernel), pl 433 (by decide +kernel), by decide +kernel⟩
set_option maxRecDepth 100000 in
theorem mfX5_readsSubstances : MfV mX5_readsSubstances 1 := ⟨pl 426 (by decide +kernel), pl 427 (by decide +kernel), pl 50 (by decide +kernel), pl 428 (by decide +kernel), by decide +kernel⟩
set_option maxRecDepth 100000 in
theorem mfX5_refuses : MfV mX5_refuses 1 := ⟨pl 401 (by decide +kernel), pl 3 (by decide +kernel), pl 50 (by decide +kernel), pl 402 (by decide +kernel), by decide +kernel⟩
set_option maxRecDepth 100000 in
theorem mfX5_takesNumber : MfV mX5_takesNumber 2 := ⟨pl 406 (by decide +kernel), pl 4 (by decide +kernel), pl 50 (by decide +kernel), pl 407 (by decide +kernel), by decide +kernel⟩
set_option maxRecDepth 100000 in
theorem mfX5_takesSemicolon : MfV mX5_takesSemicolon 0 := ⟨pl 418 (by decide +kernel), pl 6 (by decide +kernel), pl 50 (by decide +kernel), pl 419 (by decide +kernel), by decide +kernel⟩
set_option maxRecDepth 100000 in
theorem mfX5_takesWord : MfV mX5_takesWord 1 := ⟨pl 345 (by decide +kernel), pl 2 (by decide +kernel), pl 50 (by decide +kernel), pl 346 (by decide +kernel), by decide +kernel⟩
set_option maxRecDepth 100000 in
theorem mfX6_init : MfI mX6_init 1 := ⟨rfl, rfl, pl 97 (by decide +kernel), pl 51 (by decide +kernel), pl 98 (by decide +kernel), by decide +kernel⟩
set_option maxRecDepth 100000 in
theorem mfX6_isWord : MfV mX6_isWord 1 := ⟨pl 348 (by decide +kernel), pl 349 (by decide +kernel), pl 51 (by decide +kernel), pl 350 (by decide +kernel), by decide +kernel⟩
set_option maxRecDepth 100000 in
theorem mfX6_moveToFirst : MfV mX6_moveToFirst 0 := ⟨pl 316 (by decide +kernel), pl 317 (by decide +kernel), pl 51 (by decide +kernel), pl 318 (by decide +kernel), by decide +kernel⟩
set_option maxRecDepth 100000 in
theorem mfX6_moveToNext : MfV mX6_moveToNext 0 := ⟨pl 320 (by decide +kernel), pl 321 (by decide +kernel), pl 51 (by decide +kernel), pl 322 (by decide +kernel), by decide +kernel⟩
set_option maxRecDepth 100000 in
theorem mfX6_scanRun : MfV mX6_scanRun 0 := ⟨pl 336 (by decide +kernel), pl 1 (by decide +kernel), pl 51 (by decide +kernel), pl 337 (by decide +kernel), by decide +kernel⟩
set_option maxRecDepth 100000 in
theorem mfX6_skipBlanks : MfV mX6_skipBlanks 0 := ⟨pl 325 (by decide +kernel), pl 0 (by decide +kernel), pl 51 (by decide +kernel), pl 326 (by decide +kernel), by decide +kernel⟩
set_option maxRecDepth 100000 in
theorem mfX7_back : MfV mX7_back 2 := ⟨pl 523 (by decide +kernel), pl 524 (by decide +kernel), pl 48 (by decide +kernel), pl 525 (by decide +kernel), by decide +kernel⟩
set_option maxRecDepth 100000 in
theorem mfX7_canCorrect : MfV mX7_canCorrect 4 := ⟨pl 607 (by decide +kernel), pl 12 (by decide +kernel), pl 48 (by decide +kernel), pl 608 (by decide +kernel), by decide +kernel⟩
set_option maxRecDepth 100000 in
theorem mfX7_correct : MfV mX7_correct 4 := ⟨pl 614 (by decide +kernel), pl 615 (by decide +kernel), pl 48 (by decide +kernel), pl 616 (by decide +kernel), by decide +kernel⟩
set_option maxRecDepth 100000 in
theorem mfX7_district : MfV mX7_district 3 := ⟨pl 555 (by decide +kernel), pl 556 (by decide +kernel), pl 48 (by decide +kernel), pl 557 (by decide +kernel), by decide +kernel⟩
set_option maxRecDepth 100000 in
theorem mfX7_end : MfV mX7_end 1 := ⟨pl 299 (by decide +kernel), pl 300 (by decide +kernel), pl 48 (by decide +kernel), pl 301 (by decide +kernel), by decide +kernel⟩
set_option maxRecDepth 100000 in
theorem mfX7_fault : MfV mX7_fault 0 := ⟨pl 480 (by decide +kernel), pl 481 (by decide +kernel), pl 48 (by decide +kernel), pl 482 (by decide +kernel), by decide +kernel⟩
set_option maxRecDepth 100000 in
theorem mfX7_feed : MfV mX7_feed 5 := ⟨pl 287 (by decide +kernel), pl 288 (by decide +kernel), pl 48 (by decide +kernel), pl 289 (by decide +kernel), by decide +kernel⟩
set_option maxRecDepth 100000 in
theorem mfX7_forecast : MfV mX7_forecast 3 := ⟨pl 583 (by decide +kernel), pl 584 (by decide +kernel), pl 48 (by decide +kernel), pl 585 (by decide +kernel), by decide +kernel⟩
set_option maxRecDepth 100000 in
theorem mfX7_index : MfV mX7_index 3 := ⟨pl 537 (by decide +kernel), pl 538 (by decide +kernel), pl 48 (by decide +kernel), pl 539 (by decide +kernel), by decide +kernel⟩
set_option maxRecDepth 100000 in
theorem mfX7_init : MfI mX7_init 0 := ⟨rfl, rfl, pl 66 (by decide +kernel), pl 48 (by decide +kernel), pl 67 (by decide +kernel), by decide +kernel⟩
set_option maxRecDepth 100000 in
theorem mfX7_keeps : MfV mX7_keeps 3 := ⟨pl 592 (by decide +kernel), pl 593 (by decide +kernel), pl 48 (by decide +kernel), pl 594 (by decide +kernel), by decide +kernel⟩
set_option maxRecDepth 100000 in
theorem mfX7_lasts : MfV mX7_lasts 3 := ⟨pl 571 (by decide +kernel), pl 572 (by decide +kernel), pl 48 (by decide +kernel), pl 573 (by decide +kernel), by decide +kernel⟩
set_option maxRecDepth 100000 in
theorem mfX7_mean : MfV mX7_mean 3 := ⟨pl 500 (by decide +kernel), pl 501 (by decide +kernel), pl 48 (by decide +kernel), pl 502 (by decide +kernel), by decide +kernel⟩
set_option maxRecDepth 100000 in
theorem mfX7_now : MfV mX7_now 1 := ⟨pl 484 (by decide +kernel), pl 485 (by decide +kernel), pl 48 (by decide +kernel), pl 486 (by decide +kernel), by decide +kernel⟩
set_option maxRecDepth 100000 in
theorem mfX7_pass : MfV mX7_pass 1 := ⟨pl 632 (by decide +kernel), pl 633 (by decide +kernel), pl 48 (by decide +kernel), pl 634 (by decide +kernel), by decide +kernel⟩
set_option maxRecDepth 100000 in
theorem mfX7_read : MfV mX7_read 3 := ⟨pl 492 (by decide +kernel), pl 493 (by decide +kernel), pl 48 (by decide +kernel), pl 494 (by decide +kernel), by decide +kernel⟩
set_option maxRecDepth 100000 in
theorem mfX7_scale : MfV mX7_scale 2 := ⟨pl 514 (by decide +kernel), pl 515 (by decide +kernel), pl 48 (by decide +kernel), pl 516 (by decide +kernel), by decide +kernel⟩
set_option maxRecDepth 100000 in
theorem mfX7_smooth : MfV mX7_smooth 1 := ⟨pl 636 (by decide +kernel), pl 637 (by decide +kernel), pl 48 (by decide +kernel), pl 638 (by decide +kernel), by decide +kernel⟩
set_option maxRecDepth 100000 in
theorem mfX7_sub : MfV mX7_sub 3 := ⟨pl 527 (by decide +kernel), pl 528 (by decide +kernel), pl 48 (by decide +kernel), pl 529 (by decide +kernel), by decide +kernel⟩
set_option maxRecDepth 100000 in
theorem mfX7_takeBack : MfV mX7_takeBack 1 := ⟨pl 653 (by decide +kernel), pl 15 (by decide +kernel), pl 48 (by decide +kernel), pl 654 (by decide +kernel), by decide +kernel⟩
set_option maxRecDepth 100000 in
theorem mfX7_text : MfV mX7_text 0 := ⟨pl 307 (by decide +kernel), pl 308 (by decide +kernel), pl 48 (by decide +kernel), pl 309 (by decide +kernel), by decide +kernel⟩
set_option maxRecDepth 100000 in
theorem mfX7_touchedHours : MfV mX7_touchedHours 4 := ⟨pl 611 (by decide +kernel), pl 13 (by decide +kernel), pl 48 (by decide +kernel), pl 612 (by decide +kernel), by decide +kernel⟩
set_option maxRecDepth 100000 in
theorem mfX7_touches : MfV mX7_touches 4 := ⟨pl 602 (by decide +kernel), pl 603 (by decide +kernel), pl 48 (by decide +kernel), pl 604 (by decide +kernel), by decide +kernel⟩
set_option maxRecDepth 100000 in
theorem mfX7_undo : MfV mX7_undo 0 := ⟨pl 644 (by decide +kernel), pl 645 (by decide +kernel), pl 48 (by decide +kernel), pl 646 (by decide +kernel), by decide +kernel⟩
set_option maxRecDepth 100000 in
theorem mfX7_window : MfV mX7_window 3 := ⟨pl 640 (by decide +kernel), pl 641 (by decide +kernel), pl 48 (by decide +kernel), pl 642 (by decide +kernel), by decide +kernel⟩
set_option maxRecDepth 100000 in
theorem mfX7_worst : MfV mX7_worst 3 := ⟨pl 579 (by decide +kernel), pl 580 (by decide +kernel), pl 48 (by decide +kernel), pl 581 (by decide +kernel), by decide +kernel⟩
set_option maxRecDepth 100000 in
theorem mfX8_are : MfV mX8_are 3 := ⟨pl 834 (by decide +kernel), pl 32 (by decide +kernel), pl 56 (by decide +kernel), pl 835 (by decide +kernel), by decide +kernel⟩
set_option maxRecDepth 100000 in
theorem mfX8_at : MfS mX8_at 3 := ⟨pl 814 (by decide +kernel), pl 56 (by decide +kernel), pl 815 (by decide +kernel), by decide +kernel⟩
set_option maxRecDepth 100000 in
theorem mfX8_back : MfV mX8_back 2 := ⟨pl 873 (by decide +kernel), pl 874 (by decide +kernel), pl 56 (by decide +kernel), pl 875 (by decide +kernel), by decide +kernel⟩
set_option maxRecDepth 100000 in
theorem mfX8_bad : MfV mX8_bad 1 := ⟨pl 769 (by decide +kernel), pl 22 (by decide +kernel), pl 56 (by decide +kernel), pl 770 (by decide +kernel), by decide +kernel⟩
set_option maxRecDepth 100000 in
theorem mfX8_bandOf : MfV mX8_bandOf 1 := ⟨pl 898 (by decide +kernel), pl 43 (by decide +kernel), pl 56 (by decide +kernel), pl 899 (by decide +kernel), by decide +kernel⟩
set_option maxRecDepth 100000 in
theorem mfX8_canCorrect : MfV mX8_canCorrect 4 := ⟨pl 927 (by decide +kernel), pl 44 (by decide +kernel), pl 56 (by decide +kernel), pl 928 (by decide +kernel), by decide +kernel⟩
set_option maxRecDepth 100000 in
theorem mfX8_correct : MfV mX8_correct 4 := ⟨pl 934 (by decide +kernel), pl 935 (by decide +kernel), pl 56 (by decide +kernel), pl 936 (by decide +kernel), by decide +kernel⟩
set_option maxRecDepth 100000 in
theorem mfX8_corrects : MfV mX8_corrects 4 := ⟨pl 931 (by decide +kernel), pl 45 (by decide +kernel), pl 56 (by decide +kernel), pl 932 (by decide +kernel), by decide +kernel⟩
set_option maxRecDepth 100000 in
theorem mfX8_district : MfV mX8_district 3 := ⟨pl 901 (by decide +kernel), pl 902 (by decide +kernel), pl 56 (by decide +kernel), pl 903 (by decide +kernel), by decide +kernel⟩
set_option maxRecDepth 100000 in
theorem mfX8_end : MfV mX8_end 1 := ⟨pl 665 (by decide +kernel), pl 666 (by decide +kernel), pl 56 (by decide +kernel), pl 667 (by decide +kernel), by decide +kernel⟩
set_option maxRecDepth 100000 in
theorem mfX8_fault : MfV mX8_fault 0 := ⟨pl 817 (by decide +kernel), pl 818 (by decide +kernel), pl 56 (by decide +kernel), pl 819 (by decide +kernel), by decide +kernel⟩
set_option maxRecDepth 100000 in
theorem mfX8_feed : MfV mX8_feed 5 := ⟨pl 656 (by decide +kernel), pl 657 (by decide +kernel), pl 56 (by decide +kernel), pl 658 (by decide +kernel), by decide +kernel⟩
set_option maxRecDepth 100000 in
theorem mfX8_forecast : MfV mX8_forecast 3 := ⟨pl 913 (by decide +kernel), pl 914 (by decide +kernel), pl 56 (by decide +kernel), pl 915 (by decide +kernel), by decide +kernel⟩
set_option maxRecDepth 100000 in
theorem mfX8_four : MfS mX8_four 4 := ⟨pl 756 (by decide +kernel), pl 56 (by decide +kernel), pl 757 (by decide +kernel), by decide +kernel⟩
set_option maxRecDepth 100000 in
theorem mfX8_go : MfV mX8_go 0 := ⟨pl 733 (by decide +kernel), pl 17 (by decide +kernel), pl 56 (by decide +kernel), pl 734 (by decide +kernel), by decide +kernel⟩
set_option maxRecDepth 100000 in
theorem mfX8_index : MfV mX8_index 3 := ⟨pl 885 (by decide +kernel), pl 886 (by decide +kernel), pl 56 (by decide +kernel), pl 887 (by decide +kernel), by decide +kernel⟩
set_option maxRecDepth 100000 in
theorem mfX8_indexOf : MfV mX8_indexOf 2 := ⟨pl 890 (by decide +kernel), pl 41 (by decide +kernel), pl 56 (by decide +kernel), pl 891 (by decide +kernel), by decide +kernel⟩
set_option maxRecDepth 100000 in
theorem mfX8_init : MfI mX8_init 0 := ⟨rfl, rfl, pl 670 (by decide +kernel), pl 56 (by decide +kernel), pl 671 (by decide +kernel), by decide +kernel⟩
set_option maxRecDepth 100000 in
theorem mfX8_isDigit : MfS mX8_isDigit 1 := ⟨pl 739 (by decide +kernel), pl 56 (by decide +kernel), pl 740 (by decide +kernel), by decide +kernel⟩
set_option maxRecDepth 100000 in
theorem mfX8_isHour : MfV mX8_isHour 1 := ⟨pl 846 (by decide +kernel), pl 35 (by decide +kernel), pl 56 (by decide +kernel), pl 847 (by decide +kernel), by decide +kernel⟩
set_option maxRecDepth 100000 in
theorem mfX8_isIn : MfS mX8_isIn 3 := ⟨pl 776 (by decide +kernel), pl 56 (by decide +kernel), pl 777 (by decide +kernel), by decide +kernel⟩
set_option maxRecDepth 100000 in
theorem mfX8_isLetter : MfS mX8_isLetter 1 := ⟨pl 736 (by decide +kernel), pl 56 (by decide +kernel), pl 737 (by decide +kernel), by decide +kernel⟩
set_option maxRecDepth 100000 in
theorem mfX8_isStation : MfV mX8_isStation 1 := ⟨pl 838 (by decide +kernel), pl 33 (by decide +kernel), pl 56 (by decide +kernel), pl 839 (by decide +kernel), by decide +kernel⟩
set_option maxRecDepth 100000 in
theorem mfX8_isStationWord : MfV mX8_isStationWord 0 := ⟨pl 805 (by decide +kernel), pl 29 (by decide +kernel), pl 56 (by decide +kernel), pl 806 (by decide +kernel), by decide +kernel⟩
set_option maxRecDepth 100000 in
theorem mfX8_isSubstance : MfV mX8_isSubstance 0 := ⟨pl 791 (by decide +kernel), pl 26 (by decide +kernel), pl 56 (by decide +kernel), pl 792 (by decide +kernel), by decide +kernel⟩
set_option maxRecDepth 100000 in
theorem mfX8_isSubstance_ : MfV mX8_isSubstance_ 1 := ⟨pl 842 (by decide +kernel), pl 34 (by decide +kernel), pl 56 (by decide +kernel), pl 843 (by decide +kernel), by decide +kernel⟩
set_option maxRecDepth 100000 in
theorem mfX8_isWord : MfV mX8_isWord 1 := ⟨pl 765 (by decide +kernel), pl 21 (by decide +kernel), pl 56 (by decide +kernel), pl 766 (by decide +kernel), by decide +kernel⟩
set_option maxRecDepth 100000 in
theorem mfX8_its : MfV mX8_its 2 := ⟨pl 862 (by decide +kernel), pl 38 (by decide +kernel), pl 56 (by decide +kernel), pl 863 (by decide +kernel), by decide +kernel⟩
set_option maxRecDepth 100000 in
theorem mfX8_keeps : MfV mX8_keeps 3 := ⟨pl 918 (by decide +kernel), pl 919 (by decide +kernel), pl 56 (by decide +kernel), pl 920 (by decide +kernel), by decide +kernel⟩
set_option maxRecDepth 100000 in
theorem mfX8_lasts : MfV mX8_lasts 3 := ⟨pl 905 (by decide +kernel), pl 906 (by decide +kernel), pl 56 (by decide +kernel), pl 907 (by decide +kernel), by decide +kernel⟩
set_option maxRecDepth 100000 in
theorem mfX8_lays : MfV mX8_lays 1 := ⟨pl 661 (by decide +kernel), pl 16 (by decide +kernel), pl 56 (by decide +kernel), pl 663 (by decide +kernel), by decide +kernel⟩
set_option maxRecDepth 100000 in
theorem mfX8_mean : MfV mX8_mean 3 := ⟨pl 853 (by decide +kernel), pl 854 (by decide +kernel), pl 56 (by decide +kernel), pl 855 (by decide +kernel), by decide +kernel⟩
set_option maxRecDepth 100000 in
theorem mfX8_meanOf : MfV mX8_meanOf 3 := ⟨pl 858 (by decide +kernel), pl 37 (by decide +kernel), pl 56 (by decide +kernel), pl 859 (by decide +kernel), by decide +kernel⟩
set_option maxRecDepth 100000 in
theorem mfX8_now : MfV mX8_now 1 := ⟨pl 821 (by decide +kernel), pl 822 (by decide +kernel), pl 56 (by decide +kernel), pl 823 (by decide +kernel), by decide +kernel⟩
set_option maxRecDepth 100000 in
theorem mfX8_pass : MfV mX8_pass 1 := ⟨pl 942 (by decide +kernel), pl 943 (by decide +kernel), pl 56 (by decide +kernel), pl 944 (by decide +kernel), by decide +kernel⟩
set_option maxRecDepth 100000 in
theorem mfX8_read : MfV mX8_read 3 := ⟨pl 829 (by decide +kernel), pl 830 (by decide +kernel), pl 56 (by decide +kernel), pl 831 (by decide +kernel), by decide +kernel⟩
set_option maxRecDepth 100000 in
theorem mfX8_readBands : MfV mX8_readBands 0 := ⟨pl 753 (by decide +kernel), pl 20 (by decide +kernel), pl 56 (by decide +kernel), pl 754 (by decide +kernel), by decide +kernel⟩
set_option maxRecDepth 100000 in
theorem mfX8_readEnd : MfV mX8_readEnd 0 := ⟨pl 780 (by decide +kernel), pl 24 (by decide +kernel), pl 56 (by decide +kernel), pl 781 (by decide +kernel), by decide +kernel⟩
set_option maxRecDepth 100000 in
theorem mfX8_readMany : MfV mX8_readMany 0 := ⟨pl 826 (by decide +kernel), pl 31 (by decide +kernel), pl 56 (by decide +kernel), pl 827 (by decide +kernel), by decide +kernel⟩
set_option maxRecDepth 100000 in
theorem mfX8_readOf : MfV mX8_readOf 3 := ⟨pl 850 (by decide +kernel), pl 36 (by decide +kernel), pl 56 (by decide +kernel), pl 851 (by decide +kernel), by decide +kernel⟩
set_option maxRecDepth 100000 in
theorem mfX8_readPoint : MfV mX8_readPoint 1 := ⟨pl 797 (by decide +kernel), pl 27 (by decide +kernel), pl 56 (by decide +kernel), pl 798 (by decide +kernel), by decide +kernel⟩
set_option maxRecDepth 100000 in
theorem mfX8_readSeries : MfV mX8_readSeries 0 := ⟨pl 810 (by decide +kernel), pl 30 (by decide +kernel), pl 56 (by decide +kernel), pl 811 (by decide +kernel), by decide +kernel⟩
set_option maxRecDepth 100000 in
theorem mfX8_readStation : MfV mX8_readStation 0 := ⟨pl 801 (by decide +kernel), pl 28 (by decide +kernel), pl 56 (by decide +kernel), pl 802 (by decide +kernel), by decide +kernel⟩
set_option maxRecDepth 100000 in
theorem mfX8_readSubstance : MfV mX8_readSubstance 0 := ⟨pl 787 (by decide +kernel), pl 25 (by decide +kernel), pl 56 (by decide +kernel), pl 788 (by decide +kernel), by decide +kernel⟩
set_option maxRecDepth 100000 in
theorem mfX8_readWhole : MfV mX8_readWhole 0 := ⟨pl 749 (by decide +kernel), pl 19 (by decide +kernel), pl 56 (by decide +kernel), pl 750 (by decide +kernel), by decide +kernel⟩
set_option maxRecDepth 100000 in
theorem mfX8_rulingOf : MfV mX8_rulingOf 2 := ⟨pl 894 (by decide +kernel), pl 42 (by decide +kernel), pl 56 (by decide +kernel), pl 895 (by decide +kernel), by decide +kernel⟩
set_option maxRecDepth 100000 in
theorem mfX8_scale : MfV mX8_scale 2 := ⟨pl 865 (by decide +kernel), pl 866 (by decide +kernel), pl 56 (by decide +kernel), pl 867 (by decide +kernel), by decide +kernel⟩
set_option maxRecDepth 100000 in
theorem mfX8_scaleOf : MfV mX8_scaleOf 2 := ⟨pl 870 (by decide +kernel), pl 39 (by decide +kernel), pl 56 (by decide +kernel), pl 871 (by decide +kernel), by decide +kernel⟩
set_option maxRecDepth 100000 in
theorem mfX8_six : MfS mX8_six 6 := ⟨pl 783 (by decide +kernel), pl 56 (by decide +kernel), pl 784 (by decide +kernel), by decide +kernel⟩
set_option maxRecDepth 100000 in
theorem mfX8_smooth : MfV mX8_smooth 1 := ⟨pl 946 (by decide +kernel), pl 947 (by decide +kernel), pl 56 (by decide +kernel), pl 948 (by decide +kernel), by decide +kernel⟩
set_option maxRecDepth 100000 in
theorem mfX8_snap : MfV mX8_snap 0 := ⟨pl 939 (by decide +kernel), pl 46 (by decide +kernel), pl 56 (by decide +kernel), pl 940 (by decide +kernel), by decide +kernel⟩
set_option maxRecDepth 100000 in
theorem mfX8_sub : MfV mX8_sub 3 := ⟨pl 877 (by decide +kernel), pl 878 (by decide +kernel), pl 56 (by decide +kernel), pl 879 (by decide +kernel), by decide +kernel⟩
set_option maxRecDepth 100000 in
theorem mfX8_subOf : MfV mX8_subOf 3 := ⟨pl 882 (by decide +kernel), pl 40 (by decide +kernel), pl 56 (by decide +kernel), pl 883 (by decide +kernel), by decide +kernel⟩
set_option maxRecDepth 100000 in
theorem mfX8_tapeAt : MfV mX8_tapeAt 1 := ⟨pl 743 (by decide +kernel), pl 18 (by decide +kernel), pl 56 (by decide +kernel), pl 744 (by decide +kernel), by decide +kernel⟩
set_option maxRecDepth 100000 in
theorem mfX8_text : MfV mX8_text 0 := ⟨pl 728 (by decide +kernel), pl 729 (by decide +kernel), pl 56 (by decide +kernel), pl 730 (by decide +kernel), by decide +kernel⟩
set_option maxRecDepth 100000 in
theorem mfX8_told : MfV mX8_told 3 := ⟨pl 773 (by decide +kernel), pl 23 (by decide +kernel), pl 56 (by decide +kernel), pl 774 (by decide +kernel), by decide +kernel⟩
set_option maxRecDepth 100000 in
theorem mfX8_touches : MfV mX8_touches 4 := ⟨pl 922 (by decide +kernel), pl 923 (by decide +kernel), pl 56 (by decide +kernel), pl 924 (by decide +kernel), by decide +kernel⟩
set_option maxRecDepth 100000 in
theorem mfX8_two : MfS mX8_two 2 := ⟨pl 760 (by decide +kernel), pl 56 (by decide +kernel), pl 761 (by decide +kernel), by decide +kernel⟩
set_option maxRecDepth 100000 in
theorem mfX8_undo : MfV mX8_undo 0 := ⟨pl 954 (by decide +kernel), pl 955 (by decide +kernel), pl 56 (by decide +kernel), pl 956 (by decide +kernel), by decide +kernel⟩
set_option maxRecDepth 100000 in
theorem mfX8_window : MfV mX8_window 3 := ⟨pl 950 (by decide +kernel), pl 951 (by decide +kernel), pl 56 (by decide +kernel), pl 952 (by decide +kernel), by decide +kernel⟩
set_option maxRecDepth 100000 in
theorem mfX8_worst : MfV mX8_worst 3 := ⟨pl 909 (by decide +kernel), pl 910 (by decide +kernel), pl 56 (by decide +kernel), pl 911 (by decide +kernel), by decide +kernel⟩
section LINKS
variable {E : Ev} {R : Room} {mi : MI} {fin : Fin9} {K N : Nat} {M : Mem} {pc : Nat} {L : List (Option Value)} {st : List Value}
/-- what a call leaves on the stack -/
def pu : Option Value → List Value → List Value
  | none, st => st
  | some v, st => v :: st
theorem pu_eq (r : Option Value) (st : List Value) : r.toList ++ st = pu r st := by cases r <;> rfl
theorem pu_fun (rest : List Value) : (fun (r : Option Value) (M2 : Mem) => V E R mi fin K N M2 (pc + 3) L (r.toList ++ rest)) = (fun r M2 => V E R mi fin K N M2 (pc + 3) L (pu r rest)) := by
  funext r M2
  rw [pu_eq]
theorem v_callV0 {q : MI} {Rq : Room} {b ci n idx nn : Nat} {fs rest : List Value} {T : u_T} (As : List Value) (hz : Rq.cells = 0) (hz2 : Rq.slots = 0) (d : decode mi.cc pc = .ok (.invokevirtual idx, 3)) (hM : M[b]? = some (ob ci fs)) (hc : vwCl[ci]? = some (q.y.cls, T, nn)) (hlk : Cond.methodLink mi.y.cls idx q.y ∈ lw_tbl) (hq : MfV q n) (hn : As.length = n) (hR : Rq.frames + 1 ≤ R.frames ∧ 8 + (q.nL + 11) + Rq.locals ≤ R.locals) (hw : (rest.map fun v => v.category).sum ≤ 8) (hf : K ≤ R.cells ∧ N ≤ R.slots)
    (k : Cn E Rq q (rr E b :: As) M (fun r M2 => V E R mi fin K N M2 (pc + 3) L (pu r rest))) : V E R mi fin K N M pc L (As.reverse ++ rr E b :: rest) := by
  rw [← pu_fun] at k
  refine v_callV (Rq := Rq) d hM hc hlk hq hn hR hw (by rw [hz, hz2]; exact hf) ?_
  rw [hz, hz2]
  exact k
theorem v_callS0 {q : MI} {Rq : Room} {n idx : Nat} {rest : List Value} (As : List Value) (hz : Rq.cells = 0) (hz2 : Rq.slots = 0) (d : decode mi.cc pc = .ok (.invokestatic idx, 3)) (hlk : Cond.methodLink mi.y.cls idx q.y ∈ lw_tbl) (hq : MfS q n) (hn : As.length = n) (hR : Rq.frames + 1 ≤ R.frames ∧ 8 + (q.nL + 11) + Rq.locals ≤ R.locals) (hw : (rest.map fun v => v.category).sum ≤ 8) (hf : K ≤ R.cells ∧ N ≤ R.slots)
    (k : Cn E Rq q As M (fun r M2 => V E R mi fin K N M2 (pc + 3) L (pu r rest))) : V E R mi fin K N M pc L (As.reverse ++ rest) := by
  rw [← pu_fun] at k
  refine v_callS (Rq := Rq) d hlk hq hn hR hw (by rw [hz, hz2]; exact hf) ?_
  rw [hz, hz2]
  exact k
theorem g_X7_10 {a : Nat} {f0 f1 f2 f3 f4 : Value} (hy : mi.y.cls = RX7) (d : decode mi.cc pc = .ok (.getfield 10, 3)) (hM : M[a]? = some (ob 7 [f0, f1, f2, f3, f4])) (k9 : V E R mi fin K N M (pc + 3) L (f0 :: st)) : V E R mi fin K N M pc L (rr E a :: st) := v_getf (k := 0) (T := TX7) d hM rfl inX7 (by decide) (by rw [hy]; exact pl 270 (by decide +kernel)) rfl k9
theorem g_X7_21 {a : Nat} {f0 f1 f2 f3 f4 : Value} (hy : mi.y.cls = RX7) (d : decode mi.cc pc = .ok (.getfield 21, 3)) (hM : M[a]? = some (ob 7 [f0, f1, f2, f3, f4])) (k9 : V E R mi fin K N M (pc + 3) L (f1 :: st)) : V E R mi fin K N M pc L (rr E a :: st) := v_getf (k := 1) (T := TX7) d hM rfl inX7 (by decide) (by rw [hy]; exact pl 271 (by decide +kernel)) rfl k9
theorem g_X7_28 {a : Nat} {f0 f1 f2 f3 f4 : Value} (hy : mi.y.cls = RX7) (d : decode mi.cc pc = .ok (.getfield 28, 3)) (hM : M[a]? = some (ob 7 [f0, f1, f2, f3, f4])) (k9 : V E R mi fin K N M (pc + 3) L (f2 :: st)) : V E R mi fin K N M pc L (rr E a :: st) := v_getf (k := 2) (T := TX7) d hM rfl inX7 (by decide) (by rw [hy]; exact pl 272 (by decide +kernel)) rfl k9
theorem g_X7_35 {a : Nat} {f0 f1 f2 f3 f4 : Value} (hy : mi.y.cls = RX7) (d : decode mi.cc pc = .ok (.getfield 35, 3)) (hM : M[a]? = some (ob 7 [f0, f1, f2, f3, f4])) (k9 : V E R mi fin K N M (pc + 3) L (f3 :: st)) : V E R mi fin K N M pc L (rr E a :: st) := v_getf (k := 3) (T := TX7) d hM rfl inX7 (by decide) (by rw [hy]; exact pl 273 (by decide +kernel)) rfl k9
theorem g_X7_39 {a : Nat} {f0 f1 f2 f3 f4 : Value} (hy : mi.y.cls = RX7) (d : decode mi.cc pc = .ok (.getfield 39, 3)) (hM : M[a]? = some (ob 7 [f0, f1, f2, f3, f4])) (k9 : V E R mi fin K N M (pc + 3) L (f4 :: st)) : V E R mi fin K N M pc L (rr E a :: st) := v_getf (k := 4) (T := TX7) d hM rfl inX7 (by decide) (by rw [hy]; exact pl 274 (by decide +kernel)) rfl k9
theorem g_X7_53 {a : Nat} {f0 f1 : Value} (hy : mi.y.cls = RX7) (d : decode mi.cc pc = .ok (.getfield 53, 3)) (hM : M[a]? = some (ob 4 [f0, f1])) (k9 : V E R mi fin K N M (pc + 3) L (f1 :: st)) : V E R mi fin K N M pc L (rr E a :: st) := v_getn (host := "AirIndex") (k := 1) (T := TX4) d hM rfl inX4 (by decide) (by rw [hy]; exact pl 80 (by decide +kernel)) rfl k9
theorem g_X7_82 {a : Nat} {f0 f1 f2 f3 f4 f5 : Value} (hy : mi.y.cls = RX7) (d : decode mi.cc pc = .ok (.getfield 82, 3)) (hM : M[a]? = some (ob 5 [f0, f1, f2, f3, f4, f5])) (k9 : V E R mi fin K N M (pc + 3) L (f3 :: st)) : V E R mi fin K N M pc L (rr E a :: st) := v_getn (host := "AirIndex") (k := 3) (T := TX5) d hM rfl inX5 (by decide) (by rw [hy]; exact pl 125 (by decide +kernel)) rfl k9
theorem g_X7_88 {a : Nat} {f0 f1 f2 f3 f4 f5 : Value} (hy : mi.y.cls = RX7) (d : decode mi.cc pc = .ok (.getfield 88, 3)) (hM : M[a]? = some (ob 5 [f0, f1, f2, f3, f4, f5])) (k9 : V E R mi fin K N M (pc + 3) L (f1 :: st)) : V E R mi fin K N M pc L (rr E a :: st) := v_getn (host := "AirIndex") (k := 1) (T := TX5) d hM rfl inX5 (by decide) (by rw [hy]; exact pl 121 (by decide +kernel)) rfl k9
theorem g_X7_91 {a : Nat} {f0 f1 f2 f3 f4 f5 : Value} (hy : mi.y.cls = RX7) (d : decode mi.cc pc = .ok (.getfield 91, 3)) (hM : M[a]? = some (ob 5 [f0, f1, f2, f3, f4, f5])) (k9 : V E R mi fin K N M (pc + 3) L (f2 :: st)) : V E R mi fin K N M pc L (rr E a :: st) := v_getn (host := "AirIndex") (k := 2) (T := TX5) d hM rfl inX5 (by decide) (by rw [hy]; exact pl 123 (by decide +kernel)) rfl k9
theorem g_X7_94 {a : Nat} {f0 f1 f2 f3 f4 f5 f6 f7 : Value} (hy : mi.y.cls = RX7) (d : decode mi.cc pc = .ok (.getfield 94, 3)) (hM : M[a]? = some (ob 2 [f0, f1, f2, f3, f4, f5, f6, f7])) (k9 : V E R mi fin K N M (pc + 3) L (f7 :: st)) : V E R mi fin K N M pc L (rr E a :: st) := v_getn (host := "AirIndex") (k := 7) (T := TX2) d hM rfl inX2 (by decide) (by rw [hy]; exact pl 231 (by decide +kernel)) rfl k9
theorem g_X7_97 {a : Nat} {f0 f1 f2 f3 f4 f5 f6 f7 : Value} (hy : mi.y.cls = RX7) (d : decode mi.cc pc = .ok (.getfield 97, 3)) (hM : M[a]? = some (ob 2 [f0, f1, f2, f3, f4, f5, f6, f7])) (k9 : V E R mi fin K N M (pc + 3) L (f5 :: st)) : V E R mi fin K N M pc L (rr E a :: st) := v_getn (host := "AirIndex") (k := 5) (T := TX2) d hM rfl inX2 (by decide) (by rw [hy]; exact pl 225 (by decide +kernel)) rfl k9
theorem g_X7_100 {a : Nat} {f0 f1 f2 f3 f4 f5 f6 f7 : Value} (hy : mi.y.cls = RX7) (d : decode mi.cc pc = .ok (.getfield 100, 3)) (hM : M[a]? = some (ob 2 [f0, f1, f2, f3, f4, f5, f6, f7])) (k9 : V E R mi fin K N M (pc + 3) L (f6 :: st)) : V E R mi fin K N M pc L (rr E a :: st) := v_getn (host := "AirIndex") (k := 6) (T := TX2) d hM rfl inX2 (by decide) (by rw [hy]; exact pl 228 (by decide +kernel)) rfl k9
theorem g_X7_107 {a : Nat} {f0 f1 f2 f3 f4 f5 f6 f7 : Value} (hy : mi.y.cls = RX7) (d : decode mi.cc pc = .ok (.getfield 107, 3)) (hM : M[a]? = some (ob 2 [f0, f1, f2, f3, f4, f5, f6, f7])) (k9 : V E R mi fin K N M (pc + 3) L (f4 :: st)) : V E R mi fin K N M pc L (rr E a :: st) := v_getn (host := "AirIndex") (k := 4) (T := TX2) d hM rfl inX2 (by decide) (by rw [hy]; exact pl 223 (by decide +kernel)) rfl k9
theorem g_X7_110 {a : Nat} {f0 f1 : Value} (hy : mi.y.cls = RX7) (d : decode mi.cc pc = .ok (.getfield 110, 3)) (hM : M[a]? = some (ob 1 [f0, f1])) (k9 : V E R mi fin K N M (pc + 3) L (f1 :: st)) : V E R mi fin K N M pc L (rr E a :: st) := v_getn (host := "AirIndex") (k := 1) (T := TX1) d hM rfl inX1 (by decide) (by rw [hy]; exact pl 176 (by decide +kernel)) rfl k9
theorem g_X7_181 {a : Nat} {f0 f1 f2 f3 f4 f5 : Value} (hy : mi.y.cls = RX7) (d : decode mi.cc pc = .ok (.getfield 181, 3)) (hM : M[a]? = some (ob 0 [f0, f1, f2, f3, f4, f5])) (k9 : V E R mi fin K N M (pc + 3) L (f1 :: st)) : V E R mi fin K N M pc L (rr E a :: st) := v_getn (host := "AirIndex") (k := 1) (T := TX0) d hM rfl inX0 (by decide) (by rw [hy]; exact pl 156 (by decide +kernel)) rfl k9
theorem g_X7_186 {a : Nat} {f0 f1 f2 f3 f4 f5 : Value} (hy : mi.y.cls = RX7) (d : decode mi.cc pc = .ok (.getfield 186, 3)) (hM : M[a]? = some (ob 0 [f0, f1, f2, f3, f4, f5])) (k9 : V E R mi fin K N M (pc + 3) L (f2 :: st)) : V E R mi fin K N M pc L (rr E a :: st) := v_getn (host := "AirIndex") (k := 2) (T := TX0) d hM rfl inX0 (by decide) (by rw [hy]; exact pl 157 (by decide +kernel)) rfl k9
theorem g_X7_189 {a : Nat} {f0 f1 f2 f3 f4 f5 : Value} (hy : mi.y.cls = RX7) (d : decode mi.cc pc = .ok (.getfield 189, 3)) (hM : M[a]? = some (ob 0 [f0, f1, f2, f3, f4, f5])) (k9 : V E R mi fin K N M (pc + 3) L (f3 :: st)) : V E R mi fin K N M pc L (rr E a :: st) := v_getn (host := "AirIndex") (k := 3) (T := TX0) d hM rfl inX0 (by decide) (by rw [hy]; exact pl 158 (by decide +kernel)) rfl k9
theorem g_X7_192 {a : Nat} {f0 f1 f2 f3 f4 f5 : Value} (hy : mi.y.cls = RX7) (d : decode mi.cc pc = .ok (.getfield 192, 3)) (hM : M[a]? = some (ob 0 [f0, f1, f2, f3, f4, f5])) (k9 : V E R mi fin K N M (pc + 3) L (f4 :: st)) : V E R mi fin K N M pc L (rr E a :: st) := v_getn (host := "AirIndex") (k := 4) (T := TX0) d hM rfl inX0 (by decide) (by rw [hy]; exact pl 159 (by decide +kernel)) rfl k9
theorem g_X7_200 {a : Nat} {f0 f1 f2 f3 f4 : Value} (hy : mi.y.cls = RX7) (d : decode mi.cc pc = .ok (.getfield 200, 3)) (hM : M[a]? = some (ob 3 [f0, f1, f2, f3, f4])) (k9 : V E R mi fin K N M (pc + 3) L (f3 :: st)) : V E R mi fin K N M pc L (rr E a :: st) := v_getn (host := "AirIndex") (k := 3) (T := TX3) d hM rfl inX3 (by decide) (by rw [hy]; exact pl 202 (by decide +kernel)) rfl k9
theorem g_X7_203 {a : Nat} {f0 f1 f2 f3 f4 : Value} (hy : mi.y.cls = RX7) (d : decode mi.cc pc = .ok (.getfield 203, 3)) (hM : M[a]? = some (ob 3 [f0, f1, f2, f3, f4])) (k9 : V E R mi fin K N M (pc + 3) L (f4 :: st)) : V E R mi fin K N M pc L (rr E a :: st) := v_getn (host := "AirIndex") (k := 4) (T := TX3) d hM rfl inX3 (by decide) (by rw [hy]; exact pl 204 (by decide +kernel)) rfl k9
theorem g_X7_206 {a : Nat} {f0 f1 f2 f3 f4 f5 : Value} (hy : mi.y.cls = RX7) (d : decode mi.cc pc = .ok (.getfield 206, 3)) (hM : M[a]? = some (ob 0 [f0, f1, f2, f3, f4, f5])) (k9 : V E R mi fin K N M (pc + 3) L (f5 :: st)) : V E R mi fin K N M pc L (rr E a :: st) := v_getn (host := "AirIndex") (k := 5) (T := TX0) d hM rfl inX0 (by decide) (by rw [hy]; exact pl 160 (by decide +kernel)) rfl k9
theorem g_X7_217 {a : Nat} {f0 f1 f2 f3 f4 f5 : Value} (hy : mi.y.cls = RX7) (d : decode mi.cc pc = .ok (.getfield 217, 3)) (hM : M[a]? = some (ob 0 [f0, f1, f2, f3, f4, f5])) (k9 : V E R mi fin K N M (pc + 3) L (f0 :: st)) : V E R mi fin K N M pc L (rr E a :: st) := v_getn (host := "AirIndex") (k := 0) (T := TX0) d hM rfl inX0 (by decide) (by rw [hy]; exact pl 155 (by decide +kernel)) rfl k9
theorem g_X1_11 {a : Nat} {f0 f1 : Value} (hy : mi.y.cls = RX1) (d : decode mi.cc pc = .ok (.getfield 11, 3)) (hM : M[a]? = some (ob 1 [f0, f1])) (k9 : V E R mi fin K N M (pc + 3) L (f0 :: st)) : V E R mi fin K N M pc L (rr E a :: st) := v_getf (k := 0) (T := TX1) d hM rfl inX1 (by decide) (by rw [hy]; exact pl 174 (by decide +kernel)) rfl k9
theorem g_X1_18 {a : Nat} {f0 f1 : Value} (hy : mi.y.cls = RX1) (d : decode mi.cc pc = .ok (.getfield 18, 3)) (hM : M[a]? = some (ob 1 [f0, f1])) (k9 : V E R mi fin K N M (pc + 3) L (f1 :: st)) : V E R mi fin K N M pc L (rr E a :: st) := v_getf (k := 1) (T := TX1) d hM rfl inX1 (by decide) (by rw [hy]; exact pl 175 (by decide +kernel)) rfl k9
theorem g_X2_9 {a : Nat} {f0 f1 f2 f3 f4 f5 f6 f7 : Value} (hy : mi.y.cls = RX2) (d : decode mi.cc pc = .ok (.getfield 9, 3)) (hM : M[a]? = some (ob 2 [f0, f1, f2, f3, f4, f5, f6, f7])) (k9 : V E R mi fin K N M (pc + 3) L (f0 :: st)) : V E R mi fin K N M pc L (rr E a :: st) := v_getf (k := 0) (T := TX2) d hM rfl inX2 (by decide) (by rw [hy]; exact pl 217 (by decide +kernel)) rfl k9
theorem g_X2_17 {a : Nat} {f0 f1 f2 f3 f4 f5 f6 f7 : Value} (hy : mi.y.cls = RX2) (d : decode mi.cc pc = .ok (.getfield 17, 3)) (hM : M[a]? = some (ob 2 [f0, f1, f2, f3, f4, f5, f6, f7])) (k9 : V E R mi fin K N M (pc + 3) L (f1 :: st)) : V E R mi fin K N M pc L (rr E a :: st) := v_getf (k := 1) (T := TX2) d hM rfl inX2 (by decide) (by rw [hy]; exact pl 218 (by decide +kernel)) rfl k9
theorem g_X2_21 {a : Nat} {f0 f1 f2 f3 f4 f5 f6 f7 : Value} (hy : mi.y.cls = RX2) (d : decode mi.cc pc = .ok (.getfield 21, 3)) (hM : M[a]? = some (ob 2 [f0, f1, f2, f3, f4, f5, f6, f7])) (k9 : V E R mi fin K N M (pc + 3) L (f2 :: st)) : V E R mi fin K N M pc L (rr E a :: st) := v_getf (k := 2) (T := TX2) d hM rfl inX2 (by decide) (by rw [hy]; exact pl 219 (by decide +kernel)) rfl k9
theorem g_X2_26 {a : Nat} {f0 f1 f2 f3 f4 f5 f6 f7 : Value} (hy : mi.y.cls = RX2) (d : decode mi.cc pc = .ok (.getfield 26, 3)) (hM : M[a]? = some (ob 2 [f0, f1, f2, f3, f4, f5, f6, f7])) (k9 : V E R mi fin K N M (pc + 3) L (f3 :: st)) : V E R mi fin K N M pc L (rr E a :: st) := v_getf (k := 3) (T := TX2) d hM rfl inX2 (by decide) (by rw [hy]; exact pl 220 (by decide +kernel)) rfl k9
theorem g_X2_30 {a : Nat} {f0 f1 f2 f3 f4 f5 f6 f7 : Value} (hy : mi.y.cls = RX2) (d : decode mi.cc pc = .ok (.getfield 30, 3)) (hM : M[a]? = some (ob 2 [f0, f1, f2, f3, f4, f5, f6, f7])) (k9 : V E R mi fin K N M (pc + 3) L (f4 :: st)) : V E R mi fin K N M pc L (rr E a :: st) := v_getf (k := 4) (T := TX2) d hM rfl inX2 (by decide) (by rw [hy]; exact pl 221 (by decide +kernel)) rfl k9
theorem g_X2_34 {a : Nat} {f0 f1 f2 f3 f4 f5 f6 f7 : Value} (hy : mi.y.cls = RX2) (d : decode mi.cc pc = .ok (.getfield 34, 3)) (hM : M[a]? = some (ob 2 [f0, f1, f2, f3, f4, f5, f6, f7])) (k9 : V E R mi fin K N M (pc + 3) L (f5 :: st)) : V E R mi fin K N M pc L (rr E a :: st) := v_getf (k := 5) (T := TX2) d hM rfl inX2 (by decide) (by rw [hy]; exact pl 224 (by decide +kernel)) rfl k9
theorem g_X2_37 {a : Nat} {f0 f1 f2 f3 f4 f5 f6 f7 : Value} (hy : mi.y.cls = RX2) (d : decode mi.cc pc = .ok (.getfield 37, 3)) (hM : M[a]? = some (ob 2 [f0, f1, f2, f3, f4, f5, f6, f7])) (k9 : V E R mi fin K N M (pc + 3) L (f6 :: st)) : V E R mi fin K N M pc L (rr E a :: st) := v_getf (k := 6) (T := TX2) d hM rfl inX2 (by decide) (by rw [hy]; exact pl 227 (by decide +kernel)) rfl k9
theorem g_X2_40 {a : Nat} {f0 f1 f2 f3 f4 f5 f6 f7 : Value} (hy : mi.y.cls = RX2) (d : decode mi.cc pc = .ok (.getfield 40, 3)) (hM : M[a]? = some (ob 2 [f0, f1, f2, f3, f4, f5, f6, f7])) (k9 : V E R mi fin K N M (pc + 3) L (f7 :: st)) : V E R mi fin K N M pc L (rr E a :: st) := v_getf (k := 7) (T := TX2) d hM rfl inX2 (by decide) (by rw [hy]; exact pl 230 (by decide +kernel)) rfl k9
theorem g_X2_58 {a : Nat} {f0 f1 f2 f3 f4 : Value} (hy : mi.y.cls = RX2) (d : decode mi.cc pc = .ok (.getfield 58, 3)) (hM : M[a]? = some (ob 3 [f0, f1, f2, f3, f4])) (k9 : V E R mi fin K N M (pc + 3) L (f3 :: st)) : V E R mi fin K N M pc L (rr E a :: st) := v_getn (host := "AirIndex") (k := 3) (T := TX3) d hM rfl inX3 (by decide) (by rw [hy]; exact pl 201 (by decide +kernel)) rfl k9
theorem g_X2_61 {a : Nat} {f0 f1 f2 f3 f4 : Value} (hy : mi.y.cls = RX2) (d : decode mi.cc pc = .ok (.getfield 61, 3)) (hM : M[a]? = some (ob 3 [f0, f1, f2, f3, f4])) (k9 : V E R mi fin K N M (pc + 3) L (f4 :: st)) : V E R mi fin K N M pc L (rr E a :: st) := v_getn (host := "AirIndex") (k := 4) (T := TX3) d hM rfl inX3 (by decide) (by rw [hy]; exact pl 203 (by decide +kernel)) rfl k9
theorem g_X3_9 {a : Nat} {f0 f1 f2 f3 f4 : Value} (hy : mi.y.cls = RX3) (d : decode mi.cc pc = .ok (.getfield 9, 3)) (hM : M[a]? = some (ob 3 [f0, f1, f2, f3, f4])) (k9 : V E R mi fin K N M (pc + 3) L (f0 :: st)) : V E R mi fin K N M pc L (rr E a :: st) := v_getf (k := 0) (T := TX3) d hM rfl inX3 (by decide) (by rw [hy]; exact pl 197 (by decide +kernel)) rfl k9
theorem g_X3_15 {a : Nat} {f0 f1 f2 f3 f4 : Value} (hy : mi.y.cls = RX3) (d : decode mi.cc pc = .ok (.getfield 15, 3)) (hM : M[a]? = some (ob 3 [f0, f1, f2, f3, f4])) (k9 : V E R mi fin K N M (pc + 3) L (f1 :: st)) : V E R mi fin K N M pc L (rr E a :: st) := v_getf (k := 1) (T := TX3) d hM rfl inX3 (by decide) (by rw [hy]; exact pl 198 (by decide +kernel)) rfl k9
theorem g_X3_18 {a : Nat} {f0 f1 f2 f3 f4 : Value} (hy : mi.y.cls = RX3) (d : decode mi.cc pc = .ok (.getfield 18, 3)) (hM : M[a]? = some (ob 3 [f0, f1, f2, f3, f4])) (k9 : V E R mi fin K N M (pc + 3) L (f2 :: st)) : V E R mi fin K N M pc L (rr E a :: st) := v_getf (k := 2) (T := TX3) d hM rfl inX3 (by decide) (by rw [hy]; exact pl 199 (by decide +kernel)) rfl k9
theorem g_X4_9 {a : Nat} {f0 f1 : Value} (hy : mi.y.cls = RX4) (d : decode mi.cc pc = .ok (.getfield 9, 3)) (hM : M[a]? = some (ob 4 [f0, f1])) (k9 : V E R mi fin K N M (pc + 3) L (f0 :: st)) : V E R mi fin K N M pc L (rr E a :: st) := v_getf (k := 0) (T := TX4) d hM rfl inX4 (by decide) (by rw [hy]; exact pl 77 (by decide +kernel)) rfl k9
theorem g_X4_15 {a : Nat} {f0 f1 : Value} (hy : mi.y.cls = RX4) (d : decode mi.cc pc = .ok (.getfield 15, 3)) (hM : M[a]? = some (ob 4 [f0, f1])) (k9 : V E R mi fin K N M (pc + 3) L (f1 :: st)) : V E R mi fin K N M pc L (rr E a :: st) := v_getf (k := 1) (T := TX4) d hM rfl inX4 (by decide) (by rw [hy]; exact pl 79 (by decide +kernel)) rfl k9
theorem g_X5_14 {a : Nat} {f0 f1 f2 f3 f4 f5 : Value} (hy : mi.y.cls = RX5) (d : decode mi.cc pc = .ok (.getfield 14, 3)) (hM : M[a]? = some (ob 5 [f0, f1, f2, f3, f4, f5])) (k9 : V E R mi fin K N M (pc + 3) L (f0 :: st)) : V E R mi fin K N M pc L (rr E a :: st) := v_getf (k := 0) (T := TX5) d hM rfl inX5 (by decide) (by rw [hy]; exact pl 119 (by decide +kernel)) rfl k9
theorem g_X5_20 {a : Nat} {f0 f1 f2 f3 f4 f5 : Value} (hy : mi.y.cls = RX5) (d : decode mi.cc pc = .ok (.getfield 20, 3)) (hM : M[a]? = some (ob 5 [f0, f1, f2, f3, f4, f5])) (k9 : V E R mi fin K N M (pc + 3) L (f1 :: st)) : V E R mi fin K N M pc L (rr E a :: st) := v_getf (k := 1) (T := TX5) d hM rfl inX5 (by decide) (by rw [hy]; exact pl 120 (by decide +kernel)) rfl k9
theorem g_X5_30 {a : Nat} {f0 f1 f2 f3 f4 f5 : Value} (hy : mi.y.cls = RX5) (d : decode mi.cc pc = .ok (.getfield 30, 3)) (hM : M[a]? = some (ob 5 [f0, f1, f2, f3, f4, f5])) (k9 : V E R mi fin K N M (pc + 3) L (f5 :: st)) : V E R mi fin K N M pc L (rr E a :: st) := v_getf (k := 5) (T := TX5) d hM rfl inX5 (by decide) (by rw [hy]; exact pl 127 (by decide +kernel)) rfl k9
theorem g_X5_46 {a : Nat} {f0 f1 f2 f3 f4 f5 : Value} (hy : mi.y.cls = RX5) (d : decode mi.cc pc = .ok (.getfield 46, 3)) (hM : M[a]? = some (ob 5 [f0, f1, f2, f3, f4, f5])) (k9 : V E R mi fin K N M (pc + 3) L (f4 :: st)) : V E R mi fin K N M pc L (rr E a :: st) := v_getf (k := 4) (T := TX5) d hM rfl inX5 (by decide) (by rw [hy]; exact pl 126 (by decide +kernel)) rfl k9
theorem g_X5_85 {a : Nat} {f0 f1 f2 f3 f4 : Value} (hy : mi.y.cls = RX5) (d : decode mi.cc pc = .ok (.getfield 85, 3)) (hM : M[a]? = some (ob 6 [f0, f1, f2, f3, f4])) (k9 : V E R mi fin K N M (pc + 3) L (f1 :: st)) : V E R mi fin K N M pc L (rr E a :: st) := v_getn (host := "AirIndex") (k := 1) (T := TX6) d hM rfl inX6 (by decide) (by rw [hy]; exact pl 102 (by decide +kernel)) rfl k9
theorem g_X5_107 {a : Nat} {f0 f1 f2 f3 f4 f5 f6 f7 : Value} (hy : mi.y.cls = RX5) (d : decode mi.cc pc = .ok (.getfield 107, 3)) (hM : M[a]? = some (ob 2 [f0, f1, f2, f3, f4, f5, f6, f7])) (k9 : V E R mi fin K N M (pc + 3) L (f6 :: st)) : V E R mi fin K N M pc L (rr E a :: st) := v_getn (host := "AirIndex") (k := 6) (T := TX2) d hM rfl inX2 (by decide) (by rw [hy]; exact pl 229 (by decide +kernel)) rfl k9
theorem g_X5_110 {a : Nat} {f0 f1 f2 f3 f4 f5 f6 f7 : Value} (hy : mi.y.cls = RX5) (d : decode mi.cc pc = .ok (.getfield 110, 3)) (hM : M[a]? = some (ob 2 [f0, f1, f2, f3, f4, f5, f6, f7])) (k9 : V E R mi fin K N M (pc + 3) L (f5 :: st)) : V E R mi fin K N M pc L (rr E a :: st) := v_getn (host := "AirIndex") (k := 5) (T := TX2) d hM rfl inX2 (by decide) (by rw [hy]; exact pl 226 (by decide +kernel)) rfl k9
theorem g_X5_113 {a : Nat} {f0 f1 f2 f3 f4 : Value} (hy : mi.y.cls = RX5) (d : decode mi.cc pc = .ok (.getfield 113, 3)) (hM : M[a]? = some (ob 6 [f0, f1, f2, f3, f4])) (k9 : V E R mi fin K N M (pc + 3) L (f4 :: st)) : V E R mi fin K N M pc L (rr E a :: st) := v_getn (host := "AirIndex") (k := 4) (T := TX6) d hM rfl inX6 (by decide) (by rw [hy]; exact pl 107 (by decide +kernel)) rfl k9
theorem g_X5_126 {a : Nat} {f0 f1 f2 f3 f4 f5 f6 f7 : Value} (hy : mi.y.cls = RX5) (d : decode mi.cc pc = .ok (.getfield 126, 3)) (hM : M[a]? = some (ob 2 [f0, f1, f2, f3, f4, f5, f6, f7])) (k9 : V E R mi fin K N M (pc + 3) L (f7 :: st)) : V E R mi fin K N M pc L (rr E a :: st) := v_getn (host := "AirIndex") (k := 7) (T := TX2) d hM rfl inX2 (by decide) (by rw [hy]; exact pl 232 (by decide +kernel)) rfl k9
theorem g_X5_141 {a : Nat} {f0 f1 f2 f3 f4 : Value} (hy : mi.y.cls = RX5) (d : decode mi.cc pc = .ok (.getfield 141, 3)) (hM : M[a]? = some (ob 6 [f0, f1, f2, f3, f4])) (k9 : V E R mi fin K N M (pc + 3) L (f2 :: st)) : V E R mi fin K N M pc L (rr E a :: st) := v_getn (host := "AirIndex") (k := 2) (T := TX6) d hM rfl inX6 (by decide) (by rw [hy]; exact pl 104 (by decide +kernel)) rfl k9
theorem g_X6_9 {a : Nat} {f0 f1 f2 f3 f4 : Value} (hy : mi.y.cls = RX6) (d : decode mi.cc pc = .ok (.getfield 9, 3)) (hM : M[a]? = some (ob 6 [f0, f1, f2, f3, f4])) (k9 : V E R mi fin K N M (pc + 3) L (f0 :: st)) : V E R mi fin K N M pc L (rr E a :: st) := v_getf (k := 0) (T := TX6) d hM rfl inX6 (by decide) (by rw [hy]; exact pl 100 (by decide +kernel)) rfl k9
theorem g_X6_15 {a : Nat} {f0 f1 f2 f3 f4 : Value} (hy : mi.y.cls = RX6) (d : decode mi.cc pc = .ok (.getfield 15, 3)) (hM : M[a]? = some (ob 6 [f0, f1, f2, f3, f4])) (k9 : V E R mi fin K N M (pc + 3) L (f3 :: st)) : V E R mi fin K N M pc L (rr E a :: st) := v_getf (k := 3) (T := TX6) d hM rfl inX6 (by decide) (by rw [hy]; exact pl 105 (by decide +kernel)) rfl k9
theorem g_X6_25 {a : Nat} {f0 f1 : Value} (hy : mi.y.cls = RX6) (d : decode mi.cc pc = .ok (.getfield 25, 3)) (hM : M[a]? = some (ob 4 [f0, f1])) (k9 : V E R mi fin K N M (pc + 3) L (f1 :: st)) : V E R mi fin K N M pc L (rr E a :: st) := v_getn (host := "AirIndex") (k := 1) (T := TX4) d hM rfl inX4 (by decide) (by rw [hy]; exact pl 81 (by decide +kernel)) rfl k9
theorem g_X6_36 {a : Nat} {f0 f1 f2 f3 f4 : Value} (hy : mi.y.cls = RX6) (d : decode mi.cc pc = .ok (.getfield 36, 3)) (hM : M[a]? = some (ob 6 [f0, f1, f2, f3, f4])) (k9 : V E R mi fin K N M (pc + 3) L (f2 :: st)) : V E R mi fin K N M pc L (rr E a :: st) := v_getf (k := 2) (T := TX6) d hM rfl inX6 (by decide) (by rw [hy]; exact pl 103 (by decide +kernel)) rfl k9
theorem g_X6_39 {a : Nat} {f0 f1 f2 f3 f4 : Value} (hy : mi.y.cls = RX6) (d : decode mi.cc pc = .ok (.getfield 39, 3)) (hM : M[a]? = some (ob 6 [f0, f1, f2, f3, f4])) (k9 : V E R mi fin K N M (pc + 3) L (f1 :: st)) : V E R mi fin K N M pc L (rr E a :: st) := v_getf (k := 1) (T := TX6) d hM rfl inX6 (by decide) (by rw [hy]; exact pl 101 (by decide +kernel)) rfl k9
theorem g_X6_58 {a : Nat} {f0 f1 : Value} (hy : mi.y.cls = RX6) (d : decode mi.cc pc = .ok (.getfield 58, 3)) (hM : M[a]? = some (ob 4 [f0, f1])) (k9 : V E R mi fin K N M (pc + 3) L (f0 :: st)) : V E R mi fin K N M pc L (rr E a :: st) := v_getn (host := "AirIndex") (k := 0) (T := TX4) d hM rfl inX4 (by decide) (by rw [hy]; exact pl 78 (by decide +kernel)) rfl k9
theorem g_X6_62 {a : Nat} {f0 f1 f2 f3 f4 : Value} (hy : mi.y.cls = RX6) (d : decode mi.cc pc = .ok (.getfield 62, 3)) (hM : M[a]? = some (ob 6 [f0, f1, f2, f3, f4])) (k9 : V E R mi fin K N M (pc + 3) L (f4 :: st)) : V E R mi fin K N M pc L (rr E a :: st) := v_getf (k := 4) (T := TX6) d hM rfl inX6 (by decide) (by rw [hy]; exact pl 106 (by decide +kernel)) rfl k9
theorem g_X8_7 {a : Nat} {f0 f1 f2 f3 f4 f5 f6 f7 f8 f9 f10 f11 f12 f13 f14 f15 f16 f17 : Value} (hy : mi.y.cls = RX8) (d : decode mi.cc pc = .ok (.getfield 7, 3)) (hM : M[a]? = some (ob 8 [f0, f1, f2, f3, f4, f5, f6, f7, f8, f9, f10, f11, f12, f13, f14, f15, f16, f17])) (k9 : V E R mi fin K N M (pc + 3) L (f1 :: st)) : V E R mi fin K N M pc L (rr E a :: st) := v_getf (k := 1) (T := TX8) d hM rfl inX8 (by decide) (by rw [hy]; exact pl 673 (by decide +kernel)) rfl k9
theorem g_X8_11 {a : Nat} {f0 f1 f2 f3 f4 f5 f6 f7 f8 f9 f10 f11 f12 f13 f14 f15 f16 f17 : Value} (hy : mi.y.cls = RX8) (d : decode mi.cc pc = .ok (.getfield 11, 3)) (hM : M[a]? = some (ob 8 [f0, f1, f2, f3, f4, f5, f6, f7, f8, f9, f10, f11, f12, f13, f14, f15, f16, f17])) (k9 : V E R mi fin K N M (pc + 3) L (f2 :: st)) : V E R mi fin K N M pc L (rr E a :: st) := v_getf (k := 2) (T := TX8) d hM rfl inX8 (by decide) (by rw [hy]; exact pl 674 (by decide +kernel)) rfl k9
theorem g_X8_18 {a : Nat} {f0 f1 f2 f3 f4 f5 f6 f7 f8 f9 f10 f11 f12 f13 f14 f15 f16 f17 : Value} (hy : mi.y.cls = RX8) (d : decode mi.cc pc = .ok (.getfield 18, 3)) (hM : M[a]? = some (ob 8 [f0, f1, f2, f3, f4, f5, f6, f7, f8, f9, f10, f11, f12, f13, f14, f15, f16, f17])) (k9 : V E R mi fin K N M (pc + 3) L (f3 :: st)) : V E R mi fin K N M pc L (rr E a :: st) := v_getf (k := 3) (T := TX8) d hM rfl inX8 (by decide) (by rw [hy]; exact pl 675 (by decide +kernel)) rfl k9
theorem g_X8_21 {a : Nat} {f0 f1 f2 f3 f4 f5 f6 f7 f8 f9 f10 f11 f12 f13 f14 f15 f16 f17 : Value} (hy : mi.y.cls = RX8) (d : decode mi.cc pc = .ok (.getfield 21, 3)) (hM : M[a]? = some (ob 8 [f0, f1, f2, f3, f4, f5, f6, f7, f8, f9, f10, f11, f12, f13, f14, f15, f16, f17])) (k9 : V E R mi fin K N M (pc + 3) L (f4 :: st)) : V E R mi fin K N M pc L (rr E a :: st) := v_getf (k := 4) (T := TX8) d hM rfl inX8 (by decide) (by rw [hy]; exact pl 676 (by decide +kernel)) rfl k9
theorem g_X8_24 {a : Nat} {f0 f1 f2 f3 f4 f5 f6 f7 f8 f9 f10 f11 f12 f13 f14 f15 f16 f17 : Value} (hy : mi.y.cls = RX8) (d : decode mi.cc pc = .ok (.getfield 24, 3)) (hM : M[a]? = some (ob 8 [f0, f1, f2, f3, f4, f5, f6, f7, f8, f9, f10, f11, f12, f13, f14, f15, f16, f17])) (k9 : V E R mi fin K N M (pc + 3) L (f5 :: st)) : V E R mi fin K N M pc L (rr E a :: st) := v_getf (k := 5) (T := TX8) d hM rfl inX8 (by decide) (by rw [hy]; exact pl 677 (by decide +kernel)) rfl k9
theorem g_X8_27 {a : Nat} {f0 f1 f2 f3 f4 f5 f6 f7 f8 f9 f10 f11 f12 f13 f14 f15 f16 f17 : Value} (hy : mi.y.cls = RX8) (d : decode mi.cc pc = .ok (.getfield 27, 3)) (hM : M[a]? = some (ob 8 [f0, f1, f2, f3, f4, f5, f6, f7, f8, f9, f10, f11, f12, f13, f14, f15, f16, f17])) (k9 : V E R mi fin K N M (pc + 3) L (f6 :: st)) : V E R mi fin K N M pc L (rr E a :: st) := v_getf (k := 6) (T := TX8) d hM rfl inX8 (by decide) (by rw [hy]; exact pl 678 (by decide +kernel)) rfl k9
theorem g_X8_37 {a : Nat} {f0 f1 f2 f3 f4 f5 f6 f7 f8 f9 f10 f11 f12 f13 f14 f15 f16 f17 : Value} (hy : mi.y.cls = RX8) (d : decode mi.cc pc = .ok (.getfield 37, 3)) (hM : M[a]? = some (ob 8 [f0, f1, f2, f3, f4, f5, f6, f7, f8, f9, f10, f11, f12, f13, f14, f15, f16, f17])) (k9 : V E R mi fin K N M (pc + 3) L (f10 :: st)) : V E R mi fin K N M pc L (rr E a :: st) := v_getf (k := 10) (T := TX8) d hM rfl inX8 (by decide) (by rw [hy]; exact pl 682 (by decide +kernel)) rfl k9
theorem g_X8_41 {a : Nat} {f0 f1 f2 f3 f4 f5 f6 f7 f8 f9 f10 f11 f12 f13 f14 f15 f16 f17 : Value} (hy : mi.y.cls = RX8) (d : decode mi.cc pc = .ok (.getfield 41, 3)) (hM : M[a]? = some (ob 8 [f0, f1, f2, f3, f4, f5, f6, f7, f8, f9, f10, f11, f12, f13, f14, f15, f16, f17])) (k9 : V E R mi fin K N M (pc + 3) L (f7 :: st)) : V E R mi fin K N M pc L (rr E a :: st) := v_getf (k := 7) (T := TX8) d hM rfl inX8 (by decide) (by rw [hy]; exact pl 679 (by decide +kernel)) rfl k9
theorem g_X8_62 {a : Nat} {f0 f1 f2 f3 f4 f5 f6 f7 f8 f9 f10 f11 f12 f13 f14 f15 f16 f17 : Value} (hy : mi.y.cls = RX8) (d : decode mi.cc pc = .ok (.getfield 62, 3)) (hM : M[a]? = some (ob 8 [f0, f1, f2, f3, f4, f5, f6, f7, f8, f9, f10, f11, f12, f13, f14, f15, f16, f17])) (k9 : V E R mi fin K N M (pc + 3) L (f8 :: st)) : V E R mi fin K N M pc L (rr E a :: st) := v_getf (k := 8) (T := TX8) d hM rfl inX8 (by decide) (by rw [hy]; exact pl 680 (by decide +kernel)) rfl k9
theorem g_X8_65 {a : Nat} {f0 f1 f2 f3 f4 f5 f6 f7 f8 f9 f10 f11 f12 f13 f14 f15 f16 f17 : Value} (hy : mi.y.cls = RX8) (d : decode mi.cc pc = .ok (.getfield 65, 3)) (hM : M[a]? = some (ob 8 [f0, f1, f2, f3, f4, f5, f6, f7, f8, f9, f10, f11, f12, f13, f14, f15, f16, f17])) (k9 : V E R mi fin K N M (pc + 3) L (f9 :: st)) : V E R mi fin K N M pc L (rr E a :: st) := v_getf (k := 9) (T := TX8) d hM rfl inX8 (by decide) (by rw [hy]; exact pl 681 (by decide +kernel)) rfl k9
theorem g_X8_74 {a : Nat} {f0 f1 f2 f3 f4 f5 f6 f7 f8 f9 f10 f11 f12 f13 f14 f15 f16 f17 : Value} (hy : mi.y.cls = RX8) (d : decode mi.cc pc = .ok (.getfield 74, 3)) (hM : M[a]? = some (ob 8 [f0, f1, f2, f3, f4, f5, f6, f7, f8, f9, f10, f11, f12, f13, f14, f15, f16, f17])) (k9 : V E R mi fin K N M (pc + 3) L (f11 :: st)) : V E R mi fin K N M pc L (rr E a :: st) := v_getf (k := 11) (T := TX8) d hM rfl inX8 (by decide) (by rw [hy]; exact pl 683 (by decide +kernel)) rfl k9
theorem g_X8_77 {a : Nat} {f0 f1 f2 f3 f4 f5 f6 f7 f8 f9 f10 f11 f12 f13 f14 f15 f16 f17 : Value} (hy : mi.y.cls = RX8) (d : decode mi.cc pc = .ok (.getfield 77, 3)) (hM : M[a]? = some (ob 8 [f0, f1, f2, f3, f4, f5, f6, f7, f8, f9, f10, f11, f12, f13, f14, f15, f16, f17])) (k9 : V E R mi fin K N M (pc + 3) L (f12 :: st)) : V E R mi fin K N M pc L (rr E a :: st) := v_getf (k := 12) (T := TX8) d hM rfl inX8 (by decide) (by rw [hy]; exact pl 684 (by decide +kernel)) rfl k9
theorem g_X8_80 {a : Nat} {f0 f1 f2 f3 f4 f5 f6 f7 f8 f9 f10 f11 f12 f13 f14 f15 f16 f17 : Value} (hy : mi.y.cls = RX8) (d : decode mi.cc pc = .ok (.getfield 80, 3)) (hM : M[a]? = some (ob 8 [f0, f1, f2, f3, f4, f5, f6, f7, f8, f9, f10, f11, f12, f13, f14, f15, f16, f17])) (k9 : V E R mi fin K N M (pc + 3) L (f13 :: st)) : V E R mi fin K N M pc L (rr E a :: st) := v_getf (k := 13) (T := TX8) d hM rfl inX8 (by decide) (by rw [hy]; exact pl 685 (by decide +kernel)) rfl k9
theorem g_X8_83 {a : Nat} {f0 f1 f2 f3 f4 f5 f6 f7 f8 f9 f10 f11 f12 f13 f14 f15 f16 f17 : Value} (hy : mi.y.cls = RX8) (d : decode mi.cc pc = .ok (.getfield 83, 3)) (hM : M[a]? = some (ob 8 [f0, f1, f2, f3, f4, f5, f6, f7, f8, f9, f10, f11, f12, f13, f14, f15, f16, f17])) (k9 : V E R mi fin K N M (pc + 3) L (f17 :: st)) : V E R mi fin K N M pc L (rr E a :: st) := v_getf (k := 17) (T := TX8) d hM rfl inX8 (by decide) (by rw [hy]; exact pl 689 (by decide +kernel)) rfl k9
theorem g_X8_128 {a : Nat} {f0 f1 f2 f3 f4 f5 f6 f7 f8 f9 f10 f11 f12 f13 f14 f15 f16 f17 : Value} (hy : mi.y.cls = RX8) (d : decode mi.cc pc = .ok (.getfield 128, 3)) (hM : M[a]? = some (ob 8 [f0, f1, f2, f3, f4, f5, f6, f7, f8, f9, f10, f11, f12, f13, f14, f15, f16, f17])) (k9 : V E R mi fin K N M (pc + 3) L (f15 :: st)) : V E R mi fin K N M pc L (rr E a :: st) := v_getf (k := 15) (T := TX8) d hM rfl inX8 (by decide) (by rw [hy]; exact pl 687 (by decide +kernel)) rfl k9
theorem g_X8_139 {a : Nat} {f0 f1 f2 f3 f4 f5 f6 f7 f8 f9 f10 f11 f12 f13 f14 f15 f16 f17 : Value} (hy : mi.y.cls = RX8) (d : decode mi.cc pc = .ok (.getfield 139, 3)) (hM : M[a]? = some (ob 8 [f0, f1, f2, f3, f4, f5, f6, f7, f8, f9, f10, f11, f12, f13, f14, f15, f16, f17])) (k9 : V E R mi fin K N M (pc + 3) L (f16 :: st)) : V E R mi fin K N M pc L (rr E a :: st) := v_getf (k := 16) (T := TX8) d hM rfl inX8 (by decide) (by rw [hy]; exact pl 688 (by decide +kernel)) rfl k9
theorem g_X8_154 {a : Nat} {f0 f1 f2 f3 f4 f5 f6 f7 f8 f9 f10 f11 f12 f13 f14 f15 f16 f17 : Value} (hy : mi.y.cls = RX8) (d : decode mi.cc pc = .ok (.getfield 154, 3)) (hM : M[a]? = some (ob 8 [f0, f1, f2, f3, f4, f5, f6, f7, f8, f9, f10, f11, f12, f13, f14, f15, f16, f17])) (k9 : V E R mi fin K N M (pc + 3) L (f14 :: st)) : V E R mi fin K N M pc L (rr E a :: st) := v_getf (k := 14) (T := TX8) d hM rfl inX8 (by decide) (by rw [hy]; exact pl 686 (by decide +kernel)) rfl k9
theorem p_X7_10 {a : Nat} {f0 f1 f2 f3 f4 : Value} {r : Option Nat} (hy : mi.y.cls = RX7) (hi : mi.y.name = "<init>") (d : decode mi.cc pc = .ok (.putfield 10, 3)) (hM : M[a]? = some (ob 7 [f0, f1, f2, f3, f4])) (k9 : V E R mi fin K N (M.set a (ob 7 [ro E r, f1, f2, f3, f4])) (pc + 3) L st) : V E R mi fin K N M pc L (ro E r :: rr E a :: st) := v_putF (k := 0) (T := TX7) (ty0 := tyX7) d hM rfl inX7 tyX7_ok nmX7 (by decide) (by rw [hy]; exact pl 270 (by decide +kernel)) rfl hi (by rw [hy]; rfl) (by cases r <;> rfl) (by cases r <;> rfl) (Nat.le_of_ble_eq_true rfl) k9
theorem p_X7_21 {a : Nat} {f0 f1 f2 f3 f4 : Value} {r : Option Nat} (hy : mi.y.cls = RX7) (hi : mi.y.name = "<init>") (d : decode mi.cc pc = .ok (.putfield 21, 3)) (hM : M[a]? = some (ob 7 [f0, f1, f2, f3, f4])) (k9 : V E R mi fin K N (M.set a (ob 7 [f0, ro E r, f2, f3, f4])) (pc + 3) L st) : V E R mi fin K N M pc L (ro E r :: rr E a :: st) := v_putF (k := 1) (T := TX7) (ty0 := tyX7) d hM rfl inX7 tyX7_ok nmX7 (by decide) (by rw [hy]; exact pl 271 (by decide +kernel)) rfl hi (by rw [hy]; rfl) (by cases r <;> rfl) (by cases r <;> rfl) (Nat.le_of_ble_eq_true rfl) k9
theorem p_X7_28 {a : Nat} {f0 f1 f2 f3 f4 : Value} {r : Option Nat} (hy : mi.y.cls = RX7) (hi : mi.y.name = "<init>") (d : decode mi.cc pc = .ok (.putfield 28, 3)) (hM : M[a]? = some (ob 7 [f0, f1, f2, f3, f4])) (k9 : V E R mi fin K N (M.set a (ob 7 [f0, f1, ro E r, f3, f4])) (pc + 3) L st) : V E R mi fin K N M pc L (ro E r :: rr E a :: st) := v_putF (k := 2) (T := TX7) (ty0 := tyX7) d hM rfl inX7 tyX7_ok nmX7 (by decide) (by rw [hy]; exact pl 272 (by decide +kernel)) rfl hi (by rw [hy]; rfl) (by cases r <;> rfl) (by cases r <;> rfl) (Nat.le_of_ble_eq_true rfl) k9
theorem p_X7_35 {a : Nat} {f0 f1 f2 f3 f4 : Value} {r : Option Nat} (hy : mi.y.cls = RX7) (d : decode mi.cc pc = .ok (.putfield 35, 3)) (hM : M[a]? = some (ob 7 [f0, f1, f2, f3, f4])) (k9 : V E R mi fin K N (M.set a (ob 7 [f0, f1, f2, ro E r, f4])) (pc + 3) L st) : V E R mi fin K N M pc L (ro E r :: rr E a :: st) := v_putf (k := 3) (T := TX7) (ty0 := tyX7) d hM rfl inX7 tyX7_ok nmX7 (by decide) (by rw [hy]; exact pl 273 (by decide +kernel)) rfl (by cases r <;> rfl) (by cases r <;> rfl) (Nat.le_of_ble_eq_true rfl) k9
theorem p_X7_39 {a : Nat} {f0 f1 f2 f3 f4 : Value} {r : Option Nat} (hy : mi.y.cls = RX7) (d : decode mi.cc pc = .ok (.putfield 39, 3)) (hM : M[a]? = some (ob 7 [f0, f1, f2, f3, f4])) (k9 : V E R mi fin K N (M.set a (ob 7 [f0, f1, f2, f3, ro E r])) (pc + 3) L st) : V E R mi fin K N M pc L (ro E r :: rr E a :: st) := v_putf (k := 4) (T := TX7) (ty0 := tyX7) d hM rfl inX7 tyX7_ok nmX7 (by decide) (by rw [hy]; exact pl 274 (by decide +kernel)) rfl (by cases r <;> rfl) (by cases r <;> rfl) (Nat.le_of_ble_eq_true rfl) k9
theorem p_X7_94 {a : Nat} {f0 f1 f2 f3 f4 f5 f6 f7 : Value} {x : Int} (hy : mi.y.cls = RX7) (d : decode mi.cc pc = .ok (.putfield 94, 3)) (hM : M[a]? = some (ob 2 [f0, f1, f2, f3, f4, f5, f6, f7])) (k9 : V E R mi fin K N (M.set a (ob 2 [f0, f1, f2, f3, f4, f5, f6, iv x])) (pc + 3) L st) : V E R mi fin K N M pc L (iv x :: rr E a :: st) := v_putn (host := "AirIndex") (k := 7) (T := TX2) (ty0 := tyX2) d hM rfl inX2 tyX2_ok nmX2 (by decide) (by rw [hy]; exact pl 231 (by decide +kernel)) rfl rfl rfl (Nat.le_of_ble_eq_true rfl) k9
theorem p_X7_107 {a : Nat} {f0 f1 f2 f3 f4 f5 f6 f7 : Value} {x : Int} (hy : mi.y.cls = RX7) (d : decode mi.cc pc = .ok (.putfield 107, 3)) (hM : M[a]? = some (ob 2 [f0, f1, f2, f3, f4, f5, f6, f7])) (k9 : V E R mi fin K N (M.set a (ob 2 [f0, f1, f2, f3, iv x, f5, f6, f7])) (pc + 3) L st) : V E R mi fin K N M pc L (iv x :: rr E a :: st) := v_putn (host := "AirIndex") (k := 4) (T := TX2) (ty0 := tyX2) d hM rfl inX2 tyX2_ok nmX2 (by decide) (by rw [hy]; exact pl 223 (by decide +kernel)) rfl rfl rfl (Nat.le_of_ble_eq_true rfl) k9
theorem p_X7_181 {a : Nat} {f0 f1 f2 f3 f4 f5 : Value} {x : Int} (hy : mi.y.cls = RX7) (d : decode mi.cc pc = .ok (.putfield 181, 3)) (hM : M[a]? = some (ob 0 [f0, f1, f2, f3, f4, f5])) (k9 : V E R mi fin K N (M.set a (ob 0 [f0, iv x, f2, f3, f4, f5])) (pc + 3) L st) : V E R mi fin K N M pc L (iv x :: rr E a :: st) := v_putn (host := "AirIndex") (k := 1) (T := TX0) (ty0 := tyX0) d hM rfl inX0 tyX0_ok nmX0 (by decide) (by rw [hy]; exact pl 156 (by decide +kernel)) rfl rfl rfl (Nat.le_of_ble_eq_true rfl) k9
theorem p_X7_186 {a : Nat} {f0 f1 f2 f3 f4 f5 : Value} {x : Int} (hy : mi.y.cls = RX7) (d : decode mi.cc pc = .ok (.putfield 186, 3)) (hM : M[a]? = some (ob 0 [f0, f1, f2, f3, f4, f5])) (k9 : V E R mi fin K N (M.set a (ob 0 [f0, f1, iv x, f3, f4, f5])) (pc + 3) L st) : V E R mi fin K N M pc L (iv x :: rr E a :: st) := v_putn (host := "AirIndex") (k := 2) (T := TX0) (ty0 := tyX0) d hM rfl inX0 tyX0_ok nmX0 (by decide) (by rw [hy]; exact pl 157 (by decide +kernel)) rfl rfl rfl (Nat.le_of_ble_eq_true rfl) k9
theorem p_X7_189 {a : Nat} {f0 f1 f2 f3 f4 f5 : Value} {x : Int} (hy : mi.y.cls = RX7) (d : decode mi.cc pc = .ok (.putfield 189, 3)) (hM : M[a]? = some (ob 0 [f0, f1, f2, f3, f4, f5])) (k9 : V E R mi fin K N (M.set a (ob 0 [f0, f1, f2, iv x, f4, f5])) (pc + 3) L st) : V E R mi fin K N M pc L (iv x :: rr E a :: st) := v_putn (host := "AirIndex") (k := 3) (T := TX0) (ty0 := tyX0) d hM rfl inX0 tyX0_ok nmX0 (by decide) (by rw [hy]; exact pl 158 (by decide +kernel)) rfl rfl rfl (Nat.le_of_ble_eq_true rfl) k9
theorem p_X7_192 {a : Nat} {f0 f1 f2 f3 f4 f5 : Value} {x : Int} (hy : mi.y.cls = RX7) (d : decode mi.cc pc = .ok (.putfield 192, 3)) (hM : M[a]? = some (ob 0 [f0, f1, f2, f3, f4, f5])) (k9 : V E R mi fin K N (M.set a (ob 0 [f0, f1, f2, f3, iv x, f5])) (pc + 3) L st) : V E R mi fin K N M pc L (iv x :: rr E a :: st) := v_putn (host := "AirIndex") (k := 4) (T := TX0) (ty0 := tyX0) d hM rfl inX0 tyX0_ok nmX0 (by decide) (by rw [hy]; exact pl 159 (by decide +kernel)) rfl rfl rfl (Nat.le_of_ble_eq_true rfl) k9
theorem p_X7_200 {a : Nat} {f0 f1 f2 f3 f4 : Value} {x : Int} (hy : mi.y.cls = RX7) (d : decode mi.cc pc = .ok (.putfield 200, 3)) (hM : M[a]? = some (ob 3 [f0, f1, f2, f3, f4])) (k9 : V E R mi fin K N (M.set a (ob 3 [f0, f1, f2, iv x, f4])) (pc + 3) L st) : V E R mi fin K N M pc L (iv x :: rr E a :: st) := v_putn (host := "AirIndex") (k := 3) (T := TX3) (ty0 := tyX3) d hM rfl inX3 tyX3_ok nmX3 (by decide) (by rw [hy]; exact pl 202 (by decide +kernel)) rfl rfl rfl (Nat.le_of_ble_eq_true rfl) k9
theorem p_X7_203 {a : Nat} {f0 f1 f2 f3 f4 : Value} {x : Int} (hy : mi.y.cls = RX7) (d : decode mi.cc pc = .ok (.putfield 203, 3)) (hM : M[a]? = some (ob 3 [f0, f1, f2, f3, f4])) (k9 : V E R mi fin K N (M.set a (ob 3 [f0, f1, f2, f3, iv x])) (pc + 3) L st) : V E R mi fin K N M pc L (iv x :: rr E a :: st) := v_putn (host := "AirIndex") (k := 4) (T := TX3) (ty0 := tyX3) d hM rfl inX3 tyX3_ok nmX3 (by decide) (by rw [hy]; exact pl 204 (by decide +kernel)) rfl rfl rfl (Nat.le_of_ble_eq_true rfl) k9
theorem p_X7_206 {a : Nat} {f0 f1 f2 f3 f4 f5 : Value} {x : Int} (hy : mi.y.cls = RX7) (d : decode mi.cc pc = .ok (.putfield 206, 3)) (hM : M[a]? = some (ob 0 [f0, f1, f2, f3, f4, f5])) (k9 : V E R mi fin K N (M.set a (ob 0 [f0, f1, f2, f3, f4, iv x])) (pc + 3) L st) : V E R mi fin K N M pc L (iv x :: rr E a :: st) := v_putn (host := "AirIndex") (k := 5) (T := TX0) (ty0 := tyX0) d hM rfl inX0 tyX0_ok nmX0 (by decide) (by rw [hy]; exact pl 160 (by decide +kernel)) rfl rfl rfl (Nat.le_of_ble_eq_true rfl) k9
theorem p_X1_11 {a : Nat} {f0 f1 : Value} {r : Option Nat} (hy : mi.y.cls = RX1) (hi : mi.y.name = "<init>") (d : decode mi.cc pc = .ok (.putfield 11, 3)) (hM : M[a]? = some (ob 1 [f0, f1])) (k9 : V E R mi fin K N (M.set a (ob 1 [ro E r, f1])) (pc + 3) L st) : V E R mi fin K N M pc L (ro E r :: rr E a :: st) := v_putF (k := 0) (T := TX1) (ty0 := tyX1) d hM rfl inX1 tyX1_ok nmX1 (by decide) (by rw [hy]; exact pl 174 (by decide +kernel)) rfl hi (by rw [hy]; rfl) (by cases r <;> rfl) (by cases r <;> rfl) (Nat.le_of_ble_eq_true rfl) k9
theorem p_X1_18 {a : Nat} {f0 f1 : Value} {x : Int} (hy : mi.y.cls = RX1) (d : decode mi.cc pc = .ok (.putfield 18, 3)) (hM : M[a]? = some (ob 1 [f0, f1])) (k9 : V E R mi fin K N (M.set a (ob 1 [f0, iv x])) (pc + 3) L st) : V E R mi fin K N M pc L (iv x :: rr E a :: st) := v_putf (k := 1) (T := TX1) (ty0 := tyX1) d hM rfl inX1 tyX1_ok nmX1 (by decide) (by rw [hy]; exact pl 175 (by decide +kernel)) rfl rfl rfl (Nat.le_of_ble_eq_true rfl) k9
theorem p_X1_25 {a : Nat} {f0 f1 f2 f3 f4 f5 : Value} {x : Int} (hy : mi.y.cls = RX1) (d : decode mi.cc pc = .ok (.putfield 25, 3)) (hM : M[a]? = some (ob 0 [f0, f1, f2, f3, f4, f5])) (k9 : V E R mi fin K N (M.set a (ob 0 [iv x, f1, f2, f3, f4, f5])) (pc + 3) L st) : V E R mi fin K N M pc L (iv x :: rr E a :: st) := v_putn (host := "AirIndex") (k := 0) (T := TX0) (ty0 := tyX0) d hM rfl inX0 tyX0_ok nmX0 (by decide) (by rw [hy]; exact pl 154 (by decide +kernel)) rfl rfl rfl (Nat.le_of_ble_eq_true rfl) k9
theorem p_X2_9 {a : Nat} {f0 f1 f2 f3 f4 f5 f6 f7 : Value} {r : Option Nat} (hy : mi.y.cls = RX2) (hi : mi.y.name = "<init>") (d : decode mi.cc pc = .ok (.putfield 9, 3)) (hM : M[a]? = some (ob 2 [f0, f1, f2, f3, f4, f5, f6, f7])) (k9 : V E R mi fin K N (M.set a (ob 2 [ro E r, f1, f2, f3, f4, f5, f6, f7])) (pc + 3) L st) : V E R mi fin K N M pc L (ro E r :: rr E a :: st) := v_putF (k := 0) (T := TX2) (ty0 := tyX2) d hM rfl inX2 tyX2_ok nmX2 (by decide) (by rw [hy]; exact pl 217 (by decide +kernel)) rfl hi (by rw [hy]; rfl) (by cases r <;> rfl) (by cases r <;> rfl) (Nat.le_of_ble_eq_true rfl) k9
theorem p_X2_17 {a : Nat} {f0 f1 f2 f3 f4 f5 f6 f7 : Value} {r : Option Nat} (hy : mi.y.cls = RX2) (hi : mi.y.name = "<init>") (d : decode mi.cc pc = .ok (.putfield 17, 3)) (hM : M[a]? = some (ob 2 [f0, f1, f2, f3, f4, f5, f6, f7])) (k9 : V E R mi fin K N (M.set a (ob 2 [f0, ro E r, f2, f3, f4, f5, f6, f7])) (pc + 3) L st) : V E R mi fin K N M pc L (ro E r :: rr E a :: st) := v_putF (k := 1) (T := TX2) (ty0 := tyX2) d hM rfl inX2 tyX2_ok nmX2 (by decide) (by rw [hy]; exact pl 218 (by decide +kernel)) rfl hi (by rw [hy]; rfl) (by cases r <;> rfl) (by cases r <;> rfl) (Nat.le_of_ble_eq_true rfl) k9
theorem p_X2_21 {a : Nat} {f0 f1 f2 f3 f4 f5 f6 f7 : Value} {r : Option Nat} (hy : mi.y.cls = RX2) (hi : mi.y.name = "<init>") (d : decode mi.cc pc = .ok (.putfield 21, 3)) (hM : M[a]? = some (ob 2 [f0, f1, f2, f3, f4, f5, f6, f7])) (k9 : V E R mi fin K N (M.set a (ob 2 [f0, f1, ro E r, f3, f4, f5, f6, f7])) (pc + 3) L st) : V E R mi fin K N M pc L (ro E r :: rr E a :: st) := v_putF (k := 2) (T := TX2) (ty0 := tyX2) d hM rfl inX2 tyX2_ok nmX2 (by decide) (by rw [hy]; exact pl 219 (by decide +kernel)) rfl hi (by rw [hy]; rfl) (by cases r <;> rfl) (by cases r <;> rfl) (Nat.le_of_ble_eq_true rfl) k9
theorem p_X2_26 {a : Nat} {f0 f1 f2 f3 f4 f5 f6 f7 : Value} {r : Option Nat} (hy : mi.y.cls = RX2) (hi : mi.y.name = "<init>") (d : decode mi.cc pc = .ok (.putfield 26, 3)) (hM : M[a]? = some (ob 2 [f0, f1, f2, f3, f4, f5, f6, f7])) (k9 : V E R mi fin K N (M.set a (ob 2 [f0, f1, f2, ro E r, f4, f5, f6, f7])) (pc + 3) L st) : V E R mi fin K N M pc L (ro E r :: rr E a :: st) := v_putF (k := 3) (T := TX2) (ty0 := tyX2) d hM rfl inX2 tyX2_ok nmX2 (by decide) (by rw [hy]; exact pl 220 (by decide +kernel)) rfl hi (by rw [hy]; rfl) (by cases r <;> rfl) (by cases r <;> rfl) (Nat.le_of_ble_eq_true rfl) k9
theorem p_X2_30 {a : Nat} {f0 f1 f2 f3 f4 f5 f6 f7 : Value} {x : Int} (hy : mi.y.cls = RX2) (d : decode mi.cc pc = .ok (.putfield 30, 3)) (hM : M[a]? = some (ob 2 [f0, f1, f2, f3, f4, f5, f6, f7])) (k9 : V E R mi fin K N (M.set a (ob 2 [f0, f1, f2, f3, iv x, f5, f6, f7])) (pc + 3) L st) : V E R mi fin K N M pc L (iv x :: rr E a :: st) := v_putf (k := 4) (T := TX2) (ty0 := tyX2) d hM rfl inX2 tyX2_ok nmX2 (by decide) (by rw [hy]; exact pl 221 (by decide +kernel)) rfl rfl rfl (Nat.le_of_ble_eq_true rfl) k9
theorem p_X2_34 {a : Nat} {f0 f1 f2 f3 f4 f5 f6 f7 : Value} {x : Int} (hy : mi.y.cls = RX2) (d : decode mi.cc pc = .ok (.putfield 34, 3)) (hM : M[a]? = some (ob 2 [f0, f1, f2, f3, f4, f5, f6, f7])) (k9 : V E R mi fin K N (M.set a (ob 2 [f0, f1, f2, f3, f4, iv x, f6, f7])) (pc + 3) L st) : V E R mi fin K N M pc L (iv x :: rr E a :: st) := v_putf (k := 5) (T := TX2) (ty0 := tyX2) d hM rfl inX2 tyX2_ok nmX2 (by decide) (by rw [hy]; exact pl 224 (by decide +kernel)) rfl rfl rfl (Nat.le_of_ble_eq_true rfl) k9
theorem p_X2_37 {a : Nat} {f0 f1 f2 f3 f4 f5 f6 f7 : Value} {x : Int} (hy : mi.y.cls = RX2) (d : decode mi.cc pc = .ok (.putfield 37, 3)) (hM : M[a]? = some (ob 2 [f0, f1, f2, f3, f4, f5, f6, f7])) (k9 : V E R mi fin K N (M.set a (ob 2 [f0, f1, f2, f3, f4, f5, iv x, f7])) (pc + 3) L st) : V E R mi fin K N M pc L (iv x :: rr E a :: st) := v_putf (k := 6) (T := TX2) (ty0 := tyX2) d hM rfl inX2 tyX2_ok nmX2 (by decide) (by rw [hy]; exact pl 227 (by decide +kernel)) rfl rfl rfl (Nat.le_of_ble_eq_true rfl) k9
theorem p_X2_40 {a : Nat} {f0 f1 f2 f3 f4 f5 f6 f7 : Value} {x : Int} (hy : mi.y.cls = RX2) (d : decode mi.cc pc = .ok (.putfield 40, 3)) (hM : M[a]? = some (ob 2 [f0, f1, f2, f3, f4, f5, f6, f7])) (k9 : V E R mi fin K N (M.set a (ob 2 [f0, f1, f2, f3, f4, f5, f6, iv x])) (pc + 3) L st) : V E R mi fin K N M pc L (iv x :: rr E a :: st) := v_putf (k := 7) (T := TX2) (ty0 := tyX2) d hM rfl inX2 tyX2_ok nmX2 (by decide) (by rw [hy]; exact pl 230 (by decide +kernel)) rfl rfl rfl (Nat.le_of_ble_eq_true rfl) k9
theorem p_X2_58 {a : Nat} {f0 f1 f2 f3 f4 : Value} {x : Int} (hy : mi.y.cls = RX2) (d : decode mi.cc pc = .ok (.putfield 58, 3)) (hM : M[a]? = some (ob 3 [f0, f1, f2, f3, f4])) (k9 : V E R mi fin K N (M.set a (ob 3 [f0, f1, f2, iv x, f4])) (pc + 3) L st) : V E R mi fin K N M pc L (iv x :: rr E a :: st) := v_putn (host := "AirIndex") (k := 3) (T := TX3) (ty0 := tyX3) d hM rfl inX3 tyX3_ok nmX3 (by decide) (by rw [hy]; exact pl 201 (by decide +kernel)) rfl rfl rfl (Nat.le_of_ble_eq_true rfl) k9
theorem p_X2_61 {a : Nat} {f0 f1 f2 f3 f4 : Value} {x : Int} (hy : mi.y.cls = RX2) (d : decode mi.cc pc = .ok (.putfield 61, 3)) (hM : M[a]? = some (ob 3 [f0, f1, f2, f3, f4])) (k9 : V E R mi fin K N (M.set a (ob 3 [f0, f1, f2, f3, iv x])) (pc + 3) L st) : V E R mi fin K N M pc L (iv x :: rr E a :: st) := v_putn (host := "AirIndex") (k := 4) (T := TX3) (ty0 := tyX3) d hM rfl inX3 tyX3_ok nmX3 (by decide) (by rw [hy]; exact pl 203 (by decide +kernel)) rfl rfl rfl (Nat.le_of_ble_eq_true rfl) k9
theorem p_X2_64 {a : Nat} {f0 f1 f2 f3 f4 : Value} {x : Int} (hy : mi.y.cls = RX2) (d : decode mi.cc pc = .ok (.putfield 64, 3)) (hM : M[a]? = some (ob 3 [f0, f1, f2, f3, f4])) (k9 : V E R mi fin K N (M.set a (ob 3 [f0, f1, iv x, f3, f4])) (pc + 3) L st) : V E R mi fin K N M pc L (iv x :: rr E a :: st) := v_putn (host := "AirIndex") (k := 2) (T := TX3) (ty0 := tyX3) d hM rfl inX3 tyX3_ok nmX3 (by decide) (by rw [hy]; exact pl 200 (by decide +kernel)) rfl rfl rfl (Nat.le_of_ble_eq_true rfl) k9
theorem p_X3_9 {a : Nat} {f0 f1 f2 f3 f4 : Value} {r : Option Nat} (hy : mi.y.cls = RX3) (hi : mi.y.name = "<init>") (d : decode mi.cc pc = .ok (.putfield 9, 3)) (hM : M[a]? = some (ob 3 [f0, f1, f2, f3, f4])) (k9 : V E R mi fin K N (M.set a (ob 3 [ro E r, f1, f2, f3, f4])) (pc + 3) L st) : V E R mi fin K N M pc L (ro E r :: rr E a :: st) := v_putF (k := 0) (T := TX3) (ty0 := tyX3) d hM rfl inX3 tyX3_ok nmX3 (by decide) (by rw [hy]; exact pl 197 (by decide +kernel)) rfl hi (by rw [hy]; rfl) (by cases r <;> rfl) (by cases r <;> rfl) (Nat.le_of_ble_eq_true rfl) k9
theorem p_X3_15 {a : Nat} {f0 f1 f2 f3 f4 : Value} {r : Option Nat} (hy : mi.y.cls = RX3) (hi : mi.y.name = "<init>") (d : decode mi.cc pc = .ok (.putfield 15, 3)) (hM : M[a]? = some (ob 3 [f0, f1, f2, f3, f4])) (k9 : V E R mi fin K N (M.set a (ob 3 [f0, ro E r, f2, f3, f4])) (pc + 3) L st) : V E R mi fin K N M pc L (ro E r :: rr E a :: st) := v_putF (k := 1) (T := TX3) (ty0 := tyX3) d hM rfl inX3 tyX3_ok nmX3 (by decide) (by rw [hy]; exact pl 198 (by decide +kernel)) rfl hi (by rw [hy]; rfl) (by cases r <;> rfl) (by cases r <;> rfl) (Nat.le_of_ble_eq_true rfl) k9
theorem p_X3_18 {a : Nat} {f0 f1 f2 f3 f4 : Value} {x : Int} (hy : mi.y.cls = RX3) (d : decode mi.cc pc = .ok (.putfield 18, 3)) (hM : M[a]? = some (ob 3 [f0, f1, f2, f3, f4])) (k9 : V E R mi fin K N (M.set a (ob 3 [f0, f1, iv x, f3, f4])) (pc + 3) L st) : V E R mi fin K N M pc L (iv x :: rr E a :: st) := v_putf (k := 2) (T := TX3) (ty0 := tyX3) d hM rfl inX3 tyX3_ok nmX3 (by decide) (by rw [hy]; exact pl 199 (by decide +kernel)) rfl rfl rfl (Nat.le_of_ble_eq_true rfl) k9
theorem p_X4_9 {a : Nat} {f0 f1 : Value} {r : Option Nat} (hy : mi.y.cls = RX4) (hi : mi.y.name = "<init>") (d : decode mi.cc pc = .ok (.putfield 9, 3)) (hM : M[a]? = some (ob 4 [f0, f1])) (k9 : V E R mi fin K N (M.set a (ob 4 [ro E r, f1])) (pc + 3) L st) : V E R mi fin K N M pc L (ro E r :: rr E a :: st) := v_putF (k := 0) (T := TX4) (ty0 := tyX4) d hM rfl inX4 tyX4_ok nmX4 (by decide) (by rw [hy]; exact pl 77 (by decide +kernel)) rfl hi (by rw [hy]; rfl) (by cases r <;> rfl) (by cases r <;> rfl) (Nat.le_of_ble_eq_true rfl) k9
theorem p_X4_15 {a : Nat} {f0 f1 : Value} {x : Int} (hy : mi.y.cls = RX4) (d : decode mi.cc pc = .ok (.putfield 15, 3)) (hM : M[a]? = some (ob 4 [f0, f1])) (k9 : V E R mi fin K N (M.set a (ob 4 [f0, iv x])) (pc + 3) L st) : V E R mi fin K N M pc L (iv x :: rr E a :: st) := v_putf (k := 1) (T := TX4) (ty0 := tyX4) d hM rfl inX4 tyX4_ok nmX4 (by decide) (by rw [hy]; exact pl 79 (by decide +kernel)) rfl rfl rfl (Nat.le_of_ble_eq_true rfl) k9
theorem p_X5_14 {a : Nat} {f0 f1 f2 f3 f4 f5 : Value} {r : Option Nat} (hy : mi.y.cls = RX5) (hi : mi.y.name = "<init>") (d : decode mi.cc pc = .ok (.putfield 14, 3)) (hM : M[a]? = some (ob 5 [f0, f1, f2, f3, f4, f5])) (k9 : V E R mi fin K N (M.set a (ob 5 [ro E r, f1, f2, f3, f4, f5])) (pc + 3) L st) : V E R mi fin K N M pc L (ro E r :: rr E a :: st) := v_putF (k := 0) (T := TX5) (ty0 := tyX5) d hM rfl inX5 tyX5_ok nmX5 (by decide) (by rw [hy]; exact pl 119 (by decide +kernel)) rfl hi (by rw [hy]; rfl) (by cases r <;> rfl) (by cases r <;> rfl) (Nat.le_of_ble_eq_true rfl) k9
theorem p_X5_20 {a : Nat} {f0 f1 f2 f3 f4 f5 : Value} {x : Int} (hy : mi.y.cls = RX5) (d : decode mi.cc pc = .ok (.putfield 20, 3)) (hM : M[a]? = some (ob 5 [f0, f1, f2, f3, f4, f5])) (k9 : V E R mi fin K N (M.set a (ob 5 [f0, iv x, f2, f3, f4, f5])) (pc + 3) L st) : V E R mi fin K N M pc L (iv x :: rr E a :: st) := v_putf (k := 1) (T := TX5) (ty0 := tyX5) d hM rfl inX5 tyX5_ok nmX5 (by decide) (by rw [hy]; exact pl 120 (by decide +kernel)) rfl rfl rfl (Nat.le_of_ble_eq_true rfl) k9
theorem p_X5_24 {a : Nat} {f0 f1 f2 f3 f4 f5 : Value} {x : Int} (hy : mi.y.cls = RX5) (d : decode mi.cc pc = .ok (.putfield 24, 3)) (hM : M[a]? = some (ob 5 [f0, f1, f2, f3, f4, f5])) (k9 : V E R mi fin K N (M.set a (ob 5 [f0, f1, iv x, f3, f4, f5])) (pc + 3) L st) : V E R mi fin K N M pc L (iv x :: rr E a :: st) := v_putf (k := 2) (T := TX5) (ty0 := tyX5) d hM rfl inX5 tyX5_ok nmX5 (by decide) (by rw [hy]; exact pl 122 (by decide +kernel)) rfl rfl rfl (Nat.le_of_ble_eq_true rfl) k9
theorem p_X5_27 {a : Nat} {f0 f1 f2 f3 f4 f5 : Value} {x : Int} (hy : mi.y.cls = RX5) (d : decode mi.cc pc = .ok (.putfield 27, 3)) (hM : M[a]? = some (ob 5 [f0, f1, f2, f3, f4, f5])) (k9 : V E R mi fin K N (M.set a (ob 5 [f0, f1, f2, iv x, f4, f5])) (pc + 3) L st) : V E R mi fin K N M pc L (iv x :: rr E a :: st) := v_putf (k := 3) (T := TX5) (ty0 := tyX5) d hM rfl inX5 tyX5_ok nmX5 (by decide) (by rw [hy]; exact pl 124 (by decide +kernel)) rfl rfl rfl (Nat.le_of_ble_eq_true rfl) k9
theorem p_X5_30 {a : Nat} {f0 f1 f2 f3 f4 f5 : Value} {x : Int} (hy : mi.y.cls = RX5) (d : decode mi.cc pc = .ok (.putfield 30, 3)) (hM : M[a]? = some (ob 5 [f0, f1, f2, f3, f4, f5])) (k9 : V E R mi fin K N (M.set a (ob 5 [f0, f1, f2, f3, f4, iv x])) (pc + 3) L st) : V E R mi fin K N M pc L (iv x :: rr E a :: st) := v_putf (k := 5) (T := TX5) (ty0 := tyX5) d hM rfl inX5 tyX5_ok nmX5 (by decide) (by rw [hy]; exact pl 127 (by decide +kernel)) rfl rfl rfl (Nat.le_of_ble_eq_true rfl) k9
theorem p_X5_46 {a : Nat} {f0 f1 f2 f3 f4 f5 : Value} {x : Int} (hy : mi.y.cls = RX5) (d : decode mi.cc pc = .ok (.putfield 46, 3)) (hM : M[a]? = some (ob 5 [f0, f1, f2, f3, f4, f5])) (k9 : V E R mi fin K N (M.set a (ob 5 [f0, f1, f2, f3, iv x, f5])) (pc + 3) L st) : V E R mi fin K N M pc L (iv x :: rr E a :: st) := v_putf (k := 4) (T := TX5) (ty0 := tyX5) d hM rfl inX5 tyX5_ok nmX5 (by decide) (by rw [hy]; exact pl 126 (by decide +kernel)) rfl rfl rfl (Nat.le_of_ble_eq_true rfl) k9
theorem p_X5_61 {a : Nat} {f0 f1 f2 f3 f4 f5 f6 f7 : Value} {x : Int} (hy : mi.y.cls = RX5) (d : decode mi.cc pc = .ok (.putfield 61, 3)) (hM : M[a]? = some (ob 2 [f0, f1, f2, f3, f4, f5, f6, f7])) (k9 : V E R mi fin K N (M.set a (ob 2 [f0, f1, f2, f3, iv x, f5, f6, f7])) (pc + 3) L st) : V E R mi fin K N M pc L (iv x :: rr E a :: st) := v_putn (host := "AirIndex") (k := 4) (T := TX2) (ty0 := tyX2) d hM rfl inX2 tyX2_ok nmX2 (by decide) (by rw [hy]; exact pl 222 (by decide +kernel)) rfl rfl rfl (Nat.le_of_ble_eq_true rfl) k9
theorem p_X5_126 {a : Nat} {f0 f1 f2 f3 f4 f5 f6 f7 : Value} {x : Int} (hy : mi.y.cls = RX5) (d : decode mi.cc pc = .ok (.putfield 126, 3)) (hM : M[a]? = some (ob 2 [f0, f1, f2, f3, f4, f5, f6, f7])) (k9 : V E R mi fin K N (M.set a (ob 2 [f0, f1, f2, f3, f4, f5, f6, iv x])) (pc + 3) L st) : V E R mi fin K N M pc L (iv x :: rr E a :: st) := v_putn (host := "AirIndex") (k := 7) (T := TX2) (ty0 := tyX2) d hM rfl inX2 tyX2_ok nmX2 (by decide) (by rw [hy]; exact pl 232 (by decide +kernel)) rfl rfl rfl (Nat.le_of_ble_eq_true rfl) k9
theorem p_X6_9 {a : Nat} {f0 f1 f2 f3 f4 : Value} {r : Option Nat} (hy : mi.y.cls = RX6) (hi : mi.y.name = "<init>") (d : decode mi.cc pc = .ok (.putfield 9, 3)) (hM : M[a]? = some (ob 6 [f0, f1, f2, f3, f4])) (k9 : V E R mi fin K N (M.set a (ob 6 [ro E r, f1, f2, f3, f4])) (pc + 3) L st) : V E R mi fin K N M pc L (ro E r :: rr E a :: st) := v_putF (k := 0) (T := TX6) (ty0 := tyX6) d hM rfl inX6 tyX6_ok nmX6 (by decide) (by rw [hy]; exact pl 100 (by decide +kernel)) rfl hi (by rw [hy]; rfl) (by cases r <;> rfl) (by cases r <;> rfl) (Nat.le_of_ble_eq_true rfl) k9
theorem p_X6_15 {a : Nat} {f0 f1 f2 f3 f4 : Value} {x : Int} (hy : mi.y.cls = RX6) (d : decode mi.cc pc = .ok (.putfield 15, 3)) (hM : M[a]? = some (ob 6 [f0, f1, f2, f3, f4])) (k9 : V E R mi fin K N (M.set a (ob 6 [f0, f1, f2, iv x, f4])) (pc + 3) L st) : V E R mi fin K N M pc L (iv x :: rr E a :: st) := v_putf (k := 3) (T := TX6) (ty0 := tyX6) d hM rfl inX6 tyX6_ok nmX6 (by decide) (by rw [hy]; exact pl 105 (by decide +kernel)) rfl rfl rfl (Nat.le_of_ble_eq_true rfl) k9
theorem p_X6_36 {a : Nat} {f0 f1 f2 f3 f4 : Value} {x : Int} (hy : mi.y.cls = RX6) (d : decode mi.cc pc = .ok (.putfield 36, 3)) (hM : M[a]? = some (ob 6 [f0, f1, f2, f3, f4])) (k9 : V E R mi fin K N (M.set a (ob 6 [f0, f1, iv x, f3, f4])) (pc + 3) L st) : V E R mi fin K N M pc L (iv x :: rr E a :: st) := v_putf (k := 2) (T := TX6) (ty0 := tyX6) d hM rfl inX6 tyX6_ok nmX6 (by decide) (by rw [hy]; exact pl 103 (by decide +kernel)) rfl rfl rfl (Nat.le_of_ble_eq_true rfl) k9
theorem p_X6_39 {a : Nat} {f0 f1 f2 f3 f4 : Value} {x : Int} (hy : mi.y.cls = RX6) (d : decode mi.cc pc = .ok (.putfield 39, 3)) (hM : M[a]? = some (ob 6 [f0, f1, f2, f3, f4])) (k9 : V E R mi fin K N (M.set a (ob 6 [f0, iv x, f2, f3, f4])) (pc + 3) L st) : V E R mi fin K N M pc L (iv x :: rr E a :: st) := v_putf (k := 1) (T := TX6) (ty0 := tyX6) d hM rfl inX6 tyX6_ok nmX6 (by decide) (by rw [hy]; exact pl 101 (by decide +kernel)) rfl rfl rfl (Nat.le_of_ble_eq_true rfl) k9
theorem p_X6_62 {a : Nat} {f0 f1 f2 f3 f4 : Value} {x : Int} (hy : mi.y.cls = RX6) (d : decode mi.cc pc = .ok (.putfield 62, 3)) (hM : M[a]? = some (ob 6 [f0, f1, f2, f3, f4])) (k9 : V E R mi fin K N (M.set a (ob 6 [f0, f1, f2, f3, iv x])) (pc + 3) L st) : V E R mi fin K N M pc L (iv x :: rr E a :: st) := v_putf (k := 4) (T := TX6) (ty0 := tyX6) d hM rfl inX6 tyX6_ok nmX6 (by decide) (by rw [hy]; exact pl 106 (by decide +kernel)) rfl rfl rfl (Nat.le_of_ble_eq_true rfl) k9
theorem p_X8_7 {a : Nat} {f0 f1 f2 f3 f4 f5 f6 f7 f8 f9 f10 f11 f12 f13 f14 f15 f16 f17 : Value} {r : Option Nat} (hy : mi.y.cls = RX8) (hi : mi.y.name = "<init>") (d : decode mi.cc pc = .ok (.putfield 7, 3)) (hM : M[a]? = some (ob 8 [f0, f1, f2, f3, f4, f5, f6, f7, f8, f9, f10, f11, f12, f13, f14, f15, f16, f17])) (k9 : V E R mi fin K N (M.set a (ob 8 [f0, ro E r, f2, f3, f4, f5, f6, f7, f8, f9, f10, f11, f12, f13, f14, f15, f16, f17])) (pc + 3) L st) : V E R mi fin K N M pc L (ro E r :: rr E a :: st) := v_putF (k := 1) (T := TX8) (ty0 := tyX8) d hM rfl inX8 tyX8_ok nmX8 (by decide) (by rw [hy]; exact pl 673 (by decide +kernel)) rfl hi (by rw [hy]; rfl) (by cases r <;> rfl) (by cases r <;> rfl) (Nat.le_of_ble_eq_true rfl) k9
theorem p_X8_11 {a : Nat} {f0 f1 f2 f3 f4 f5 f6 f7 f8 f9 f10 f11 f12 f13 f14 f15 f16 f17 : Value} {x : Int} (hy : mi.y.cls = RX8) (d : decode mi.cc pc = .ok (.putfield 11, 3)) (hM : M[a]? = some (ob 8 [f0, f1, f2, f3, f4, f5, f6, f7, f8, f9, f10, f11, f12, f13, f14, f15, f16, f17])) (k9 : V E R mi fin K N (M.set a (ob 8 [f0, f1, iv x, f3, f4, f5, f6, f7, f8, f9, f10, f11, f12, f13, f14, f15, f16, f17])) (pc + 3) L st) : V E R mi fin K N M pc L (iv x :: rr E a :: st) := v_putf (k := 2) (T := TX8) (ty0 := tyX8) d hM rfl inX8 tyX8_ok nmX8 (by decide) (by rw [hy]; exact pl 674 (by decide +kernel)) rfl rfl rfl (Nat.le_of_ble_eq_true rfl) k9
theorem p_X8_18 {a : Nat} {f0 f1 f2 f3 f4 f5 f6 f7 f8 f9 f10 f11 f12 f13 f14 f15 f16 f17 : Value} {x : Int} (hy : mi.y.cls = RX8) (d : decode mi.cc pc = .ok (.putfield 18, 3)) (hM : M[a]? = some (ob 8 [f0, f1, f2, f3, f4, f5, f6, f7, f8, f9, f10, f11, f12, f13, f14, f15, f16, f17])) (k9 : V E R mi fin K N (M.set a (ob 8 [f0, f1, f2, iv x, f4, f5, f6, f7, f8, f9, f10, f11, f12, f13, f14, f15, f16, f17])) (pc + 3) L st) : V E R mi fin K N M pc L (iv x :: rr E a :: st) := v_putf (k := 3) (T := TX8) (ty0 := tyX8) d hM rfl inX8 tyX8_ok nmX8 (by decide) (by rw [hy]; exact pl 675 (by decide +kernel)) rfl rfl rfl (Nat.le_of_ble_eq_true rfl) k9
theorem p_X8_21 {a : Nat} {f0 f1 f2 f3 f4 f5 f6 f7 f8 f9 f10 f11 f12 f13 f14 f15 f16 f17 : Value} {x : Int} (hy : mi.y.cls = RX8) (d : decode mi.cc pc = .ok (.putfield 21, 3)) (hM : M[a]? = some (ob 8 [f0, f1, f2, f3, f4, f5, f6, f7, f8, f9, f10, f11, f12, f13, f14, f15, f16, f17])) (k9 : V E R mi fin K N (M.set a (ob 8 [f0, f1, f2, f3, iv x, f5, f6, f7, f8, f9, f10, f11, f12, f13, f14, f15, f16, f17])) (pc + 3) L st) : V E R mi fin K N M pc L (iv x :: rr E a :: st) := v_putf (k := 4) (T := TX8) (ty0 := tyX8) d hM rfl inX8 tyX8_ok nmX8 (by decide) (by rw [hy]; exact pl 676 (by decide +kernel)) rfl rfl rfl (Nat.le_of_ble_eq_true rfl) k9
theorem p_X8_24 {a : Nat} {f0 f1 f2 f3 f4 f5 f6 f7 f8 f9 f10 f11 f12 f13 f14 f15 f16 f17 : Value} {x : Int} (hy : mi.y.cls = RX8) (d : decode mi.cc pc = .ok (.putfield 24, 3)) (hM : M[a]? = some (ob 8 [f0, f1, f2, f3, f4, f5, f6, f7, f8, f9, f10, f11, f12, f13, f14, f15, f16, f17])) (k9 : V E R mi fin K N (M.set a (ob 8 [f0, f1, f2, f3, f4, iv x, f6, f7, f8, f9, f10, f11, f12, f13, f14, f15, f16, f17])) (pc + 3) L st) : V E R mi fin K N M pc L (iv x :: rr E a :: st) := v_putf (k := 5) (T := TX8) (ty0 := tyX8) d hM rfl inX8 tyX8_ok nmX8 (by decide) (by rw [hy]; exact pl 677 (by decide +kernel)) rfl rfl rfl (Nat.le_of_ble_eq_true rfl) k9
theorem p_X8_27 {a : Nat} {f0 f1 f2 f3 f4 f5 f6 f7 f8 f9 f10 f11 f12 f13 f14 f15 f16 f17 : Value} {x : Int} (hy : mi.y.cls = RX8) (d : decode mi.cc pc = .ok (.putfield 27, 3)) (hM : M[a]? = some (ob 8 [f0, f1, f2, f3, f4, f5, f6, f7, f8, f9, f10, f11, f12, f13, f14, f15, f16, f17])) (k9 : V E R mi fin K N (M.set a (ob 8 [f0, f1, f2, f3, f4, f5, iv x, f7, f8, f9, f10, f11, f12, f13, f14, f15, f16, f17])) (pc + 3) L st) : V E R mi fin K N M pc L (iv x :: rr E a :: st) := v_putf (k := 6) (T := TX8) (ty0 := tyX8) d hM rfl inX8 tyX8_ok nmX8 (by decide) (by rw [hy]; exact pl 678 (by decide +kernel)) rfl rfl rfl (Nat.le_of_ble_eq_true rfl) k9
theorem p_X8_37 {a : Nat} {f0 f1 f2 f3 f4 f5 f6 f7 f8 f9 f10 f11 f12 f13 f14 f15 f16 f17 : Value} {x : Int} (hy : mi.y.cls = RX8) (d : decode mi.cc pc = .ok (.putfield 37, 3)) (hM : M[a]? = some (ob 8 [f0, f1, f2, f3, f4, f5, f6, f7, f8, f9, f10, f11, f12, f13, f14, f15, f16, f17])) (k9 : V E R mi fin K N (M.set a (ob 8 [f0, f1, f2, f3, f4, f5, f6, f7, f8, f9, jv x, f11, f12, f13, f14, f15, f16, f17])) (pc + 3) L st) : V E R mi fin K N M pc L (jv x :: rr E a :: st) := v_putf (k := 10) (T := TX8) (ty0 := tyX8) d hM rfl inX8 tyX8_ok nmX8 (by decide) (by rw [hy]; exact pl 682 (by decide +kernel)) rfl rfl rfl (Nat.le_of_ble_eq_true rfl) k9
theorem p_X8_41 {a : Nat} {f0 f1 f2 f3 f4 f5 f6 f7 f8 f9 f10 f11 f12 f13 f14 f15 f16 f17 : Value} {x : Int} (hy : mi.y.cls = RX8) (d : decode mi.cc pc = .ok (.putfield 41, 3)) (hM : M[a]? = some (ob 8 [f0, f1, f2, f3, f4, f5, f6, f7, f8, f9, f10, f11, f12, f13, f14, f15, f16, f17])) (k9 : V E R mi fin K N (M.set a (ob 8 [f0, f1, f2, f3, f4, f5, f6, iv x, f8, f9, f10, f11, f12, f13, f14, f15, f16, f17])) (pc + 3) L st) : V E R mi fin K N M pc L (iv x :: rr E a :: st) := v_putf (k := 7) (T := TX8) (ty0 := tyX8) d hM rfl inX8 tyX8_ok nmX8 (by decide) (by rw [hy]; exact pl 679 (by decide +kernel)) rfl rfl rfl (Nat.le_of_ble_eq_true rfl) k9
theorem p_X8_62 {a : Nat} {f0 f1 f2 f3 f4 f5 f6 f7 f8 f9 f10 f11 f12 f13 f14 f15 f16 f17 : Value} {x : Int} (hy : mi.y.cls = RX8) (d : decode mi.cc pc = .ok (.putfield 62, 3)) (hM : M[a]? = some (ob 8 [f0, f1, f2, f3, f4, f5, f6, f7, f8, f9, f10, f11, f12, f13, f14, f15, f16, f17])) (k9 : V E R mi fin K N (M.set a (ob 8 [f0, f1, f2, f3, f4, f5, f6, f7, iv x, f9, f10, f11, f12, f13, f14, f15, f16, f17])) (pc + 3) L st) : V E R mi fin K N M pc L (iv x :: rr E a :: st) := v_putf (k := 8) (T := TX8) (ty0 := tyX8) d hM rfl inX8 tyX8_ok nmX8 (by decide) (by rw [hy]; exact pl 680 (by decide +kernel)) rfl rfl rfl (Nat.le_of_ble_eq_true rfl) k9
theorem p_X8_65 {a : Nat} {f0 f1 f2 f3 f4 f5 f6 f7 f8 f9 f10 f11 f12 f13 f14 f15 f16 f17 : Value} {x : Int} (hy : mi.y.cls = RX8) (d : decode mi.cc pc = .ok (.putfield 65, 3)) (hM : M[a]? = some (ob 8 [f0, f1, f2, f3, f4, f5, f6, f7, f8, f9, f10, f11, f12, f13, f14, f15, f16, f17])) (k9 : V E R mi fin K N (M.set a (ob 8 [f0, f1, f2, f3, f4, f5, f6, f7, f8, iv x, f10, f11, f12, f13, f14, f15, f16, f17])) (pc + 3) L st) : V E R mi fin K N M pc L (iv x :: rr E a :: st) := v_putf (k := 9) (T := TX8) (ty0 := tyX8) d hM rfl inX8 tyX8_ok nmX8 (by decide) (by rw [hy]; exact pl 681 (by decide +kernel)) rfl rfl rfl (Nat.le_of_ble_eq_true rfl) k9
theorem p_X8_74 {a : Nat} {f0 f1 f2 f3 f4 f5 f6 f7 f8 f9 f10 f11 f12 f13 f14 f15 f16 f17 : Value} {r : Option Nat} (hy : mi.y.cls = RX8) (hi : mi.y.name = "<init>") (d : decode mi.cc pc = .ok (.putfield 74, 3)) (hM : M[a]? = some (ob 8 [f0, f1, f2, f3, f4, f5, f6, f7, f8, f9, f10, f11, f12, f13, f14, f15, f16, f17])) (k9 : V E R mi fin K N (M.set a (ob 8 [f0, f1, f2, f3, f4, f5, f6, f7, f8, f9, f10, ro E r, f12, f13, f14, f15, f16, f17])) (pc + 3) L st) : V E R mi fin K N M pc L (ro E r :: rr E a :: st) := v_putF (k := 11) (T := TX8) (ty0 := tyX8) d hM rfl inX8 tyX8_ok nmX8 (by decide) (by rw [hy]; exact pl 683 (by decide +kernel)) rfl hi (by rw [hy]; rfl) (by cases r <;> rfl) (by cases r <;> rfl) (Nat.le_of_ble_eq_true rfl) k9
theorem p_X8_77 {a : Nat} {f0 f1 f2 f3 f4 f5 f6 f7 f8 f9 f10 f11 f12 f13 f14 f15 f16 f17 : Value} {r : Option Nat} (hy : mi.y.cls = RX8) (hi : mi.y.name = "<init>") (d : decode mi.cc pc = .ok (.putfield 77, 3)) (hM : M[a]? = some (ob 8 [f0, f1, f2, f3, f4, f5, f6, f7, f8, f9, f10, f11, f12, f13, f14, f15, f16, f17])) (k9 : V E R mi fin K N (M.set a (ob 8 [f0, f1, f2, f3, f4, f5, f6, f7, f8, f9, f10, f11, ro E r, f13, f14, f15, f16, f17])) (pc + 3) L st) : V E R mi fin K N M pc L (ro E r :: rr E a :: st) := v_putF (k := 12) (T := TX8) (ty0 := tyX8) d hM rfl inX8 tyX8_ok nmX8 (by decide) (by rw [hy]; exact pl 684 (by decide +kernel)) rfl hi (by rw [hy]; rfl) (by cases r <;> rfl) (by cases r <;> rfl) (Nat.le_of_ble_eq_true rfl) k9
theorem p_X8_80 {a : Nat} {f0 f1 f2 f3 f4 f5 f6 f7 f8 f9 f10 f11 f12 f13 f14 f15 f16 f17 : Value} {r : Option Nat} (hy : mi.y.cls = RX8) (hi : mi.y.name = "<init>") (d : decode mi.cc pc = .ok (.putfield 80, 3)) (hM : M[a]? = some (ob 8 [f0, f1, f2, f3, f4, f5, f6, f7, f8, f9, f10, f11, f12, f13, f14, f15, f16, f17])) (k9 : V E R mi fin K N (M.set a (ob 8 [f0, f1, f2, f3, f4, f5, f6, f7, f8, f9, f10, f11, f12, ro E r, f14, f15, f16, f17])) (pc + 3) L st) : V E R mi fin K N M pc L (ro E r :: rr E a :: st) := v_putF (k := 13) (T := TX8) (ty0 := tyX8) d hM rfl inX8 tyX8_ok nmX8 (by decide) (by rw [hy]; exact pl 685 (by decide +kernel)) rfl hi (by rw [hy]; rfl) (by cases r <;> rfl) (by cases r <;> rfl) (Nat.le_of_ble_eq_true rfl) k9
theorem p_X8_83 {a : Nat} {f0 f1 f2 f3 f4 f5 f6 f7 f8 f9 f10 f11 f12 f13 f14 f15 f16 f17 : Value} {r : Option Nat} (hy : mi.y.cls = RX8) (hi : mi.y.name = "<init>") (d : decode mi.cc pc = .ok (.putfield 83, 3)) (hM : M[a]? = some (ob 8 [f0, f1, f2, f3, f4, f5, f6, f7, f8, f9, f10, f11, f12, f13, f14, f15, f16, f17])) (k9 : V E R mi fin K N (M.set a (ob 8 [f0, f1, f2, f3, f4, f5, f6, f7, f8, f9, f10, f11, f12, f13, f14, f15, f16, ro E r])) (pc + 3) L st) : V E R mi fin K N M pc L (ro E r :: rr E a :: st) := v_putF (k := 17) (T := TX8) (ty0 := tyX8) d hM rfl inX8 tyX8_ok nmX8 (by decide) (by rw [hy]; exact pl 689 (by decide +kernel)) rfl hi (by rw [hy]; rfl) (by cases r <;> rfl) (by cases r <;> rfl) (Nat.le_of_ble_eq_true rfl) k9
theorem p_X8_128 {a : Nat} {f0 f1 f2 f3 f4 f5 f6 f7 f8 f9 f10 f11 f12 f13 f14 f15 f16 f17 : Value} {x : Int} (hy : mi.y.cls = RX8) (d : decode mi.cc pc = .ok (.putfield 128, 3)) (hM : M[a]? = some (ob 8 [f0, f1, f2, f3, f4, f5, f6, f7, f8, f9, f10, f11, f12, f13, f14, f15, f16, f17])) (k9 : V E R mi fin K N (M.set a (ob 8 [f0, f1, f2, f3, f4, f5, f6, f7, f8, f9, f10, f11, f12, f13, f14, iv x, f16, f17])) (pc + 3) L st) : V E R mi fin K N M pc L (iv x :: rr E a :: st) := v_putf (k := 15) (T := TX8) (ty0 := tyX8) d hM rfl inX8 tyX8_ok nmX8 (by decide) (by rw [hy]; exact pl 687 (by decide +kernel)) rfl rfl rfl (Nat.le_of_ble_eq_true rfl) k9
theorem p_X8_139 {a : Nat} {f0 f1 f2 f3 f4 f5 f6 f7 f8 f9 f10 f11 f12 f13 f14 f15 f16 f17 : Value} {x : Int} (hy : mi.y.cls = RX8) (d : decode mi.cc pc = .ok (.putfield 139, 3)) (hM : M[a]? = some (ob 8 [f0, f1, f2, f3, f4, f5, f6, f7, f8, f9, f10, f11, f12, f13, f14, f15, f16, f17])) (k9 : V E R mi fin K N (M.set a (ob 8 [f0, f1, f2, f3, f4, f5, f6, f7, f8, f9, f10, f11, f12, f13, f14, f15, iv x, f17])) (pc + 3) L st) : V E R mi fin K N M pc L (iv x :: rr E a :: st) := v_putf (k := 16) (T := TX8) (ty0 := tyX8) d hM rfl inX8 tyX8_ok nmX8 (by decide) (by rw [hy]; exact pl 688 (by decide +kernel)) rfl rfl rfl (Nat.le_of_ble_eq_true rfl) k9
theorem p_X8_154 {a : Nat} {f0 f1 f2 f3 f4 f5 f6 f7 f8 f9 f10 f11 f12 f13 f14 f15 f16 f17 : Value} {x : Int} (hy : mi.y.cls = RX8) (d : decode mi.cc pc = .ok (.putfield 154, 3)) (hM : M[a]? = some (ob 8 [f0, f1, f2, f3, f4, f5, f6, f7, f8, f9, f10, f11, f12, f13, f14, f15, f16, f17])) (k9 : V E R mi fin K N (M.set a (ob 8 [f0, f1, f2, f3, f4, f5, f6, f7, f8, f9, f10, f11, f12, f13, iv x, f15, f16, f17])) (pc + 3) L st) : V E R mi fin K N M pc L (iv x :: rr E a :: st) := v_putf (k := 14) (T := TX8) (ty0 := tyX8) d hM rfl inX8 tyX8_ok nmX8 (by decide) (by rw [hy]; exact pl 686 (by decide +kernel)) rfl rfl rfl (Nat.le_of_ble_eq_true rfl) k9
theorem l_X7_42 {b : Nat} {fs : List Value} {rest : List Value} (hy : mi.y.cls = RX7) (d : decode mi.cc pc = .ok (.invokevirtual 42, 3)) (hM : M[b]? = some (ob 2 fs)) (hR : rX2_tellFirst.frames + 1 ≤ R.frames ∧ 8 + (mX2_tellFirst.nL + 11) + rX2_tellFirst.locals ≤ R.locals) (hw : (rest.map fun v => v.category).sum ≤ 8) (hf : K ≤ R.cells ∧ N ≤ R.slots) (k : Cn E rX2_tellFirst mX2_tellFirst [rr E b] M (fun r M2 => V E R mi fin K N M2 (pc + 3) L (pu r rest))) : V E R mi fin K N M pc L (rr E b :: rest) := v_callV0 (Rq := rX2_tellFirst) [] rfl rfl d hM (T := TX2) rfl (by rw [hy]; exact pl 250 (by decide +kernel)) mfX2_tellFirst rfl hR hw hf k
theorem l_X7_45 {b : Nat} {fs : List Value} {a1 : Value} {rest : List Value} (hy : mi.y.cls = RX7) (d : decode mi.cc pc = .ok (.invokevirtual 45, 3)) (hM : M[b]? = some (ob 4 fs)) (hR : rX4_hasRoom.frames + 1 ≤ R.frames ∧ 8 + (mX4_hasRoom.nL + 11) + rX4_hasRoom.locals ≤ R.locals) (hw : (rest.map fun v => v.category).sum ≤ 8) (hf : K ≤ R.cells ∧ N ≤ R.slots) (k : Cn E rX4_hasRoom mX4_hasRoom [rr E b, a1] M (fun r M2 => V E R mi fin K N M2 (pc + 3) L (pu r rest))) : V E R mi fin K N M pc L (a1 :: rr E b :: rest) := v_callV0 (Rq := rX4_hasRoom) [a1] rfl rfl d hM (T := TX4) rfl (by rw [hy]; exact pl 290 (by decide +kernel)) mfX4_hasRoom rfl hR hw hf k
theorem l_X7_49 {b : Nat} {fs : List Value} {a1 : Value} {rest : List Value} (hy : mi.y.cls = RX7) (d : decode mi.cc pc = .ok (.invokevirtual 49, 3)) (hM : M[b]? = some (ob 4 fs)) (hR : rX4_append.frames + 1 ≤ R.frames ∧ 8 + (mX4_append.nL + 11) + rX4_append.locals ≤ R.locals) (hw : (rest.map fun v => v.category).sum ≤ 8) (hf : K ≤ R.cells ∧ N ≤ R.slots) (k : Cn E rX4_append mX4_append [rr E b, a1] M (fun r M2 => V E R mi fin K N M2 (pc + 3) L (pu r rest))) : V E R mi fin K N M pc L (a1 :: rr E b :: rest) := v_callV0 (Rq := rX4_append) [a1] rfl rfl d hM (T := TX4) rfl (by rw [hy]; exact pl 294 (by decide +kernel)) mfX4_append rfl hR hw hf k
theorem l_X7_57 {b : Nat} {fs : List Value} {a1 : Value} {rest : List Value} (hy : mi.y.cls = RX7) (d : decode mi.cc pc = .ok (.invokevirtual 57, 3)) (hM : M[b]? = some (ob 4 fs)) (hR : rX4_cutTo.frames + 1 ≤ R.frames ∧ 8 + (mX4_cutTo.nL + 11) + rX4_cutTo.locals ≤ R.locals) (hw : (rest.map fun v => v.category).sum ≤ 8) (hf : K ≤ R.cells ∧ N ≤ R.slots) (k : Cn E rX4_cutTo mX4_cutTo [rr E b, a1] M (fun r M2 => V E R mi fin K N M2 (pc + 3) L (pu r rest))) : V E R mi fin K N M pc L (a1 :: rr E b :: rest) := v_callV0 (Rq := rX4_cutTo) [a1] rfl rfl d hM (T := TX4) rfl (by rw [hy]; exact pl 302 (by decide +kernel)) mfX4_cutTo rfl hR hw hf k
theorem l_X7_60 {b : Nat} {fs : List Value} {rest : List Value} (hy : mi.y.cls = RX7) (d : decode mi.cc pc = .ok (.invokevirtual 60, 3)) (hM : M[b]? = some (ob 2 fs)) (hR : rX2_clear.frames + 1 ≤ R.frames ∧ 8 + (mX2_clear.nL + 11) + rX2_clear.locals ≤ R.locals) (hw : (rest.map fun v => v.category).sum ≤ 8) (hf : K ≤ R.cells ∧ N ≤ R.slots) (k : Cn E rX2_clear mX2_clear [rr E b] M (fun r M2 => V E R mi fin K N M2 (pc + 3) L (pu r rest))) : V E R mi fin K N M pc L (rr E b :: rest) := v_callV0 (Rq := rX2_clear) [] rfl rfl d hM (T := TX2) rfl (by rw [hy]; exact pl 310 (by decide +kernel)) mfX2_clear rfl hR hw hf k
theorem l_X7_63 {b : Nat} {fs : List Value} {rest : List Value} (hy : mi.y.cls = RX7) (d : decode mi.cc pc = .ok (.invokevirtual 63, 3)) (hM : M[b]? = some (ob 5 fs)) (hR : rX5_begin.frames + 1 ≤ R.frames ∧ 8 + (mX5_begin.nL + 11) + rX5_begin.locals ≤ R.locals) (hw : (rest.map fun v => v.category).sum ≤ 8) (hf : K ≤ R.cells ∧ N ≤ R.slots) (k : Cn E rX5_begin mX5_begin [rr E b] M (fun r M2 => V E R mi fin K N M2 (pc + 3) L (pu r rest))) : V E R mi fin K N M pc L (rr E b :: rest) := v_callV0 (Rq := rX5_begin) [] rfl rfl d hM (T := TX5) rfl (by rw [hy]; exact pl 311 (by decide +kernel)) mfX5_begin rfl hR hw hf k
theorem l_X7_66 {b : Nat} {fs : List Value} {a1 : Value} {rest : List Value} (hy : mi.y.cls = RX7) (d : decode mi.cc pc = .ok (.invokevirtual 66, 3)) (hM : M[b]? = some (ob 5 fs)) (hR : rX5_readsBands.frames + 1 ≤ R.frames ∧ 8 + (mX5_readsBands.nL + 11) + rX5_readsBands.locals ≤ R.locals) (hw : (rest.map fun v => v.category).sum ≤ 8) (hf : K ≤ R.cells ∧ N ≤ R.slots) (k : Cn E rX5_readsBands mX5_readsBands [rr E b, a1] M (fun r M2 => V E R mi fin K N M2 (pc + 3) L (pu r rest))) : V E R mi fin K N M pc L (a1 :: rr E b :: rest) := v_callV0 (Rq := rX5_readsBands) [a1] rfl rfl d hM (T := TX5) rfl (by rw [hy]; exact pl 338 (by decide +kernel)) mfX5_readsBands rfl hR hw hf k
theorem l_X7_70 {b : Nat} {fs : List Value} {a1 : Value} {rest : List Value} (hy : mi.y.cls = RX7) (d : decode mi.cc pc = .ok (.invokevirtual 70, 3)) (hM : M[b]? = some (ob 5 fs)) (hR : rX5_readsShare.frames + 1 ≤ R.frames ∧ 8 + (mX5_readsShare.nL + 11) + rX5_readsShare.locals ≤ R.locals) (hw : (rest.map fun v => v.category).sum ≤ 8) (hf : K ≤ R.cells ∧ N ≤ R.slots) (k : Cn E rX5_readsShare mX5_readsShare [rr E b, a1] M (fun r M2 => V E R mi fin K N M2 (pc + 3) L (pu r rest))) : V E R mi fin K N M pc L (a1 :: rr E b :: rest) := v_callV0 (Rq := rX5_readsShare) [a1] rfl rfl d hM (T := TX5) rfl (by rw [hy]; exact pl 420 (by decide +kernel)) mfX5_readsShare rfl hR hw hf k
theorem l_X7_73 {b : Nat} {fs : List Value} {a1 : Value} {rest : List Value} (hy : mi.y.cls = RX7) (d : decode mi.cc pc = .ok (.invokevirtual 73, 3)) (hM : M[b]? = some (ob 5 fs)) (hR : rX5_readsSubstances.frames + 1 ≤ R.frames ∧ 8 + (mX5_readsSubstances.nL + 11) + rX5_readsSubstances.locals ≤ R.locals) (hw : (rest.map fun v => v.category).sum ≤ 8) (hf : K ≤ R.cells ∧ N ≤ R.slots) (k : Cn E rX5_readsSubstances mX5_readsSubstances [rr E b, a1] M (fun r M2 => V E R mi fin K N M2 (pc + 3) L (pu r rest))) : V E R mi fin K N M pc L (a1 :: rr E b :: rest) := v_callV0 (Rq := rX5_readsSubstances) [a1] rfl rfl d hM (T := TX5) rfl (by rw [hy]; exact pl 425 (by decide +kernel)) mfX5_readsSubstances rfl hR hw hf k
theorem l_X7_76 {b : Nat} {fs : List Value} {a1 : Value} {rest : List Value} (hy : mi.y.cls = RX7) (d : decode mi.cc pc = .ok (.invokevirtual 76, 3)) (hM : M[b]? = some (ob 5 fs)) (hR : rX5_readsStations.frames + 1 ≤ R.frames ∧ 8 + (mX5_readsStations.nL + 11) + rX5_readsStations.locals ≤ R.locals) (hw : (rest.map fun v => v.category).sum ≤ 8) (hf : K ≤ R.cells ∧ N ≤ R.slots) (k : Cn E rX5_readsStations mX5_readsStations [rr E b, a1] M (fun r M2 => V E R mi fin K N M2 (pc + 3) L (pu r rest))) : V E R mi fin K N M pc L (a1 :: rr E b :: rest) := v_callV0 (Rq := rX5_readsStations) [a1] rfl rfl d hM (T := TX5) rfl (by rw [hy]; exact pl 440 (by decide +kernel)) mfX5_readsStations rfl hR hw hf k
theorem l_X7_79 {b : Nat} {fs : List Value} {a1 : Value} {rest : List Value} (hy : mi.y.cls = RX7) (d : decode mi.cc pc = .ok (.invokevirtual 79, 3)) (hM : M[b]? = some (ob 5 fs)) (hR : rX5_readsAllSeries.frames + 1 ≤ R.frames ∧ 8 + (mX5_readsAllSeries.nL + 11) + rX5_readsAllSeries.locals ≤ R.locals) (hw : (rest.map fun v => v.category).sum ≤ 8) (hf : K ≤ R.cells ∧ N ≤ R.slots) (k : Cn E rX5_readsAllSeries mX5_readsAllSeries [rr E b, a1] M (fun r M2 => V E R mi fin K N M2 (pc + 3) L (pu r rest))) : V E R mi fin K N M pc L (a1 :: rr E b :: rest) := v_callV0 (Rq := rX5_readsAllSeries) [a1] rfl rfl d hM (T := TX5) rfl (by rw [hy]; exact pl 446 (by decide +kernel)) mfX5_readsAllSeries rfl hR hw hf k
theorem l_X7_85 {b : Nat} {fs : List Value} {rest : List Value} (hy : mi.y.cls = RX7) (d : decode mi.cc pc = .ok (.invokevirtual 85, 3)) (hM : M[b]? = some (ob 1 fs)) (hR : rX1_forgetAll.frames + 1 ≤ R.frames ∧ 8 + (mX1_forgetAll.nL + 11) + rX1_forgetAll.locals ≤ R.locals) (hw : (rest.map fun v => v.category).sum ≤ 8) (hf : K ≤ R.cells ∧ N ≤ R.slots) (k : Cn E rX1_forgetAll mX1_forgetAll [rr E b] M (fun r M2 => V E R mi fin K N M2 (pc + 3) L (pu r rest))) : V E R mi fin K N M pc L (rr E b :: rest) := v_callV0 (Rq := rX1_forgetAll) [] rfl rfl d hM (T := TX1) rfl (by rw [hy]; exact pl 475 (by decide +kernel)) mfX1_forgetAll rfl hR hw hf k
theorem l_X7_103 {b : Nat} {fs : List Value} {rest : List Value} (hy : mi.y.cls = RX7) (d : decode mi.cc pc = .ok (.invokevirtual 103, 3)) (hM : M[b]? = some (ob 2 fs)) (hR : rX2_countReads.frames + 1 ≤ R.frames ∧ 8 + (mX2_countReads.nL + 11) + rX2_countReads.locals ≤ R.locals) (hw : (rest.map fun v => v.category).sum ≤ 8) (hf : K ≤ R.cells ∧ N ≤ R.slots) (k : Cn E rX2_countReads mX2_countReads [rr E b] M (fun r M2 => V E R mi fin K N M2 (pc + 3) L (pu r rest))) : V E R mi fin K N M pc L (rr E b :: rest) := v_callV0 (Rq := rX2_countReads) [] rfl rfl d hM (T := TX2) rfl (by rw [hy]; exact pl 487 (by decide +kernel)) mfX2_countReads rfl hR hw hf k
theorem l_X7_113 {b : Nat} {fs : List Value} {a1 a2 a3 : Value} {rest : List Value} (hy : mi.y.cls = RX7) (d : decode mi.cc pc = .ok (.invokevirtual 113, 3)) (hM : M[b]? = some (ob 2 fs)) (hR : rX2_readAt.frames + 1 ≤ R.frames ∧ 8 + (mX2_readAt.nL + 11) + rX2_readAt.locals ≤ R.locals) (hw : (rest.map fun v => v.category).sum ≤ 8) (hf : K ≤ R.cells ∧ N ≤ R.slots) (k : Cn E rX2_readAt mX2_readAt [rr E b, a1, a2, a3] M (fun r M2 => V E R mi fin K N M2 (pc + 3) L (pu r rest))) : V E R mi fin K N M pc L (a3 :: a2 :: a1 :: rr E b :: rest) := v_callV0 (Rq := rX2_readAt) [a1, a2, a3] rfl rfl d hM (T := TX2) rfl (by rw [hy]; exact pl 495 (by decide +kernel)) mfX2_readAt rfl hR hw hf k
theorem l_X7_117 {b : Nat} {fs : List Value} {a1 a2 a3 : Value} {rest : List Value} (hy : mi.y.cls = RX7) (d : decode mi.cc pc = .ok (.invokevirtual 117, 3)) (hM : M[b]? = some (ob 2 fs)) (hR : rX2_meanAt.frames + 1 ≤ R.frames ∧ 8 + (mX2_meanAt.nL + 11) + rX2_meanAt.locals ≤ R.locals) (hw : (rest.map fun v => v.category).sum ≤ 8) (hf : K ≤ R.cells ∧ N ≤ R.slots) (k : Cn E rX2_meanAt mX2_meanAt [rr E b, a1, a2, a3] M (fun r M2 => V E R mi fin K N M2 (pc + 3) L (pu r rest))) : V E R mi fin K N M pc L (a3 :: a2 :: a1 :: rr E b :: rest) := v_callV0 (Rq := rX2_meanAt) [a1, a2, a3] rfl rfl d hM (T := TX2) rfl (by rw [hy]; exact pl 503 (by decide +kernel)) mfX2_meanAt rfl hR hw hf k
theorem l_X7_120 {b : Nat} {fs : List Value} {a1 : Value} {rest : List Value} (hy : mi.y.cls = RX7) (d : decode mi.cc pc = .ok (.invokevirtual 120, 3)) (hM : M[b]? = some (ob 2 fs)) (hR : rX2_substanceAt.frames + 1 ≤ R.frames ∧ 8 + (mX2_substanceAt.nL + 11) + rX2_substanceAt.locals ≤ R.locals) (hw : (rest.map fun v => v.category).sum ≤ 8) (hf : K ≤ R.cells ∧ N ≤ R.slots) (k : Cn E rX2_substanceAt mX2_substanceAt [rr E b, a1] M (fun r M2 => V E R mi fin K N M2 (pc + 3) L (pu r rest))) : V E R mi fin K N M pc L (a1 :: rr E b :: rest) := v_callV0 (Rq := rX2_substanceAt) [a1] rfl rfl d hM (T := TX2) rfl (by rw [hy]; exact pl 517 (by decide +kernel)) mfX2_substanceAt rfl hR hw hf k
theorem l_X7_124 {b : Nat} {fs : List Value} {a1 : Value} {rest : List Value} (hy : mi.y.cls = RX7) (d : decode mi.cc pc = .ok (.invokevirtual 124, 3)) (hM : M[b]? = some (ob 3 fs)) (hR : rX3_subAtLevel.frames + 1 ≤ R.frames ∧ 8 + (mX3_subAtLevel.nL + 11) + rX3_subAtLevel.locals ≤ R.locals) (hw : (rest.map fun v => v.category).sum ≤ 8) (hf : K ≤ R.cells ∧ N ≤ R.slots) (k : Cn E rX3_subAtLevel mX3_subAtLevel [rr E b, a1] M (fun r M2 => V E R mi fin K N M2 (pc + 3) L (pu r rest))) : V E R mi fin K N M pc L (a1 :: rr E b :: rest) := v_callV0 (Rq := rX3_subAtLevel) [a1] rfl rfl d hM (T := TX3) rfl (by rw [hy]; exact pl 518 (by decide +kernel)) mfX3_subAtLevel rfl hR hw hf k
theorem l_X7_130 {b : Nat} {fs : List Value} {a1 a2 a3 : Value} {rest : List Value} (hy : mi.y.cls = RX7) (d : decode mi.cc pc = .ok (.invokevirtual 130, 3)) (hM : M[b]? = some (ob 2 fs)) (hR : rX2_subAt.frames + 1 ≤ R.frames ∧ 8 + (mX2_subAt.nL + 11) + rX2_subAt.locals ≤ R.locals) (hw : (rest.map fun v => v.category).sum ≤ 8) (hf : K ≤ R.cells ∧ N ≤ R.slots) (k : Cn E rX2_subAt mX2_subAt [rr E b, a1, a2, a3] M (fun r M2 => V E R mi fin K N M2 (pc + 3) L (pu r rest))) : V E R mi fin K N M pc L (a3 :: a2 :: a1 :: rr E b :: rest) := v_callV0 (Rq := rX2_subAt) [a1, a2, a3] rfl rfl d hM (T := TX2) rfl (by rw [hy]; exact pl 530 (by decide +kernel)) mfX2_subAt rfl hR hw hf k
theorem l_X7_133 {b : Nat} {fs : List Value} {a1 a2 : Value} {rest : List Value} (hy : mi.y.cls = RX7) (d : decode mi.cc pc = .ok (.invokevirtual 133, 3)) (hM : M[b]? = some (ob 2 fs)) (hR : rX2_indexAt.frames + 1 ≤ R.frames ∧ 8 + (mX2_indexAt.nL + 11) + rX2_indexAt.locals ≤ R.locals) (hw : (rest.map fun v => v.category).sum ≤ 8) (hf : K ≤ R.cells ∧ N ≤ R.slots) (k : Cn E rX2_indexAt mX2_indexAt [rr E b, a1, a2] M (fun r M2 => V E R mi fin K N M2 (pc + 3) L (pu r rest))) : V E R mi fin K N M pc L (a2 :: a1 :: rr E b :: rest) := v_callV0 (Rq := rX2_indexAt) [a1, a2] rfl rfl d hM (T := TX2) rfl (by rw [hy]; exact pl 540 (by decide +kernel)) mfX2_indexAt rfl hR hw hf k
theorem l_X7_137 {b : Nat} {fs : List Value} {a1 a2 : Value} {rest : List Value} (hy : mi.y.cls = RX7) (d : decode mi.cc pc = .ok (.invokevirtual 137, 3)) (hM : M[b]? = some (ob 2 fs)) (hR : rX2_rulingAt.frames + 1 ≤ R.frames ∧ 8 + (mX2_rulingAt.nL + 11) + rX2_rulingAt.locals ≤ R.locals) (hw : (rest.map fun v => v.category).sum ≤ 8) (hf : K ≤ R.cells ∧ N ≤ R.slots) (k : Cn E rX2_rulingAt mX2_rulingAt [rr E b, a1, a2] M (fun r M2 => V E R mi fin K N M2 (pc + 3) L (pu r rest))) : V E R mi fin K N M pc L (a2 :: a1 :: rr E b :: rest) := v_callV0 (Rq := rX2_rulingAt) [a1, a2] rfl rfl d hM (T := TX2) rfl (by rw [hy]; exact pl 545 (by decide +kernel)) mfX2_rulingAt rfl hR hw hf k
theorem l_X7_140 {b : Nat} {fs : List Value} {a1 : Value} {rest : List Value} (hy : mi.y.cls = RX7) (d : decode mi.cc pc = .ok (.invokevirtual 140, 3)) (hM : M[b]? = some (ob 2 fs)) (hR : rX2_bandOf.frames + 1 ≤ R.frames ∧ 8 + (mX2_bandOf.nL + 11) + rX2_bandOf.locals ≤ R.locals) (hw : (rest.map fun v => v.category).sum ≤ 8) (hf : K ≤ R.cells ∧ N ≤ R.slots) (k : Cn E rX2_bandOf mX2_bandOf [rr E b, a1] M (fun r M2 => V E R mi fin K N M2 (pc + 3) L (pu r rest))) : V E R mi fin K N M pc L (a1 :: rr E b :: rest) := v_callV0 (Rq := rX2_bandOf) [a1] rfl rfl d hM (T := TX2) rfl (by rw [hy]; exact pl 550 (by decide +kernel)) mfX2_bandOf rfl hR hw hf k
theorem l_X7_143 {b : Nat} {fs : List Value} {a1 : Value} {rest : List Value} (hy : mi.y.cls = RX7) (d : decode mi.cc pc = .ok (.invokevirtual 143, 3)) (hM : M[b]? = some (ob 2 fs)) (hR : rX2_hasHour.frames + 1 ≤ R.frames ∧ 8 + (mX2_hasHour.nL + 11) + rX2_hasHour.locals ≤ R.locals) (hw : (rest.map fun v => v.category).sum ≤ 8) (hf : K ≤ R.cells ∧ N ≤ R.slots) (k : Cn E rX2_hasHour mX2_hasHour [rr E b, a1] M (fun r M2 => V E R mi fin K N M2 (pc + 3) L (pu r rest))) : V E R mi fin K N M pc L (a1 :: rr E b :: rest) := v_callV0 (Rq := rX2_hasHour) [a1] rfl rfl d hM (T := TX2) rfl (by rw [hy]; exact pl 558 (by decide +kernel)) mfX2_hasHour rfl hR hw hf k
theorem l_X7_146 {b : Nat} {fs : List Value} {a1 a2 : Value} {rest : List Value} (hy : mi.y.cls = RX7) (d : decode mi.cc pc = .ok (.invokevirtual 146, 3)) (hM : M[b]? = some (ob 2 fs)) (hR : rX2_worstStationAt.frames + 1 ≤ R.frames ∧ 8 + (mX2_worstStationAt.nL + 11) + rX2_worstStationAt.locals ≤ R.locals) (hw : (rest.map fun v => v.category).sum ≤ 8) (hf : K ≤ R.cells ∧ N ≤ R.slots) (k : Cn E rX2_worstStationAt mX2_worstStationAt [rr E b, a1, a2] M (fun r M2 => V E R mi fin K N M2 (pc + 3) L (pu r rest))) : V E R mi fin K N M pc L (a2 :: a1 :: rr E b :: rest) := v_callV0 (Rq := rX2_worstStationAt) [a1, a2] rfl rfl d hM (T := TX2) rfl (by rw [hy]; exact pl 562 (by decide +kernel)) mfX2_worstStationAt rfl hR hw hf k
theorem l_X7_149 {b : Nat} {fs : List Value} {a1 a2 : Value} {rest : List Value} (hy : mi.y.cls = RX7) (d : decode mi.cc pc = .ok (.invokevirtual 149, 3)) (hM : M[b]? = some (ob 2 fs)) (hR : rX2_countIndexed.frames + 1 ≤ R.frames ∧ 8 + (mX2_countIndexed.nL + 11) + rX2_countIndexed.locals ≤ R.locals) (hw : (rest.map fun v => v.category).sum ≤ 8) (hf : K ≤ R.cells ∧ N ≤ R.slots) (k : Cn E rX2_countIndexed mX2_countIndexed [rr E b, a1, a2] M (fun r M2 => V E R mi fin K N M2 (pc + 3) L (pu r rest))) : V E R mi fin K N M pc L (a2 :: a1 :: rr E b :: rest) := v_callV0 (Rq := rX2_countIndexed) [a1, a2] rfl rfl d hM (T := TX2) rfl (by rw [hy]; exact pl 566 (by decide +kernel)) mfX2_countIndexed rfl hR hw hf k
theorem l_X7_152 {b : Nat} {fs : List Value} {a1 : Value} {rest : List Value} (hy : mi.y.cls = RX7) (d : decode mi.cc pc = .ok (.invokevirtual 152, 3)) (hM : M[b]? = some (ob 2 fs)) (hR : rX2_hasStation.frames + 1 ≤ R.frames ∧ 8 + (mX2_hasStation.nL + 11) + rX2_hasStation.locals ≤ R.locals) (hw : (rest.map fun v => v.category).sum ≤ 8) (hf : K ≤ R.cells ∧ N ≤ R.slots) (k : Cn E rX2_hasStation mX2_hasStation [rr E b, a1] M (fun r M2 => V E R mi fin K N M2 (pc + 3) L (pu r rest))) : V E R mi fin K N M pc L (a1 :: rr E b :: rest) := v_callV0 (Rq := rX2_hasStation) [a1] rfl rfl d hM (T := TX2) rfl (by rw [hy]; exact pl 574 (by decide +kernel)) mfX2_hasStation rfl hR hw hf k
theorem l_X7_155 {b : Nat} {fs : List Value} {a1 a2 a3 : Value} {rest : List Value} (hy : mi.y.cls = RX7) (d : decode mi.cc pc = .ok (.invokevirtual 155, 3)) (hM : M[b]? = some (ob 2 fs)) (hR : rX2_forecastBehind.frames + 1 ≤ R.frames ∧ 8 + (mX2_forecastBehind.nL + 11) + rX2_forecastBehind.locals ≤ R.locals) (hw : (rest.map fun v => v.category).sum ≤ 8) (hf : K ≤ R.cells ∧ N ≤ R.slots) (k : Cn E rX2_forecastBehind mX2_forecastBehind [rr E b, a1, a2, a3] M (fun r M2 => V E R mi fin K N M2 (pc + 3) L (pu r rest))) : V E R mi fin K N M pc L (a3 :: a2 :: a1 :: rr E b :: rest) := v_callV0 (Rq := rX2_forecastBehind) [a1, a2, a3] rfl rfl d hM (T := TX2) rfl (by rw [hy]; exact pl 586 (by decide +kernel)) mfX2_forecastBehind rfl hR hw hf k
theorem l_X7_158 {b : Nat} {fs : List Value} {a1 a2 a3 : Value} {rest : List Value} (hy : mi.y.cls = RX7) (d : decode mi.cc pc = .ok (.invokevirtual 158, 3)) (hM : M[b]? = some (ob 2 fs)) (hR : rX2_hasPlace.frames + 1 ≤ R.frames ∧ 8 + (mX2_hasPlace.nL + 11) + rX2_hasPlace.locals ≤ R.locals) (hw : (rest.map fun v => v.category).sum ≤ 8) (hf : K ≤ R.cells ∧ N ≤ R.slots) (k : Cn E rX2_hasPlace mX2_hasPlace [rr E b, a1, a2, a3] M (fun r M2 => V E R mi fin K N M2 (pc + 3) L (pu r rest))) : V E R mi fin K N M pc L (a3 :: a2 :: a1 :: rr E b :: rest) := v_callV0 (Rq := rX2_hasPlace) [a1, a2, a3] rfl rfl d hM (T := TX2) rfl (by rw [hy]; exact pl 595 (by decide +kernel)) mfX2_hasPlace rfl hR hw hf k
theorem l_X7_162 {b : Nat} {fs : List Value} {a1 : Value} {rest : List Value} (hy : mi.y.cls = RX7) (d : decode mi.cc pc = .ok (.invokevirtual 162, 3)) (hM : M[b]? = some (ob 2 fs)) (hR : rX2_bandStart.frames + 1 ≤ R.frames ∧ 8 + (mX2_bandStart.nL + 11) + rX2_bandStart.locals ≤ R.locals) (hw : (rest.map fun v => v.category).sum ≤ 8) (hf : K ≤ R.cells ∧ N ≤ R.slots) (k : Cn E rX2_bandStart mX2_bandStart [rr E b, a1] M (fun r M2 => V E R mi fin K N M2 (pc + 3) L (pu r rest))) : V E R mi fin K N M pc L (a1 :: rr E b :: rest) := v_callV0 (Rq := rX2_bandStart) [a1] rfl rfl d hM (T := TX2) rfl (by rw [hy]; exact pl 596 (by decide +kernel)) mfX2_bandStart rfl hR hw hf k
theorem l_X7_165 {b : Nat} {fs : List Value} {a1 a2 a3 a4 : Value} {rest : List Value} (hy : mi.y.cls = RX7) (d : decode mi.cc pc = .ok (.invokevirtual 165, 3)) (hM : M[b]? = some (ob 2 fs)) (hR : rX2_putRead.frames + 1 ≤ R.frames ∧ 8 + (mX2_putRead.nL + 11) + rX2_putRead.locals ≤ R.locals) (hw : (rest.map fun v => v.category).sum ≤ 8) (hf : K ≤ R.cells ∧ N ≤ R.slots) (k : Cn E rX2_putRead mX2_putRead [rr E b, a1, a2, a3, a4] M (fun r M2 => V E R mi fin K N M2 (pc + 3) L (pu r rest))) : V E R mi fin K N M pc L (a4 :: a3 :: a2 :: a1 :: rr E b :: rest) := v_callV0 (Rq := rX2_putRead) [a1, a2, a3, a4] rfl rfl d hM (T := TX2) rfl (by rw [hy]; exact pl 600 (by decide +kernel)) mfX2_putRead rfl hR hw hf k
theorem l_X7_169 {b : Nat} {fs : List Value} {a1 a2 a3 a4 : Value} {rest : List Value} (hy : mi.y.cls = RX7) (d : decode mi.cc pc = .ok (.invokevirtual 169, 3)) (hM : M[b]? = some (ob 7 fs)) (hR : rX7_canCorrect.frames + 1 ≤ R.frames ∧ 8 + (mX7_canCorrect.nL + 11) + rX7_canCorrect.locals ≤ R.locals) (hw : (rest.map fun v => v.category).sum ≤ 8) (hf : K ≤ R.cells ∧ N ≤ R.slots) (k : Cn E rX7_canCorrect mX7_canCorrect [rr E b, a1, a2, a3, a4] M (fun r M2 => V E R mi fin K N M2 (pc + 3) L (pu r rest))) : V E R mi fin K N M pc L (a4 :: a3 :: a2 :: a1 :: rr E b :: rest) := v_callV0 (Rq := rX7_canCorrect) [a1, a2, a3, a4] rfl rfl d hM (T := TX7) rfl (by rw [hy]; exact pl 605 (by decide +kernel)) mfX7_canCorrect rfl hR hw hf k
theorem l_X7_173 {b : Nat} {fs : List Value} {a1 a2 a3 a4 : Value} {rest : List Value} (hy : mi.y.cls = RX7) (d : decode mi.cc pc = .ok (.invokevirtual 173, 3)) (hM : M[b]? = some (ob 7 fs)) (hR : rX7_touchedHours.frames + 1 ≤ R.frames ∧ 8 + (mX7_touchedHours.nL + 11) + rX7_touchedHours.locals ≤ R.locals) (hw : (rest.map fun v => v.category).sum ≤ 8) (hf : K ≤ R.cells ∧ N ≤ R.slots) (k : Cn E rX7_touchedHours mX7_touchedHours [rr E b, a1, a2, a3, a4] M (fun r M2 => V E R mi fin K N M2 (pc + 3) L (pu r rest))) : V E R mi fin K N M pc L (a4 :: a3 :: a2 :: a1 :: rr E b :: rest) := v_callV0 (Rq := rX7_touchedHours) [a1, a2, a3, a4] rfl rfl d hM (T := TX7) rfl (by rw [hy]; exact pl 609 (by decide +kernel)) mfX7_touchedHours rfl hR hw hf k
theorem l_X7_177 {b : Nat} {fs : List Value} {a1 : Value} {rest : List Value} (hy : mi.y.cls = RX7) (d : decode mi.cc pc = .ok (.invokevirtual 177, 3)) (hM : M[b]? = some (ob 1 fs)) (hR : rX1_next.frames + 1 ≤ R.frames ∧ 8 + (mX1_next.nL + 11) + rX1_next.locals ≤ R.locals) (hw : (rest.map fun v => v.category).sum ≤ 8) (hf : K ≤ R.cells ∧ N ≤ R.slots) (k : Cn E rX1_next mX1_next [rr E b, a1] M (fun r M2 => V E R mi fin K N M2 (pc + 3) L (pu r rest))) : V E R mi fin K N M pc L (a1 :: rr E b :: rest) := v_callV0 (Rq := rX1_next) [a1] rfl rfl d hM (T := TX1) rfl (by rw [hy]; exact pl 617 (by decide +kernel)) mfX1_next rfl hR hw hf k
theorem l_X7_195 {a1 : Value} {rest : List Value} (hy : mi.y.cls = RX7) (d : decode mi.cc pc = .ok (.invokestatic 195, 3)) (hR : rJ6_bitCount_0f7a4.frames + 1 ≤ R.frames ∧ 8 + (mJ6_bitCount_0f7a4.nL + 11) + rJ6_bitCount_0f7a4.locals ≤ R.locals) (hw : (rest.map fun v => v.category).sum ≤ 8) (hf : K ≤ R.cells ∧ N ≤ R.slots) (k : Cn E rJ6_bitCount_0f7a4 mJ6_bitCount_0f7a4 [a1] M (fun r M2 => V E R mi fin K N M2 (pc + 3) L (pu r rest))) : V E R mi fin K N M pc L (a1 :: rest) := v_callS0 (Rq := rJ6_bitCount_0f7a4) [a1] rfl rfl d (by rw [hy]; exact pl 625 (by decide +kernel)) mfJ6_bitCount_0f7a4 rfl hR hw hf k
theorem l_X7_209 {b : Nat} {fs : List Value} {rest : List Value} (hy : mi.y.cls = RX7) (d : decode mi.cc pc = .ok (.invokevirtual 209, 3)) (hM : M[b]? = some (ob 1 fs)) (hR : rX1_takeLatest.frames + 1 ≤ R.frames ∧ 8 + (mX1_takeLatest.nL + 11) + rX1_takeLatest.locals ≤ R.locals) (hw : (rest.map fun v => v.category).sum ≤ 8) (hf : K ≤ R.cells ∧ N ≤ R.slots) (k : Cn E rX1_takeLatest mX1_takeLatest [rr E b] M (fun r M2 => V E R mi fin K N M2 (pc + 3) L (pu r rest))) : V E R mi fin K N M pc L (rr E b :: rest) := v_callV0 (Rq := rX1_takeLatest) [] rfl rfl d hM (T := TX1) rfl (by rw [hy]; exact pl 647 (by decide +kernel)) mfX1_takeLatest rfl hR hw hf k
theorem l_X7_213 {b : Nat} {fs : List Value} {a1 : Value} {rest : List Value} (hy : mi.y.cls = RX7) (d : decode mi.cc pc = .ok (.invokevirtual 213, 3)) (hM : M[b]? = some (ob 7 fs)) (hR : rX7_takeBack.frames + 1 ≤ R.frames ∧ 8 + (mX7_takeBack.nL + 11) + rX7_takeBack.locals ≤ R.locals) (hw : (rest.map fun v => v.category).sum ≤ 8) (hf : K ≤ R.cells ∧ N ≤ R.slots) (k : Cn E rX7_takeBack mX7_takeBack [rr E b, a1] M (fun r M2 => V E R mi fin K N M2 (pc + 3) L (pu r rest))) : V E R mi fin K N M pc L (a1 :: rr E b :: rest) := v_callV0 (Rq := rX7_takeBack) [a1] rfl rfl d hM (T := TX7) rfl (by rw [hy]; exact pl 651 (by decide +kernel)) mfX7_takeBack rfl hR hw hf k
theorem l_X1_22 {b : Nat} {fs : List Value} {rest : List Value} (hy : mi.y.cls = RX1) (d : decode mi.cc pc = .ok (.invokevirtual 22, 3)) (hM : M[b]? = some (ob 1 fs)) (hR : rX1_forgetOldest.frames + 1 ≤ R.frames ∧ 8 + (mX1_forgetOldest.nL + 11) + rX1_forgetOldest.locals ≤ R.locals) (hw : (rest.map fun v => v.category).sum ≤ 8) (hf : K ≤ R.cells ∧ N ≤ R.slots) (k : Cn E rX1_forgetOldest mX1_forgetOldest [rr E b] M (fun r M2 => V E R mi fin K N M2 (pc + 3) L (pu r rest))) : V E R mi fin K N M pc L (rr E b :: rest) := v_callV0 (Rq := rX1_forgetOldest) [] rfl rfl d hM (T := TX1) rfl (by rw [hy]; exact pl 621 (by decide +kernel)) mfX1_forgetOldest rfl hR hw hf k
theorem l_X2_43 {b : Nat} {fs : List Value} {rest : List Value} (hy : mi.y.cls = RX2) (d : decode mi.cc pc = .ok (.invokevirtual 43, 3)) (hM : M[b]? = some (ob 2 fs)) (hR : rX2_clear.frames + 1 ≤ R.frames ∧ 8 + (mX2_clear.nL + 11) + rX2_clear.locals ≤ R.locals) (hw : (rest.map fun v => v.category).sum ≤ 8) (hf : K ≤ R.cells ∧ N ≤ R.slots) (k : Cn E rX2_clear mX2_clear [rr E b] M (fun r M2 => V E R mi fin K N M2 (pc + 3) L (pu r rest))) : V E R mi fin K N M pc L (rr E b :: rest) := v_callV0 (Rq := rX2_clear) [] rfl rfl d hM (T := TX2) rfl (by rw [hy]; exact pl 254 (by decide +kernel)) mfX2_clear rfl hR hw hf k
theorem l_X2_46 {b : Nat} {fs : List Value} {a1 a2 : Value} {rest : List Value} (hy : mi.y.cls = RX2) (d : decode mi.cc pc = .ok (.invokevirtual 46, 3)) (hM : M[b]? = some (ob 2 fs)) (hR : rX2_addSubstance.frames + 1 ≤ R.frames ∧ 8 + (mX2_addSubstance.nL + 11) + rX2_addSubstance.locals ≤ R.locals) (hw : (rest.map fun v => v.category).sum ≤ 8) (hf : K ≤ R.cells ∧ N ≤ R.slots) (k : Cn E rX2_addSubstance mX2_addSubstance [rr E b, a1, a2] M (fun r M2 => V E R mi fin K N M2 (pc + 3) L (pu r rest))) : V E R mi fin K N M pc L (a2 :: a1 :: rr E b :: rest) := v_callV0 (Rq := rX2_addSubstance) [a1, a2] rfl rfl d hM (T := TX2) rfl (by rw [hy]; exact pl 258 (by decide +kernel)) mfX2_addSubstance rfl hR hw hf k
theorem l_X2_50 {b : Nat} {fs : List Value} {a1 a2 : Value} {rest : List Value} (hy : mi.y.cls = RX2) (d : decode mi.cc pc = .ok (.invokevirtual 50, 3)) (hM : M[b]? = some (ob 3 fs)) (hR : rX3_addPoint.frames + 1 ≤ R.frames ∧ 8 + (mX3_addPoint.nL + 11) + rX3_addPoint.locals ≤ R.locals) (hw : (rest.map fun v => v.category).sum ≤ 8) (hf : K ≤ R.cells ∧ N ≤ R.slots) (k : Cn E rX3_addPoint mX3_addPoint [rr E b, a1, a2] M (fun r M2 => V E R mi fin K N M2 (pc + 3) L (pu r rest))) : V E R mi fin K N M pc L (a2 :: a1 :: rr E b :: rest) := v_callV0 (Rq := rX3_addPoint) [a1, a2] rfl rfl d hM (T := TX3) rfl (by rw [hy]; exact pl 262 (by decide +kernel)) mfX3_addPoint rfl hR hw hf k
theorem l_X2_54 {b : Nat} {fs : List Value} {a1 : Value} {rest : List Value} (hy : mi.y.cls = RX2) (d : decode mi.cc pc = .ok (.invokevirtual 54, 3)) (hM : M[b]? = some (ob 2 fs)) (hR : rX2_addStation.frames + 1 ≤ R.frames ∧ 8 + (mX2_addStation.nL + 11) + rX2_addStation.locals ≤ R.locals) (hw : (rest.map fun v => v.category).sum ≤ 8) (hf : K ≤ R.cells ∧ N ≤ R.slots) (k : Cn E rX2_addStation mX2_addStation [rr E b, a1] M (fun r M2 => V E R mi fin K N M2 (pc + 3) L (pu r rest))) : V E R mi fin K N M pc L (a1 :: rr E b :: rest) := v_callV0 (Rq := rX2_addStation) [a1] rfl rfl d hM (T := TX2) rfl (by rw [hy]; exact pl 266 (by decide +kernel)) mfX2_addStation rfl hR hw hf k
theorem l_X2_67 {b : Nat} {fs : List Value} {a1 a2 a3 : Value} {rest : List Value} (hy : mi.y.cls = RX2) (d : decode mi.cc pc = .ok (.invokevirtual 67, 3)) (hM : M[b]? = some (ob 2 fs)) (hR : rX2_hasPlace.frames + 1 ≤ R.frames ∧ 8 + (mX2_hasPlace.nL + 11) + rX2_hasPlace.locals ≤ R.locals) (hw : (rest.map fun v => v.category).sum ≤ 8) (hf : K ≤ R.cells ∧ N ≤ R.slots) (k : Cn E rX2_hasPlace mX2_hasPlace [rr E b, a1, a2, a3] M (fun r M2 => V E R mi fin K N M2 (pc + 3) L (pu r rest))) : V E R mi fin K N M pc L (a3 :: a2 :: a1 :: rr E b :: rest) := v_callV0 (Rq := rX2_hasPlace) [a1, a2, a3] rfl rfl d hM (T := TX2) rfl (by rw [hy]; exact pl 471 (by decide +kernel)) mfX2_hasPlace rfl hR hw hf k
theorem l_X2_71 {b : Nat} {fs : List Value} {a1 : Value} {rest : List Value} (hy : mi.y.cls = RX2) (d : decode mi.cc pc = .ok (.invokevirtual 71, 3)) (hM : M[b]? = some (ob 2 fs)) (hR : rX2_substanceAt.frames + 1 ≤ R.frames ∧ 8 + (mX2_substanceAt.nL + 11) + rX2_substanceAt.locals ≤ R.locals) (hw : (rest.map fun v => v.category).sum ≤ 8) (hf : K ≤ R.cells ∧ N ≤ R.slots) (k : Cn E rX2_substanceAt mX2_substanceAt [rr E b, a1] M (fun r M2 => V E R mi fin K N M2 (pc + 3) L (pu r rest))) : V E R mi fin K N M pc L (a1 :: rr E b :: rest) := v_callV0 (Rq := rX2_substanceAt) [a1] rfl rfl d hM (T := TX2) rfl (by rw [hy]; exact pl 507 (by decide +kernel)) mfX2_substanceAt rfl hR hw hf k
theorem l_X2_75 {x y : Int} (hy : mi.y.cls = RX2) (d : decode mi.cc pc = .ok (.invokestatic 75, 3)) (hx : I32 x) (hy2 : I32 y) (hR : 1 ≤ R.frames) (hR2 : (st.map fun v => v.category).sum + 13 ≤ R.locals) (hf : K ≤ R.cells ∧ N ≤ R.slots) (k : V E R mi fin K N M (pc + 3) L (iv (max x y) :: st)) : V E R mi fin K N M pc L (iv y :: iv x :: st) := v_max d (by rw [hy]; exact pl 511 (by decide +kernel)) (pl 465 (by decide +kernel)) (pl 57 (by decide +kernel)) (pl 466 (by decide +kernel)) hx hy2 hR hR2 hf.1 hf.2 k
theorem l_X2_81 {b : Nat} {fs : List Value} {a1 a2 a3 : Value} {rest : List Value} (hy : mi.y.cls = RX2) (d : decode mi.cc pc = .ok (.invokevirtual 81, 3)) (hM : M[b]? = some (ob 2 fs)) (hR : rX2_readAt.frames + 1 ≤ R.frames ∧ 8 + (mX2_readAt.nL + 11) + rX2_readAt.locals ≤ R.locals) (hw : (rest.map fun v => v.category).sum ≤ 8) (hf : K ≤ R.cells ∧ N ≤ R.slots) (k : Cn E rX2_readAt mX2_readAt [rr E b, a1, a2, a3] M (fun r M2 => V E R mi fin K N M2 (pc + 3) L (pu r rest))) : V E R mi fin K N M pc L (a3 :: a2 :: a1 :: rr E b :: rest) := v_callV0 (Rq := rX2_readAt) [a1, a2, a3] rfl rfl d hM (T := TX2) rfl (by rw [hy]; exact pl 512 (by decide +kernel)) mfX2_readAt rfl hR hw hf k
theorem l_X2_85 {b : Nat} {fs : List Value} {a1 a2 a3 : Value} {rest : List Value} (hy : mi.y.cls = RX2) (d : decode mi.cc pc = .ok (.invokevirtual 85, 3)) (hM : M[b]? = some (ob 2 fs)) (hR : rX2_meanAt.frames + 1 ≤ R.frames ∧ 8 + (mX2_meanAt.nL + 11) + rX2_meanAt.locals ≤ R.locals) (hw : (rest.map fun v => v.category).sum ≤ 8) (hf : K ≤ R.cells ∧ N ≤ R.slots) (k : Cn E rX2_meanAt mX2_meanAt [rr E b, a1, a2, a3] M (fun r M2 => V E R mi fin K N M2 (pc + 3) L (pu r rest))) : V E R mi fin K N M pc L (a3 :: a2 :: a1 :: rr E b :: rest) := v_callV0 (Rq := rX2_meanAt) [a1, a2, a3] rfl rfl d hM (T := TX2) rfl (by rw [hy]; exact pl 534 (by decide +kernel)) mfX2_meanAt rfl hR hw hf k
theorem l_X2_88 {b : Nat} {fs : List Value} {a1 : Value} {rest : List Value} (hy : mi.y.cls = RX2) (d : decode mi.cc pc = .ok (.invokevirtual 88, 3)) (hM : M[b]? = some (ob 3 fs)) (hR : rX3_subAtLevel.frames + 1 ≤ R.frames ∧ 8 + (mX3_subAtLevel.nL + 11) + rX3_subAtLevel.locals ≤ R.locals) (hw : (rest.map fun v => v.category).sum ≤ 8) (hf : K ≤ R.cells ∧ N ≤ R.slots) (k : Cn E rX3_subAtLevel mX3_subAtLevel [rr E b, a1] M (fun r M2 => V E R mi fin K N M2 (pc + 3) L (pu r rest))) : V E R mi fin K N M pc L (a1 :: rr E b :: rest) := v_callV0 (Rq := rX3_subAtLevel) [a1] rfl rfl d hM (T := TX3) rfl (by rw [hy]; exact pl 535 (by decide +kernel)) mfX3_subAtLevel rfl hR hw hf k
theorem l_X2_92 {b : Nat} {fs : List Value} {a1 a2 a3 : Value} {rest : List Value} (hy : mi.y.cls = RX2) (d : decode mi.cc pc = .ok (.invokevirtual 92, 3)) (hM : M[b]? = some (ob 2 fs)) (hR : rX2_subAt.frames + 1 ≤ R.frames ∧ 8 + (mX2_subAt.nL + 11) + rX2_subAt.locals ≤ R.locals) (hw : (rest.map fun v => v.category).sum ≤ 8) (hf : K ≤ R.cells ∧ N ≤ R.slots) (k : Cn E rX2_subAt mX2_subAt [rr E b, a1, a2, a3] M (fun r M2 => V E R mi fin K N M2 (pc + 3) L (pu r rest))) : V E R mi fin K N M pc L (a3 :: a2 :: a1 :: rr E b :: rest) := v_callV0 (Rq := rX2_subAt) [a1, a2, a3] rfl rfl d hM (T := TX2) rfl (by rw [hy]; exact pl 544 (by decide +kernel)) mfX2_subAt rfl hR hw hf k
theorem l_X2_95 {b : Nat} {fs : List Value} {a1 a2 : Value} {rest : List Value} (hy : mi.y.cls = RX2) (d : decode mi.cc pc = .ok (.invokevirtual 95, 3)) (hM : M[b]? = some (ob 2 fs)) (hR : rX2_indexAt.frames + 1 ≤ R.frames ∧ 8 + (mX2_indexAt.nL + 11) + rX2_indexAt.locals ≤ R.locals) (hw : (rest.map fun v => v.category).sum ≤ 8) (hf : K ≤ R.cells ∧ N ≤ R.slots) (k : Cn E rX2_indexAt mX2_indexAt [rr E b, a1, a2] M (fun r M2 => V E R mi fin K N M2 (pc + 3) L (pu r rest))) : V E R mi fin K N M pc L (a2 :: a1 :: rr E b :: rest) := v_callV0 (Rq := rX2_indexAt) [a1, a2] rfl rfl d hM (T := TX2) rfl (by rw [hy]; exact pl 549 (by decide +kernel)) mfX2_indexAt rfl hR hw hf k
theorem l_X5_33 {b : Nat} {fs : List Value} {rest : List Value} (hy : mi.y.cls = RX5) (d : decode mi.cc pc = .ok (.invokevirtual 33, 3)) (hM : M[b]? = some (ob 6 fs)) (hR : rX6_moveToFirst.frames + 1 ≤ R.frames ∧ 8 + (mX6_moveToFirst.nL + 11) + rX6_moveToFirst.locals ≤ R.locals) (hw : (rest.map fun v => v.category).sum ≤ 8) (hf : K ≤ R.cells ∧ N ≤ R.slots) (k : Cn E rX6_moveToFirst mX6_moveToFirst [rr E b] M (fun r M2 => V E R mi fin K N M2 (pc + 3) L (pu r rest))) : V E R mi fin K N M pc L (rr E b :: rest) := v_callV0 (Rq := rX6_moveToFirst) [] rfl rfl d hM (T := TX6) rfl (by rw [hy]; exact pl 315 (by decide +kernel)) mfX6_moveToFirst rfl hR hw hf k
theorem l_X5_38 {b : Nat} {fs : List Value} {a1 : Value} {rest : List Value} (hy : mi.y.cls = RX5) (d : decode mi.cc pc = .ok (.invokevirtual 38, 3)) (hM : M[b]? = some (ob 5 fs)) (hR : rX5_takesWord.frames + 1 ≤ R.frames ∧ 8 + (mX5_takesWord.nL + 11) + rX5_takesWord.locals ≤ R.locals) (hw : (rest.map fun v => v.category).sum ≤ 8) (hf : K ≤ R.cells ∧ N ≤ R.slots) (k : Cn E rX5_takesWord mX5_takesWord [rr E b, a1] M (fun r M2 => V E R mi fin K N M2 (pc + 3) L (pu r rest))) : V E R mi fin K N M pc L (a1 :: rr E b :: rest) := v_callV0 (Rq := rX5_takesWord) [a1] rfl rfl d hM (T := TX5) rfl (by rw [hy]; exact pl 343 (by decide +kernel)) mfX5_takesWord rfl hR hw hf k
theorem l_X5_42 {b : Nat} {fs : List Value} {a1 a2 : Value} {rest : List Value} (hy : mi.y.cls = RX5) (d : decode mi.cc pc = .ok (.invokevirtual 42, 3)) (hM : M[b]? = some (ob 5 fs)) (hR : rX5_takesNumber.frames + 1 ≤ R.frames ∧ 8 + (mX5_takesNumber.nL + 11) + rX5_takesNumber.locals ≤ R.locals) (hw : (rest.map fun v => v.category).sum ≤ 8) (hf : K ≤ R.cells ∧ N ≤ R.slots) (k : Cn E rX5_takesNumber mX5_takesNumber [rr E b, a1, a2] M (fun r M2 => V E R mi fin K N M2 (pc + 3) L (pu r rest))) : V E R mi fin K N M pc L (a2 :: a1 :: rr E b :: rest) := v_callV0 (Rq := rX5_takesNumber) [a1, a2] rfl rfl d hM (T := TX5) rfl (by rw [hy]; exact pl 404 (by decide +kernel)) mfX5_takesNumber rfl hR hw hf k
theorem l_X5_49 {b : Nat} {fs : List Value} {a1 a2 : Value} {rest : List Value} (hy : mi.y.cls = RX5) (d : decode mi.cc pc = .ok (.invokevirtual 49, 3)) (hM : M[b]? = some (ob 2 fs)) (hR : rX2_putBand.frames + 1 ≤ R.frames ∧ 8 + (mX2_putBand.nL + 11) + rX2_putBand.locals ≤ R.locals) (hw : (rest.map fun v => v.category).sum ≤ 8) (hf : K ≤ R.cells ∧ N ≤ R.slots) (k : Cn E rX2_putBand mX2_putBand [rr E b, a1, a2] M (fun r M2 => V E R mi fin K N M2 (pc + 3) L (pu r rest))) : V E R mi fin K N M pc L (a2 :: a1 :: rr E b :: rest) := v_callV0 (Rq := rX2_putBand) [a1, a2] rfl rfl d hM (T := TX2) rfl (by rw [hy]; exact pl 412 (by decide +kernel)) mfX2_putBand rfl hR hw hf k
theorem l_X5_55 {b : Nat} {fs : List Value} {rest : List Value} (hy : mi.y.cls = RX5) (d : decode mi.cc pc = .ok (.invokevirtual 55, 3)) (hM : M[b]? = some (ob 5 fs)) (hR : rX5_takesSemicolon.frames + 1 ≤ R.frames ∧ 8 + (mX5_takesSemicolon.nL + 11) + rX5_takesSemicolon.locals ≤ R.locals) (hw : (rest.map fun v => v.category).sum ≤ 8) (hf : K ≤ R.cells ∧ N ≤ R.slots) (k : Cn E rX5_takesSemicolon mX5_takesSemicolon [rr E b] M (fun r M2 => V E R mi fin K N M2 (pc + 3) L (pu r rest))) : V E R mi fin K N M pc L (rr E b :: rest) := v_callV0 (Rq := rX5_takesSemicolon) [] rfl rfl d hM (T := TX5) rfl (by rw [hy]; exact pl 416 (by decide +kernel)) mfX5_takesSemicolon rfl hR hw hf k
theorem l_X5_66 {b : Nat} {fs : List Value} {a1 : Value} {rest : List Value} (hy : mi.y.cls = RX5) (d : decode mi.cc pc = .ok (.invokevirtual 66, 3)) (hM : M[b]? = some (ob 6 fs)) (hR : rX6_isWord.frames + 1 ≤ R.frames ∧ 8 + (mX6_isWord.nL + 11) + rX6_isWord.locals ≤ R.locals) (hw : (rest.map fun v => v.category).sum ≤ 8) (hf : K ≤ R.cells ∧ N ≤ R.slots) (k : Cn E rX6_isWord mX6_isWord [rr E b, a1] M (fun r M2 => V E R mi fin K N M2 (pc + 3) L (pu r rest))) : V E R mi fin K N M pc L (a1 :: rr E b :: rest) := v_callV0 (Rq := rX6_isWord) [a1] rfl rfl d hM (T := TX6) rfl (by rw [hy]; exact pl 347 (by decide +kernel)) mfX6_isWord rfl hR hw hf k
theorem l_X5_69 {b : Nat} {fs : List Value} {a1 : Value} {rest : List Value} (hy : mi.y.cls = RX5) (d : decode mi.cc pc = .ok (.invokevirtual 69, 3)) (hM : M[b]? = some (ob 5 fs)) (hR : rX5_readsSubstance.frames + 1 ≤ R.frames ∧ 8 + (mX5_readsSubstance.nL + 11) + rX5_readsSubstance.locals ≤ R.locals) (hw : (rest.map fun v => v.category).sum ≤ 8) (hf : K ≤ R.cells ∧ N ≤ R.slots) (k : Cn E rX5_readsSubstance mX5_readsSubstance [rr E b, a1] M (fun r M2 => V E R mi fin K N M2 (pc + 3) L (pu r rest))) : V E R mi fin K N M pc L (a1 :: rr E b :: rest) := v_callV0 (Rq := rX5_readsSubstance) [a1] rfl rfl d hM (T := TX5) rfl (by rw [hy]; exact pl 430 (by decide +kernel)) mfX5_readsSubstance rfl hR hw hf k
theorem l_X5_73 {b : Nat} {fs : List Value} {a1 : Value} {rest : List Value} (hy : mi.y.cls = RX5) (d : decode mi.cc pc = .ok (.invokevirtual 73, 3)) (hM : M[b]? = some (ob 5 fs)) (hR : rX5_refuses.frames + 1 ≤ R.frames ∧ 8 + (mX5_refuses.nL + 11) + rX5_refuses.locals ≤ R.locals) (hw : (rest.map fun v => v.category).sum ≤ 8) (hf : K ≤ R.cells ∧ N ≤ R.slots) (k : Cn E rX5_refuses mX5_refuses [rr E b, a1] M (fun r M2 => V E R mi fin K N M2 (pc + 3) L (pu r rest))) : V E R mi fin K N M pc L (a1 :: rr E b :: rest) := v_callV0 (Rq := rX5_refuses) [a1] rfl rfl d hM (T := TX5) rfl (by rw [hy]; exact pl 399 (by decide +kernel)) mfX5_refuses rfl hR hw hf k
theorem l_X5_77 {b : Nat} {fs : List Value} {a1 a2 : Value} {rest : List Value} (hy : mi.y.cls = RX5) (d : decode mi.cc pc = .ok (.invokevirtual 77, 3)) (hM : M[b]? = some (ob 2 fs)) (hR : rX2_addSubstance.frames + 1 ≤ R.frames ∧ 8 + (mX2_addSubstance.nL + 11) + rX2_addSubstance.locals ≤ R.locals) (hw : (rest.map fun v => v.category).sum ≤ 8) (hf : K ≤ R.cells ∧ N ≤ R.slots) (k : Cn E rX2_addSubstance mX2_addSubstance [rr E b, a1, a2] M (fun r M2 => V E R mi fin K N M2 (pc + 3) L (pu r rest))) : V E R mi fin K N M pc L (a2 :: a1 :: rr E b :: rest) := v_callV0 (Rq := rX2_addSubstance) [a1, a2] rfl rfl d hM (T := TX2) rfl (by rw [hy]; exact pl 434 (by decide +kernel)) mfX2_addSubstance rfl hR hw hf k
theorem l_X5_81 {b : Nat} {fs : List Value} {a1 : Value} {rest : List Value} (hy : mi.y.cls = RX5) (d : decode mi.cc pc = .ok (.invokevirtual 81, 3)) (hM : M[b]? = some (ob 5 fs)) (hR : rX5_readsPoints.frames + 1 ≤ R.frames ∧ 8 + (mX5_readsPoints.nL + 11) + rX5_readsPoints.locals ≤ R.locals) (hw : (rest.map fun v => v.category).sum ≤ 8) (hf : K ≤ R.cells ∧ N ≤ R.slots) (k : Cn E rX5_readsPoints mX5_readsPoints [rr E b, a1] M (fun r M2 => V E R mi fin K N M2 (pc + 3) L (pu r rest))) : V E R mi fin K N M pc L (a1 :: rr E b :: rest) := v_callV0 (Rq := rX5_readsPoints) [a1] rfl rfl d hM (T := TX5) rfl (by rw [hy]; exact pl 435 (by decide +kernel)) mfX5_readsPoints rfl hR hw hf k
theorem l_X5_88 {b : Nat} {fs : List Value} {a1 a2 : Value} {rest : List Value} (hy : mi.y.cls = RX5) (d : decode mi.cc pc = .ok (.invokevirtual 88, 3)) (hM : M[b]? = some (ob 3 fs)) (hR : rX3_addPoint.frames + 1 ≤ R.frames ∧ 8 + (mX3_addPoint.nL + 11) + rX3_addPoint.locals ≤ R.locals) (hw : (rest.map fun v => v.category).sum ≤ 8) (hf : K ≤ R.cells ∧ N ≤ R.slots) (k : Cn E rX3_addPoint mX3_addPoint [rr E b, a1, a2] M (fun r M2 => V E R mi fin K N M2 (pc + 3) L (pu r rest))) : V E R mi fin K N M pc L (a2 :: a1 :: rr E b :: rest) := v_callV0 (Rq := rX3_addPoint) [a1, a2] rfl rfl d hM (T := TX3) rfl (by rw [hy]; exact pl 439 (by decide +kernel)) mfX3_addPoint rfl hR hw hf k
theorem l_X5_93 {b : Nat} {fs : List Value} {a1 a2 : Value} {rest : List Value} (hy : mi.y.cls = RX5) (d : decode mi.cc pc = .ok (.invokevirtual 93, 3)) (hM : M[b]? = some (ob 5 fs)) (hR : rX5_isNumberWithin.frames + 1 ≤ R.frames ∧ 8 + (mX5_isNumberWithin.nL + 11) + rX5_isNumberWithin.locals ≤ R.locals) (hw : (rest.map fun v => v.category).sum ≤ 8) (hf : K ≤ R.cells ∧ N ≤ R.slots) (k : Cn E rX5_isNumberWithin mX5_isNumberWithin [rr E b, a1, a2] M (fun r M2 => V E R mi fin K N M2 (pc + 3) L (pu r rest))) : V E R mi fin K N M pc L (a2 :: a1 :: rr E b :: rest) := v_callV0 (Rq := rX5_isNumberWithin) [a1, a2] rfl rfl d hM (T := TX5) rfl (by rw [hy]; exact pl 408 (by decide +kernel)) mfX5_isNumberWithin rfl hR hw hf k
theorem l_X5_98 {b : Nat} {fs : List Value} {a1 : Value} {rest : List Value} (hy : mi.y.cls = RX5) (d : decode mi.cc pc = .ok (.invokevirtual 98, 3)) (hM : M[b]? = some (ob 2 fs)) (hR : rX2_addStation.frames + 1 ≤ R.frames ∧ 8 + (mX2_addStation.nL + 11) + rX2_addStation.locals ≤ R.locals) (hw : (rest.map fun v => v.category).sum ≤ 8) (hf : K ≤ R.cells ∧ N ≤ R.slots) (k : Cn E rX2_addStation mX2_addStation [rr E b, a1] M (fun r M2 => V E R mi fin K N M2 (pc + 3) L (pu r rest))) : V E R mi fin K N M pc L (a1 :: rr E b :: rest) := v_callV0 (Rq := rX2_addStation) [a1] rfl rfl d hM (T := TX2) rfl (by rw [hy]; exact pl 445 (by decide +kernel)) mfX2_addStation rfl hR hw hf k
theorem l_X5_102 {b : Nat} {fs : List Value} {a1 : Value} {rest : List Value} (hy : mi.y.cls = RX5) (d : decode mi.cc pc = .ok (.invokevirtual 102, 3)) (hM : M[b]? = some (ob 5 fs)) (hR : rX5_readsSeries.frames + 1 ≤ R.frames ∧ 8 + (mX5_readsSeries.nL + 11) + rX5_readsSeries.locals ≤ R.locals) (hw : (rest.map fun v => v.category).sum ≤ 8) (hf : K ≤ R.cells ∧ N ≤ R.slots) (k : Cn E rX5_readsSeries mX5_readsSeries [rr E b, a1] M (fun r M2 => V E R mi fin K N M2 (pc + 3) L (pu r rest))) : V E R mi fin K N M pc L (a1 :: rr E b :: rest) := v_callV0 (Rq := rX5_readsSeries) [a1] rfl rfl d hM (T := TX5) rfl (by rw [hy]; exact pl 450 (by decide +kernel)) mfX5_readsSeries rfl hR hw hf k
theorem l_X5_116 {b : Nat} {fs : List Value} {rest : List Value} (hy : mi.y.cls = RX5) (d : decode mi.cc pc = .ok (.invokevirtual 116, 3)) (hM : M[b]? = some (ob 6 fs)) (hR : rX6_moveToNext.frames + 1 ≤ R.frames ∧ 8 + (mX6_moveToNext.nL + 11) + rX6_moveToNext.locals ≤ R.locals) (hw : (rest.map fun v => v.category).sum ≤ 8) (hf : K ≤ R.cells ∧ N ≤ R.slots) (k : Cn E rX6_moveToNext mX6_moveToNext [rr E b] M (fun r M2 => V E R mi fin K N M2 (pc + 3) L (pu r rest))) : V E R mi fin K N M pc L (rr E b :: rest) := v_callV0 (Rq := rX6_moveToNext) [] rfl rfl d hM (T := TX6) rfl (by rw [hy]; exact pl 403 (by decide +kernel)) mfX6_moveToNext rfl hR hw hf k
theorem l_X5_119 {b : Nat} {fs : List Value} {a1 a2 a3 : Value} {rest : List Value} (hy : mi.y.cls = RX5) (d : decode mi.cc pc = .ok (.invokevirtual 119, 3)) (hM : M[b]? = some (ob 5 fs)) (hR : rX5_readsReads.frames + 1 ≤ R.frames ∧ 8 + (mX5_readsReads.nL + 11) + rX5_readsReads.locals ≤ R.locals) (hw : (rest.map fun v => v.category).sum ≤ 8) (hf : K ≤ R.cells ∧ N ≤ R.slots) (k : Cn E rX5_readsReads mX5_readsReads [rr E b, a1, a2, a3] M (fun r M2 => V E R mi fin K N M2 (pc + 3) L (pu r rest))) : V E R mi fin K N M pc L (a3 :: a2 :: a1 :: rr E b :: rest) := v_callV0 (Rq := rX5_readsReads) [a1, a2, a3] rfl rfl d hM (T := TX5) rfl (by rw [hy]; exact pl 455 (by decide +kernel)) mfX5_readsReads rfl hR hw hf k
theorem l_X5_123 {b : Nat} {fs : List Value} {rest : List Value} (hy : mi.y.cls = RX5) (d : decode mi.cc pc = .ok (.invokevirtual 123, 3)) (hM : M[b]? = some (ob 5 fs)) (hR : rX5_isRead.frames + 1 ≤ R.frames ∧ 8 + (mX5_isRead.nL + 11) + rX5_isRead.locals ≤ R.locals) (hw : (rest.map fun v => v.category).sum ≤ 8) (hf : K ≤ R.cells ∧ N ≤ R.slots) (k : Cn E rX5_isRead mX5_isRead [rr E b] M (fun r M2 => V E R mi fin K N M2 (pc + 3) L (pu r rest))) : V E R mi fin K N M pc L (rr E b :: rest) := v_callV0 (Rq := rX5_isRead) [] rfl rfl d hM (T := TX5) rfl (by rw [hy]; exact pl 459 (by decide +kernel)) mfX5_isRead rfl hR hw hf k
theorem l_X5_129 {x y : Int} (hy : mi.y.cls = RX5) (d : decode mi.cc pc = .ok (.invokestatic 129, 3)) (hx : I32 x) (hy2 : I32 y) (hR : 1 ≤ R.frames) (hR2 : (st.map fun v => v.category).sum + 13 ≤ R.locals) (hf : K ≤ R.cells ∧ N ≤ R.slots) (k : V E R mi fin K N M (pc + 3) L (iv (max x y) :: st)) : V E R mi fin K N M pc L (iv y :: iv x :: st) := v_max d (by rw [hy]; exact pl 464 (by decide +kernel)) (pl 465 (by decide +kernel)) (pl 57 (by decide +kernel)) (pl 466 (by decide +kernel)) hx hy2 hR hR2 hf.1 hf.2 k
theorem l_X5_135 {b : Nat} {fs : List Value} {a1 a2 a3 a4 : Value} {rest : List Value} (hy : mi.y.cls = RX5) (d : decode mi.cc pc = .ok (.invokevirtual 135, 3)) (hM : M[b]? = some (ob 2 fs)) (hR : rX2_putRead.frames + 1 ≤ R.frames ∧ 8 + (mX2_putRead.nL + 11) + rX2_putRead.locals ≤ R.locals) (hw : (rest.map fun v => v.category).sum ≤ 8) (hf : K ≤ R.cells ∧ N ≤ R.slots) (k : Cn E rX2_putRead mX2_putRead [rr E b, a1, a2, a3, a4] M (fun r M2 => V E R mi fin K N M2 (pc + 3) L (pu r rest))) : V E R mi fin K N M pc L (a4 :: a3 :: a2 :: a1 :: rr E b :: rest) := v_callV0 (Rq := rX2_putRead) [a1, a2, a3, a4] rfl rfl d hM (T := TX2) rfl (by rw [hy]; exact pl 467 (by decide +kernel)) mfX2_putRead rfl hR hw hf k
theorem l_X6_19 {b : Nat} {fs : List Value} {rest : List Value} (hy : mi.y.cls = RX6) (d : decode mi.cc pc = .ok (.invokevirtual 19, 3)) (hM : M[b]? = some (ob 6 fs)) (hR : rX6_moveToNext.frames + 1 ≤ R.frames ∧ 8 + (mX6_moveToNext.nL + 11) + rX6_moveToNext.locals ≤ R.locals) (hw : (rest.map fun v => v.category).sum ≤ 8) (hf : K ≤ R.cells ∧ N ≤ R.slots) (k : Cn E rX6_moveToNext mX6_moveToNext [rr E b] M (fun r M2 => V E R mi fin K N M2 (pc + 3) L (pu r rest))) : V E R mi fin K N M pc L (rr E b :: rest) := v_callV0 (Rq := rX6_moveToNext) [] rfl rfl d hM (T := TX6) rfl (by rw [hy]; exact pl 319 (by decide +kernel)) mfX6_moveToNext rfl hR hw hf k
theorem l_X6_22 {b : Nat} {fs : List Value} {rest : List Value} (hy : mi.y.cls = RX6) (d : decode mi.cc pc = .ok (.invokevirtual 22, 3)) (hM : M[b]? = some (ob 6 fs)) (hR : rX6_skipBlanks.frames + 1 ≤ R.frames ∧ 8 + (mX6_skipBlanks.nL + 11) + rX6_skipBlanks.locals ≤ R.locals) (hw : (rest.map fun v => v.category).sum ≤ 8) (hf : K ≤ R.cells ∧ N ≤ R.slots) (k : Cn E rX6_skipBlanks mX6_skipBlanks [rr E b] M (fun r M2 => V E R mi fin K N M2 (pc + 3) L (pu r rest))) : V E R mi fin K N M pc L (rr E b :: rest) := v_callV0 (Rq := rX6_skipBlanks) [] rfl rfl d hM (T := TX6) rfl (by rw [hy]; exact pl 323 (by decide +kernel)) mfX6_skipBlanks rfl hR hw hf k
theorem l_X6_30 {x y : Int} (hy : mi.y.cls = RX6) (d : decode mi.cc pc = .ok (.invokestatic 30, 3)) (hx : I32 x) (hy2 : I32 y) (hR : 1 ≤ R.frames) (hR2 : (st.map fun v => v.category).sum + 13 ≤ R.locals) (hf : K ≤ R.cells ∧ N ≤ R.slots) (k : V E R mi fin K N M (pc + 3) L (iv (min x y) :: st)) : V E R mi fin K N M pc L (iv y :: iv x :: st) := v_min d (by rw [hy]; exact pl 327 (by decide +kernel)) (pl 328 (by decide +kernel)) (pl 57 (by decide +kernel)) (pl 329 (by decide +kernel)) hx hy2 hR hR2 hf.1 hf.2 k
theorem l_X6_42 {b : Nat} {fs : List Value} {a1 : Value} {rest : List Value} (hy : mi.y.cls = RX6) (d : decode mi.cc pc = .ok (.invokevirtual 42, 3)) (hM : M[b]? = some (ob 4 fs)) (hR : rX4_byteAt.frames + 1 ≤ R.frames ∧ 8 + (mX4_byteAt.nL + 11) + rX4_byteAt.locals ≤ R.locals) (hw : (rest.map fun v => v.category).sum ≤ 8) (hf : K ≤ R.cells ∧ N ≤ R.slots) (k : Cn E rX4_byteAt mX4_byteAt [rr E b, a1] M (fun r M2 => V E R mi fin K N M2 (pc + 3) L (pu r rest))) : V E R mi fin K N M pc L (a1 :: rr E b :: rest) := v_callV0 (Rq := rX4_byteAt) [a1] rfl rfl d hM (T := TX4) rfl (by rw [hy]; exact pl 330 (by decide +kernel)) mfX4_byteAt rfl hR hw hf k
theorem l_X6_46 {b : Nat} {fs : List Value} {rest : List Value} (hy : mi.y.cls = RX6) (d : decode mi.cc pc = .ok (.invokevirtual 46, 3)) (hM : M[b]? = some (ob 6 fs)) (hR : rX6_scanRun.frames + 1 ≤ R.frames ∧ 8 + (mX6_scanRun.nL + 11) + rX6_scanRun.locals ≤ R.locals) (hw : (rest.map fun v => v.category).sum ≤ 8) (hf : K ≤ R.cells ∧ N ≤ R.slots) (k : Cn E rX6_scanRun mX6_scanRun [rr E b] M (fun r M2 => V E R mi fin K N M2 (pc + 3) L (pu r rest))) : V E R mi fin K N M pc L (rr E b :: rest) := v_callV0 (Rq := rX6_scanRun) [] rfl rfl d hM (T := TX6) rfl (by rw [hy]; exact pl 334 (by decide +kernel)) mfX6_scanRun rfl hR hw hf k
theorem l_L_13 {b : Nat} {fs : List Value} {a1 a2 a3 a4 a5 : Value} {rest : List Value} (hy : mi.y.cls = RL) (d : decode mi.cc pc = .ok (.invokevirtual 13, 3)) (hM : M[b]? = some (ob 7 fs)) (hR : rX7_feed.frames + 1 ≤ R.frames ∧ 8 + (mX7_feed.nL + 11) + rX7_feed.locals ≤ R.locals) (hw : (rest.map fun v => v.category).sum ≤ 8) (hf : K ≤ R.cells ∧ N ≤ R.slots) (k : Cn E rX7_feed mX7_feed [rr E b, a1, a2, a3, a4, a5] M (fun r M2 => V E R mi fin K N M2 (pc + 3) L (pu r rest))) : V E R mi fin K N M pc L (a5 :: a4 :: a3 :: a2 :: a1 :: rr E b :: rest) := v_callV0 (Rq := rX7_feed) [a1, a2, a3, a4, a5] rfl rfl d hM (T := TX7) rfl (by rw [hy]; exact pl 286 (by decide +kernel)) mfX7_feed rfl hR hw hf k
theorem l_L_17 {b : Nat} {fs : List Value} {a1 a2 a3 a4 a5 : Value} {rest : List Value} (hy : mi.y.cls = RL) (d : decode mi.cc pc = .ok (.invokevirtual 17, 3)) (hM : M[b]? = some (ob 8 fs)) (hR : rX8_feed.frames + 1 ≤ R.frames ∧ 8 + (mX8_feed.nL + 11) + rX8_feed.locals ≤ R.locals) (hw : (rest.map fun v => v.category).sum ≤ 8) (hf : K ≤ R.cells ∧ N ≤ R.slots) (k : Cn E rX8_feed mX8_feed [rr E b, a1, a2, a3, a4, a5] M (fun r M2 => V E R mi fin K N M2 (pc + 3) L (pu r rest))) : V E R mi fin K N M pc L (a5 :: a4 :: a3 :: a2 :: a1 :: rr E b :: rest) := v_callV0 (Rq := rX8_feed) [a1, a2, a3, a4, a5] rfl rfl d hM (T := TX8) rfl (by rw [hy]; exact pl 655 (by decide +kernel)) mfX8_feed rfl hR hw hf k
theorem l_L_18 {b : Nat} {fs : List Value} {a1 : Value} {rest : List Value} (hy : mi.y.cls = RL) (d : decode mi.cc pc = .ok (.invokevirtual 18, 3)) (hM : M[b]? = some (ob 7 fs)) (hR : rX7_end.frames + 1 ≤ R.frames ∧ 8 + (mX7_end.nL + 11) + rX7_end.locals ≤ R.locals) (hw : (rest.map fun v => v.category).sum ≤ 8) (hf : K ≤ R.cells ∧ N ≤ R.slots) (k : Cn E rX7_end mX7_end [rr E b, a1] M (fun r M2 => V E R mi fin K N M2 (pc + 3) L (pu r rest))) : V E R mi fin K N M pc L (a1 :: rr E b :: rest) := v_callV0 (Rq := rX7_end) [a1] rfl rfl d hM (T := TX7) rfl (by rw [hy]; exact pl 298 (by decide +kernel)) mfX7_end rfl hR hw hf k
theorem l_L_22 {b : Nat} {fs : List Value} {a1 : Value} {rest : List Value} (hy : mi.y.cls = RL) (d : decode mi.cc pc = .ok (.invokevirtual 22, 3)) (hM : M[b]? = some (ob 8 fs)) (hR : rX8_end.frames + 1 ≤ R.frames ∧ 8 + (mX8_end.nL + 11) + rX8_end.locals ≤ R.locals) (hw : (rest.map fun v => v.category).sum ≤ 8) (hf : K ≤ R.cells ∧ N ≤ R.slots) (k : Cn E rX8_end mX8_end [rr E b, a1] M (fun r M2 => V E R mi fin K N M2 (pc + 3) L (pu r rest))) : V E R mi fin K N M pc L (a1 :: rr E b :: rest) := v_callV0 (Rq := rX8_end) [a1] rfl rfl d hM (T := TX8) rfl (by rw [hy]; exact pl 664 (by decide +kernel)) mfX8_end rfl hR hw hf k
theorem l_L_23 {b : Nat} {fs : List Value} {rest : List Value} (hy : mi.y.cls = RL) (d : decode mi.cc pc = .ok (.invokevirtual 23, 3)) (hM : M[b]? = some (ob 7 fs)) (hR : rX7_text.frames + 1 ≤ R.frames ∧ 8 + (mX7_text.nL + 11) + rX7_text.locals ≤ R.locals) (hw : (rest.map fun v => v.category).sum ≤ 8) (hf : K ≤ R.cells ∧ N ≤ R.slots) (k : Cn E rX7_text mX7_text [rr E b] M (fun r M2 => V E R mi fin K N M2 (pc + 3) L (pu r rest))) : V E R mi fin K N M pc L (rr E b :: rest) := v_callV0 (Rq := rX7_text) [] rfl rfl d hM (T := TX7) rfl (by rw [hy]; exact pl 306 (by decide +kernel)) mfX7_text rfl hR hw hf k
theorem l_L_27 {b : Nat} {fs : List Value} {rest : List Value} (hy : mi.y.cls = RL) (d : decode mi.cc pc = .ok (.invokevirtual 27, 3)) (hM : M[b]? = some (ob 8 fs)) (hR : rX8_text.frames + 1 ≤ R.frames ∧ 8 + (mX8_text.nL + 11) + rX8_text.locals ≤ R.locals) (hw : (rest.map fun v => v.category).sum ≤ 8) (hf : K ≤ R.cells ∧ N ≤ R.slots) (k : Cn E rX8_text mX8_text [rr E b] M (fun r M2 => V E R mi fin K N M2 (pc + 3) L (pu r rest))) : V E R mi fin K N M pc L (rr E b :: rest) := v_callV0 (Rq := rX8_text) [] rfl rfl d hM (T := TX8) rfl (by rw [hy]; exact pl 727 (by decide +kernel)) mfX8_text rfl hR hw hf k
theorem l_L_28 {b : Nat} {fs : List Value} {rest : List Value} (hy : mi.y.cls = RL) (d : decode mi.cc pc = .ok (.invokevirtual 28, 3)) (hM : M[b]? = some (ob 7 fs)) (hR : rX7_fault.frames + 1 ≤ R.frames ∧ 8 + (mX7_fault.nL + 11) + rX7_fault.locals ≤ R.locals) (hw : (rest.map fun v => v.category).sum ≤ 8) (hf : K ≤ R.cells ∧ N ≤ R.slots) (k : Cn E rX7_fault mX7_fault [rr E b] M (fun r M2 => V E R mi fin K N M2 (pc + 3) L (pu r rest))) : V E R mi fin K N M pc L (rr E b :: rest) := v_callV0 (Rq := rX7_fault) [] rfl rfl d hM (T := TX7) rfl (by rw [hy]; exact pl 479 (by decide +kernel)) mfX7_fault rfl hR hw hf k
theorem l_L_31 {b : Nat} {fs : List Value} {rest : List Value} (hy : mi.y.cls = RL) (d : decode mi.cc pc = .ok (.invokevirtual 31, 3)) (hM : M[b]? = some (ob 8 fs)) (hR : rX8_fault.frames + 1 ≤ R.frames ∧ 8 + (mX8_fault.nL + 11) + rX8_fault.locals ≤ R.locals) (hw : (rest.map fun v => v.category).sum ≤ 8) (hf : K ≤ R.cells ∧ N ≤ R.slots) (k : Cn E rX8_fault mX8_fault [rr E b] M (fun r M2 => V E R mi fin K N M2 (pc + 3) L (pu r rest))) : V E R mi fin K N M pc L (rr E b :: rest) := v_callV0 (Rq := rX8_fault) [] rfl rfl d hM (T := TX8) rfl (by rw [hy]; exact pl 816 (by decide +kernel)) mfX8_fault rfl hR hw hf k
theorem l_L_32 {b : Nat} {fs : List Value} {a1 : Value} {rest : List Value} (hy : mi.y.cls = RL) (d : decode mi.cc pc = .ok (.invokevirtual 32, 3)) (hM : M[b]? = some (ob 7 fs)) (hR : rX7_now.frames + 1 ≤ R.frames ∧ 8 + (mX7_now.nL + 11) + rX7_now.locals ≤ R.locals) (hw : (rest.map fun v => v.category).sum ≤ 8) (hf : K ≤ R.cells ∧ N ≤ R.slots) (k : Cn E rX7_now mX7_now [rr E b, a1] M (fun r M2 => V E R mi fin K N M2 (pc + 3) L (pu r rest))) : V E R mi fin K N M pc L (a1 :: rr E b :: rest) := v_callV0 (Rq := rX7_now) [a1] rfl rfl d hM (T := TX7) rfl (by rw [hy]; exact pl 483 (by decide +kernel)) mfX7_now rfl hR hw hf k
theorem l_L_36 {b : Nat} {fs : List Value} {a1 : Value} {rest : List Value} (hy : mi.y.cls = RL) (d : decode mi.cc pc = .ok (.invokevirtual 36, 3)) (hM : M[b]? = some (ob 8 fs)) (hR : rX8_now.frames + 1 ≤ R.frames ∧ 8 + (mX8_now.nL + 11) + rX8_now.locals ≤ R.locals) (hw : (rest.map fun v => v.category).sum ≤ 8) (hf : K ≤ R.cells ∧ N ≤ R.slots) (k : Cn E rX8_now mX8_now [rr E b, a1] M (fun r M2 => V E R mi fin K N M2 (pc + 3) L (pu r rest))) : V E R mi fin K N M pc L (a1 :: rr E b :: rest) := v_callV0 (Rq := rX8_now) [a1] rfl rfl d hM (T := TX8) rfl (by rw [hy]; exact pl 820 (by decide +kernel)) mfX8_now rfl hR hw hf k
theorem l_L_37 {b : Nat} {fs : List Value} {a1 a2 a3 : Value} {rest : List Value} (hy : mi.y.cls = RL) (d : decode mi.cc pc = .ok (.invokevirtual 37, 3)) (hM : M[b]? = some (ob 7 fs)) (hR : rX7_read.frames + 1 ≤ R.frames ∧ 8 + (mX7_read.nL + 11) + rX7_read.locals ≤ R.locals) (hw : (rest.map fun v => v.category).sum ≤ 8) (hf : K ≤ R.cells ∧ N ≤ R.slots) (k : Cn E rX7_read mX7_read [rr E b, a1, a2, a3] M (fun r M2 => V E R mi fin K N M2 (pc + 3) L (pu r rest))) : V E R mi fin K N M pc L (a3 :: a2 :: a1 :: rr E b :: rest) := v_callV0 (Rq := rX7_read) [a1, a2, a3] rfl rfl d hM (T := TX7) rfl (by rw [hy]; exact pl 491 (by decide +kernel)) mfX7_read rfl hR hw hf k
theorem l_L_41 {b : Nat} {fs : List Value} {a1 a2 a3 : Value} {rest : List Value} (hy : mi.y.cls = RL) (d : decode mi.cc pc = .ok (.invokevirtual 41, 3)) (hM : M[b]? = some (ob 8 fs)) (hR : rX8_read.frames + 1 ≤ R.frames ∧ 8 + (mX8_read.nL + 11) + rX8_read.locals ≤ R.locals) (hw : (rest.map fun v => v.category).sum ≤ 8) (hf : K ≤ R.cells ∧ N ≤ R.slots) (k : Cn E rX8_read mX8_read [rr E b, a1, a2, a3] M (fun r M2 => V E R mi fin K N M2 (pc + 3) L (pu r rest))) : V E R mi fin K N M pc L (a3 :: a2 :: a1 :: rr E b :: rest) := v_callV0 (Rq := rX8_read) [a1, a2, a3] rfl rfl d hM (T := TX8) rfl (by rw [hy]; exact pl 828 (by decide +kernel)) mfX8_read rfl hR hw hf k
theorem l_L_42 {b : Nat} {fs : List Value} {a1 a2 a3 : Value} {rest : List Value} (hy : mi.y.cls = RL) (d : decode mi.cc pc = .ok (.invokevirtual 42, 3)) (hM : M[b]? = some (ob 7 fs)) (hR : rX7_mean.frames + 1 ≤ R.frames ∧ 8 + (mX7_mean.nL + 11) + rX7_mean.locals ≤ R.locals) (hw : (rest.map fun v => v.category).sum ≤ 8) (hf : K ≤ R.cells ∧ N ≤ R.slots) (k : Cn E rX7_mean mX7_mean [rr E b, a1, a2, a3] M (fun r M2 => V E R mi fin K N M2 (pc + 3) L (pu r rest))) : V E R mi fin K N M pc L (a3 :: a2 :: a1 :: rr E b :: rest) := v_callV0 (Rq := rX7_mean) [a1, a2, a3] rfl rfl d hM (T := TX7) rfl (by rw [hy]; exact pl 499 (by decide +kernel)) mfX7_mean rfl hR hw hf k
theorem l_L_45 {b : Nat} {fs : List Value} {a1 a2 a3 : Value} {rest : List Value} (hy : mi.y.cls = RL) (d : decode mi.cc pc = .ok (.invokevirtual 45, 3)) (hM : M[b]? = some (ob 8 fs)) (hR : rX8_mean.frames + 1 ≤ R.frames ∧ 8 + (mX8_mean.nL + 11) + rX8_mean.locals ≤ R.locals) (hw : (rest.map fun v => v.category).sum ≤ 8) (hf : K ≤ R.cells ∧ N ≤ R.slots) (k : Cn E rX8_mean mX8_mean [rr E b, a1, a2, a3] M (fun r M2 => V E R mi fin K N M2 (pc + 3) L (pu r rest))) : V E R mi fin K N M pc L (a3 :: a2 :: a1 :: rr E b :: rest) := v_callV0 (Rq := rX8_mean) [a1, a2, a3] rfl rfl d hM (T := TX8) rfl (by rw [hy]; exact pl 852 (by decide +kernel)) mfX8_mean rfl hR hw hf k
theorem l_L_46 {b : Nat} {fs : List Value} {a1 a2 : Value} {rest : List Value} (hy : mi.y.cls = RL) (d : decode mi.cc pc = .ok (.invokevirtual 46, 3)) (hM : M[b]? = some (ob 7 fs)) (hR : rX7_scale.frames + 1 ≤ R.frames ∧ 8 + (mX7_scale.nL + 11) + rX7_scale.locals ≤ R.locals) (hw : (rest.map fun v => v.category).sum ≤ 8) (hf : K ≤ R.cells ∧ N ≤ R.slots) (k : Cn E rX7_scale mX7_scale [rr E b, a1, a2] M (fun r M2 => V E R mi fin K N M2 (pc + 3) L (pu r rest))) : V E R mi fin K N M pc L (a2 :: a1 :: rr E b :: rest) := v_callV0 (Rq := rX7_scale) [a1, a2] rfl rfl d hM (T := TX7) rfl (by rw [hy]; exact pl 513 (by decide +kernel)) mfX7_scale rfl hR hw hf k
theorem l_L_50 {b : Nat} {fs : List Value} {a1 a2 : Value} {rest : List Value} (hy : mi.y.cls = RL) (d : decode mi.cc pc = .ok (.invokevirtual 50, 3)) (hM : M[b]? = some (ob 8 fs)) (hR : rX8_scale.frames + 1 ≤ R.frames ∧ 8 + (mX8_scale.nL + 11) + rX8_scale.locals ≤ R.locals) (hw : (rest.map fun v => v.category).sum ≤ 8) (hf : K ≤ R.cells ∧ N ≤ R.slots) (k : Cn E rX8_scale mX8_scale [rr E b, a1, a2] M (fun r M2 => V E R mi fin K N M2 (pc + 3) L (pu r rest))) : V E R mi fin K N M pc L (a2 :: a1 :: rr E b :: rest) := v_callV0 (Rq := rX8_scale) [a1, a2] rfl rfl d hM (T := TX8) rfl (by rw [hy]; exact pl 864 (by decide +kernel)) mfX8_scale rfl hR hw hf k
theorem l_L_51 {b : Nat} {fs : List Value} {a1 a2 : Value} {rest : List Value} (hy : mi.y.cls = RL) (d : decode mi.cc pc = .ok (.invokevirtual 51, 3)) (hM : M[b]? = some (ob 7 fs)) (hR : rX7_back.frames + 1 ≤ R.frames ∧ 8 + (mX7_back.nL + 11) + rX7_back.locals ≤ R.locals) (hw : (rest.map fun v => v.category).sum ≤ 8) (hf : K ≤ R.cells ∧ N ≤ R.slots) (k : Cn E rX7_back mX7_back [rr E b, a1, a2] M (fun r M2 => V E R mi fin K N M2 (pc + 3) L (pu r rest))) : V E R mi fin K N M pc L (a2 :: a1 :: rr E b :: rest) := v_callV0 (Rq := rX7_back) [a1, a2] rfl rfl d hM (T := TX7) rfl (by rw [hy]; exact pl 522 (by decide +kernel)) mfX7_back rfl hR hw hf k
theorem l_L_54 {b : Nat} {fs : List Value} {a1 a2 : Value} {rest : List Value} (hy : mi.y.cls = RL) (d : decode mi.cc pc = .ok (.invokevirtual 54, 3)) (hM : M[b]? = some (ob 8 fs)) (hR : rX8_back.frames + 1 ≤ R.frames ∧ 8 + (mX8_back.nL + 11) + rX8_back.locals ≤ R.locals) (hw : (rest.map fun v => v.category).sum ≤ 8) (hf : K ≤ R.cells ∧ N ≤ R.slots) (k : Cn E rX8_back mX8_back [rr E b, a1, a2] M (fun r M2 => V E R mi fin K N M2 (pc + 3) L (pu r rest))) : V E R mi fin K N M pc L (a2 :: a1 :: rr E b :: rest) := v_callV0 (Rq := rX8_back) [a1, a2] rfl rfl d hM (T := TX8) rfl (by rw [hy]; exact pl 872 (by decide +kernel)) mfX8_back rfl hR hw hf k
theorem l_L_55 {b : Nat} {fs : List Value} {a1 a2 a3 : Value} {rest : List Value} (hy : mi.y.cls = RL) (d : decode mi.cc pc = .ok (.invokevirtual 55, 3)) (hM : M[b]? = some (ob 7 fs)) (hR : rX7_sub.frames + 1 ≤ R.frames ∧ 8 + (mX7_sub.nL + 11) + rX7_sub.locals ≤ R.locals) (hw : (rest.map fun v => v.category).sum ≤ 8) (hf : K ≤ R.cells ∧ N ≤ R.slots) (k : Cn E rX7_sub mX7_sub [rr E b, a1, a2, a3] M (fun r M2 => V E R mi fin K N M2 (pc + 3) L (pu r rest))) : V E R mi fin K N M pc L (a3 :: a2 :: a1 :: rr E b :: rest) := v_callV0 (Rq := rX7_sub) [a1, a2, a3] rfl rfl d hM (T := TX7) rfl (by rw [hy]; exact pl 526 (by decide +kernel)) mfX7_sub rfl hR hw hf k
theorem l_L_58 {b : Nat} {fs : List Value} {a1 a2 a3 : Value} {rest : List Value} (hy : mi.y.cls = RL) (d : decode mi.cc pc = .ok (.invokevirtual 58, 3)) (hM : M[b]? = some (ob 8 fs)) (hR : rX8_sub.frames + 1 ≤ R.frames ∧ 8 + (mX8_sub.nL + 11) + rX8_sub.locals ≤ R.locals) (hw : (rest.map fun v => v.category).sum ≤ 8) (hf : K ≤ R.cells ∧ N ≤ R.slots) (k : Cn E rX8_sub mX8_sub [rr E b, a1, a2, a3] M (fun r M2 => V E R mi fin K N M2 (pc + 3) L (pu r rest))) : V E R mi fin K N M pc L (a3 :: a2 :: a1 :: rr E b :: rest) := v_callV0 (Rq := rX8_sub) [a1, a2, a3] rfl rfl d hM (T := TX8) rfl (by rw [hy]; exact pl 876 (by decide +kernel)) mfX8_sub rfl hR hw hf k
theorem l_L_59 {b : Nat} {fs : List Value} {a1 a2 a3 : Value} {rest : List Value} (hy : mi.y.cls = RL) (d : decode mi.cc pc = .ok (.invokevirtual 59, 3)) (hM : M[b]? = some (ob 7 fs)) (hR : rX7_index.frames + 1 ≤ R.frames ∧ 8 + (mX7_index.nL + 11) + rX7_index.locals ≤ R.locals) (hw : (rest.map fun v => v.category).sum ≤ 8) (hf : K ≤ R.cells ∧ N ≤ R.slots) (k : Cn E rX7_index mX7_index [rr E b, a1, a2, a3] M (fun r M2 => V E R mi fin K N M2 (pc + 3) L (pu r rest))) : V E R mi fin K N M pc L (a3 :: a2 :: a1 :: rr E b :: rest) := v_callV0 (Rq := rX7_index) [a1, a2, a3] rfl rfl d hM (T := TX7) rfl (by rw [hy]; exact pl 536 (by decide +kernel)) mfX7_index rfl hR hw hf k
theorem l_L_62 {b : Nat} {fs : List Value} {a1 a2 a3 : Value} {rest : List Value} (hy : mi.y.cls = RL) (d : decode mi.cc pc = .ok (.invokevirtual 62, 3)) (hM : M[b]? = some (ob 8 fs)) (hR : rX8_index.frames + 1 ≤ R.frames ∧ 8 + (mX8_index.nL + 11) + rX8_index.locals ≤ R.locals) (hw : (rest.map fun v => v.category).sum ≤ 8) (hf : K ≤ R.cells ∧ N ≤ R.slots) (k : Cn E rX8_index mX8_index [rr E b, a1, a2, a3] M (fun r M2 => V E R mi fin K N M2 (pc + 3) L (pu r rest))) : V E R mi fin K N M pc L (a3 :: a2 :: a1 :: rr E b :: rest) := v_callV0 (Rq := rX8_index) [a1, a2, a3] rfl rfl d hM (T := TX8) rfl (by rw [hy]; exact pl 884 (by decide +kernel)) mfX8_index rfl hR hw hf k
theorem l_L_63 {b : Nat} {fs : List Value} {a1 a2 a3 : Value} {rest : List Value} (hy : mi.y.cls = RL) (d : decode mi.cc pc = .ok (.invokevirtual 63, 3)) (hM : M[b]? = some (ob 7 fs)) (hR : rX7_district.frames + 1 ≤ R.frames ∧ 8 + (mX7_district.nL + 11) + rX7_district.locals ≤ R.locals) (hw : (rest.map fun v => v.category).sum ≤ 8) (hf : K ≤ R.cells ∧ N ≤ R.slots) (k : Cn E rX7_district mX7_district [rr E b, a1, a2, a3] M (fun r M2 => V E R mi fin K N M2 (pc + 3) L (pu r rest))) : V E R mi fin K N M pc L (a3 :: a2 :: a1 :: rr E b :: rest) := v_callV0 (Rq := rX7_district) [a1, a2, a3] rfl rfl d hM (T := TX7) rfl (by rw [hy]; exact pl 554 (by decide +kernel)) mfX7_district rfl hR hw hf k
theorem l_L_66 {b : Nat} {fs : List Value} {a1 a2 a3 : Value} {rest : List Value} (hy : mi.y.cls = RL) (d : decode mi.cc pc = .ok (.invokevirtual 66, 3)) (hM : M[b]? = some (ob 8 fs)) (hR : rX8_district.frames + 1 ≤ R.frames ∧ 8 + (mX8_district.nL + 11) + rX8_district.locals ≤ R.locals) (hw : (rest.map fun v => v.category).sum ≤ 8) (hf : K ≤ R.cells ∧ N ≤ R.slots) (k : Cn E rX8_district mX8_district [rr E b, a1, a2, a3] M (fun r M2 => V E R mi fin K N M2 (pc + 3) L (pu r rest))) : V E R mi fin K N M pc L (a3 :: a2 :: a1 :: rr E b :: rest) := v_callV0 (Rq := rX8_district) [a1, a2, a3] rfl rfl d hM (T := TX8) rfl (by rw [hy]; exact pl 900 (by decide +kernel)) mfX8_district rfl hR hw hf k
theorem l_L_67 {b : Nat} {fs : List Value} {a1 a2 a3 : Value} {rest : List Value} (hy : mi.y.cls = RL) (d : decode mi.cc pc = .ok (.invokevirtual 67, 3)) (hM : M[b]? = some (ob 7 fs)) (hR : rX7_lasts.frames + 1 ≤ R.frames ∧ 8 + (mX7_lasts.nL + 11) + rX7_lasts.locals ≤ R.locals) (hw : (rest.map fun v => v.category).sum ≤ 8) (hf : K ≤ R.cells ∧ N ≤ R.slots) (k : Cn E rX7_lasts mX7_lasts [rr E b, a1, a2, a3] M (fun r M2 => V E R mi fin K N M2 (pc + 3) L (pu r rest))) : V E R mi fin K N M pc L (a3 :: a2 :: a1 :: rr E b :: rest) := v_callV0 (Rq := rX7_lasts) [a1, a2, a3] rfl rfl d hM (T := TX7) rfl (by rw [hy]; exact pl 570 (by decide +kernel)) mfX7_lasts rfl hR hw hf k
theorem l_L_70 {b : Nat} {fs : List Value} {a1 a2 a3 : Value} {rest : List Value} (hy : mi.y.cls = RL) (d : decode mi.cc pc = .ok (.invokevirtual 70, 3)) (hM : M[b]? = some (ob 8 fs)) (hR : rX8_lasts.frames + 1 ≤ R.frames ∧ 8 + (mX8_lasts.nL + 11) + rX8_lasts.locals ≤ R.locals) (hw : (rest.map fun v => v.category).sum ≤ 8) (hf : K ≤ R.cells ∧ N ≤ R.slots) (k : Cn E rX8_lasts mX8_lasts [rr E b, a1, a2, a3] M (fun r M2 => V E R mi fin K N M2 (pc + 3) L (pu r rest))) : V E R mi fin K N M pc L (a3 :: a2 :: a1 :: rr E b :: rest) := v_callV0 (Rq := rX8_lasts) [a1, a2, a3] rfl rfl d hM (T := TX8) rfl (by rw [hy]; exact pl 904 (by decide +kernel)) mfX8_lasts rfl hR hw hf k
theorem l_L_71 {b : Nat} {fs : List Value} {a1 a2 a3 : Value} {rest : List Value} (hy : mi.y.cls = RL) (d : decode mi.cc pc = .ok (.invokevirtual 71, 3)) (hM : M[b]? = some (ob 7 fs)) (hR : rX7_worst.frames + 1 ≤ R.frames ∧ 8 + (mX7_worst.nL + 11) + rX7_worst.locals ≤ R.locals) (hw : (rest.map fun v => v.category).sum ≤ 8) (hf : K ≤ R.cells ∧ N ≤ R.slots) (k : Cn E rX7_worst mX7_worst [rr E b, a1, a2, a3] M (fun r M2 => V E R mi fin K N M2 (pc + 3) L (pu r rest))) : V E R mi fin K N M pc L (a3 :: a2 :: a1 :: rr E b :: rest) := v_callV0 (Rq := rX7_worst) [a1, a2, a3] rfl rfl d hM (T := TX7) rfl (by rw [hy]; exact pl 578 (by decide +kernel)) mfX7_worst rfl hR hw hf k
theorem l_L_74 {b : Nat} {fs : List Value} {a1 a2 a3 : Value} {rest : List Value} (hy : mi.y.cls = RL) (d : decode mi.cc pc = .ok (.invokevirtual 74, 3)) (hM : M[b]? = some (ob 8 fs)) (hR : rX8_worst.frames + 1 ≤ R.frames ∧ 8 + (mX8_worst.nL + 11) + rX8_worst.locals ≤ R.locals) (hw : (rest.map fun v => v.category).sum ≤ 8) (hf : K ≤ R.cells ∧ N ≤ R.slots) (k : Cn E rX8_worst mX8_worst [rr E b, a1, a2, a3] M (fun r M2 => V E R mi fin K N M2 (pc + 3) L (pu r rest))) : V E R mi fin K N M pc L (a3 :: a2 :: a1 :: rr E b :: rest) := v_callV0 (Rq := rX8_worst) [a1, a2, a3] rfl rfl d hM (T := TX8) rfl (by rw [hy]; exact pl 908 (by decide +kernel)) mfX8_worst rfl hR hw hf k
theorem l_L_75 {b : Nat} {fs : List Value} {a1 a2 a3 : Value} {rest : List Value} (hy : mi.y.cls = RL) (d : decode mi.cc pc = .ok (.invokevirtual 75, 3)) (hM : M[b]? = some (ob 7 fs)) (hR : rX7_forecast.frames + 1 ≤ R.frames ∧ 8 + (mX7_forecast.nL + 11) + rX7_forecast.locals ≤ R.locals) (hw : (rest.map fun v => v.category).sum ≤ 8) (hf : K ≤ R.cells ∧ N ≤ R.slots) (k : Cn E rX7_forecast mX7_forecast [rr E b, a1, a2, a3] M (fun r M2 => V E R mi fin K N M2 (pc + 3) L (pu r rest))) : V E R mi fin K N M pc L (a3 :: a2 :: a1 :: rr E b :: rest) := v_callV0 (Rq := rX7_forecast) [a1, a2, a3] rfl rfl d hM (T := TX7) rfl (by rw [hy]; exact pl 582 (by decide +kernel)) mfX7_forecast rfl hR hw hf k
theorem l_L_78 {b : Nat} {fs : List Value} {a1 a2 a3 : Value} {rest : List Value} (hy : mi.y.cls = RL) (d : decode mi.cc pc = .ok (.invokevirtual 78, 3)) (hM : M[b]? = some (ob 8 fs)) (hR : rX8_forecast.frames + 1 ≤ R.frames ∧ 8 + (mX8_forecast.nL + 11) + rX8_forecast.locals ≤ R.locals) (hw : (rest.map fun v => v.category).sum ≤ 8) (hf : K ≤ R.cells ∧ N ≤ R.slots) (k : Cn E rX8_forecast mX8_forecast [rr E b, a1, a2, a3] M (fun r M2 => V E R mi fin K N M2 (pc + 3) L (pu r rest))) : V E R mi fin K N M pc L (a3 :: a2 :: a1 :: rr E b :: rest) := v_callV0 (Rq := rX8_forecast) [a1, a2, a3] rfl rfl d hM (T := TX8) rfl (by rw [hy]; exact pl 912 (by decide +kernel)) mfX8_forecast rfl hR hw hf k
theorem l_L_79 {b : Nat} {fs : List Value} {a1 a2 a3 : Value} {rest : List Value} (hy : mi.y.cls = RL) (d : decode mi.cc pc = .ok (.invokevirtual 79, 3)) (hM : M[b]? = some (ob 7 fs)) (hR : rX7_keeps.frames + 1 ≤ R.frames ∧ 8 + (mX7_keeps.nL + 11) + rX7_keeps.locals ≤ R.locals) (hw : (rest.map fun v => v.category).sum ≤ 8) (hf : K ≤ R.cells ∧ N ≤ R.slots) (k : Cn E rX7_keeps mX7_keeps [rr E b, a1, a2, a3] M (fun r M2 => V E R mi fin K N M2 (pc + 3) L (pu r rest))) : V E R mi fin K N M pc L (a3 :: a2 :: a1 :: rr E b :: rest) := v_callV0 (Rq := rX7_keeps) [a1, a2, a3] rfl rfl d hM (T := TX7) rfl (by rw [hy]; exact pl 591 (by decide +kernel)) mfX7_keeps rfl hR hw hf k
theorem l_L_82 {b : Nat} {fs : List Value} {a1 a2 a3 : Value} {rest : List Value} (hy : mi.y.cls = RL) (d : decode mi.cc pc = .ok (.invokevirtual 82, 3)) (hM : M[b]? = some (ob 8 fs)) (hR : rX8_keeps.frames + 1 ≤ R.frames ∧ 8 + (mX8_keeps.nL + 11) + rX8_keeps.locals ≤ R.locals) (hw : (rest.map fun v => v.category).sum ≤ 8) (hf : K ≤ R.cells ∧ N ≤ R.slots) (k : Cn E rX8_keeps mX8_keeps [rr E b, a1, a2, a3] M (fun r M2 => V E R mi fin K N M2 (pc + 3) L (pu r rest))) : V E R mi fin K N M pc L (a3 :: a2 :: a1 :: rr E b :: rest) := v_callV0 (Rq := rX8_keeps) [a1, a2, a3] rfl rfl d hM (T := TX8) rfl (by rw [hy]; exact pl 917 (by decide +kernel)) mfX8_keeps rfl hR hw hf k
theorem l_L_83 {b : Nat} {fs : List Value} {a1 a2 a3 a4 : Value} {rest : List Value} (hy : mi.y.cls = RL) (d : decode mi.cc pc = .ok (.invokevirtual 83, 3)) (hM : M[b]? = some (ob 7 fs)) (hR : rX7_touches.frames + 1 ≤ R.frames ∧ 8 + (mX7_touches.nL + 11) + rX7_touches.locals ≤ R.locals) (hw : (rest.map fun v => v.category).sum ≤ 8) (hf : K ≤ R.cells ∧ N ≤ R.slots) (k : Cn E rX7_touches mX7_touches [rr E b, a1, a2, a3, a4] M (fun r M2 => V E R mi fin K N M2 (pc + 3) L (pu r rest))) : V E R mi fin K N M pc L (a4 :: a3 :: a2 :: a1 :: rr E b :: rest) := v_callV0 (Rq := rX7_touches) [a1, a2, a3, a4] rfl rfl d hM (T := TX7) rfl (by rw [hy]; exact pl 601 (by decide +kernel)) mfX7_touches rfl hR hw hf k
theorem l_L_87 {b : Nat} {fs : List Value} {a1 a2 a3 a4 : Value} {rest : List Value} (hy : mi.y.cls = RL) (d : decode mi.cc pc = .ok (.invokevirtual 87, 3)) (hM : M[b]? = some (ob 8 fs)) (hR : rX8_touches.frames + 1 ≤ R.frames ∧ 8 + (mX8_touches.nL + 11) + rX8_touches.locals ≤ R.locals) (hw : (rest.map fun v => v.category).sum ≤ 8) (hf : K ≤ R.cells ∧ N ≤ R.slots) (k : Cn E rX8_touches mX8_touches [rr E b, a1, a2, a3, a4] M (fun r M2 => V E R mi fin K N M2 (pc + 3) L (pu r rest))) : V E R mi fin K N M pc L (a4 :: a3 :: a2 :: a1 :: rr E b :: rest) := v_callV0 (Rq := rX8_touches) [a1, a2, a3, a4] rfl rfl d hM (T := TX8) rfl (by rw [hy]; exact pl 921 (by decide +kernel)) mfX8_touches rfl hR hw hf k
theorem l_L_88 {b : Nat} {fs : List Value} {a1 a2 a3 a4 : Value} {rest : List Value} (hy : mi.y.cls = RL) (d : decode mi.cc pc = .ok (.invokevirtual 88, 3)) (hM : M[b]? = some (ob 7 fs)) (hR : rX7_correct.frames + 1 ≤ R.frames ∧ 8 + (mX7_correct.nL + 11) + rX7_correct.locals ≤ R.locals) (hw : (rest.map fun v => v.category).sum ≤ 8) (hf : K ≤ R.cells ∧ N ≤ R.slots) (k : Cn E rX7_correct mX7_correct [rr E b, a1, a2, a3, a4] M (fun r M2 => V E R mi fin K N M2 (pc + 3) L (pu r rest))) : V E R mi fin K N M pc L (a4 :: a3 :: a2 :: a1 :: rr E b :: rest) := v_callV0 (Rq := rX7_correct) [a1, a2, a3, a4] rfl rfl d hM (T := TX7) rfl (by rw [hy]; exact pl 613 (by decide +kernel)) mfX7_correct rfl hR hw hf k
theorem l_L_91 {b : Nat} {fs : List Value} {a1 a2 a3 a4 : Value} {rest : List Value} (hy : mi.y.cls = RL) (d : decode mi.cc pc = .ok (.invokevirtual 91, 3)) (hM : M[b]? = some (ob 8 fs)) (hR : rX8_correct.frames + 1 ≤ R.frames ∧ 8 + (mX8_correct.nL + 11) + rX8_correct.locals ≤ R.locals) (hw : (rest.map fun v => v.category).sum ≤ 8) (hf : K ≤ R.cells ∧ N ≤ R.slots) (k : Cn E rX8_correct mX8_correct [rr E b, a1, a2, a3, a4] M (fun r M2 => V E R mi fin K N M2 (pc + 3) L (pu r rest))) : V E R mi fin K N M pc L (a4 :: a3 :: a2 :: a1 :: rr E b :: rest) := v_callV0 (Rq := rX8_correct) [a1, a2, a3, a4] rfl rfl d hM (T := TX8) rfl (by rw [hy]; exact pl 933 (by decide +kernel)) mfX8_correct rfl hR hw hf k
theorem l_L_92 {b : Nat} {fs : List Value} {a1 : Value} {rest : List Value} (hy : mi.y.cls = RL) (d : decode mi.cc pc = .ok (.invokevirtual 92, 3)) (hM : M[b]? = some (ob 7 fs)) (hR : rX7_pass.frames + 1 ≤ R.frames ∧ 8 + (mX7_pass.nL + 11) + rX7_pass.locals ≤ R.locals) (hw : (rest.map fun v => v.category).sum ≤ 8) (hf : K ≤ R.cells ∧ N ≤ R.slots) (k : Cn E rX7_pass mX7_pass [rr E b, a1] M (fun r M2 => V E R mi fin K N M2 (pc + 3) L (pu r rest))) : V E R mi fin K N M pc L (a1 :: rr E b :: rest) := v_callV0 (Rq := rX7_pass) [a1] rfl rfl d hM (T := TX7) rfl (by rw [hy]; exact pl 631 (by decide +kernel)) mfX7_pass rfl hR hw hf k
theorem l_L_95 {b : Nat} {fs : List Value} {a1 : Value} {rest : List Value} (hy : mi.y.cls = RL) (d : decode mi.cc pc = .ok (.invokevirtual 95, 3)) (hM : M[b]? = some (ob 8 fs)) (hR : rX8_pass.frames + 1 ≤ R.frames ∧ 8 + (mX8_pass.nL + 11) + rX8_pass.locals ≤ R.locals) (hw : (rest.map fun v => v.category).sum ≤ 8) (hf : K ≤ R.cells ∧ N ≤ R.slots) (k : Cn E rX8_pass mX8_pass [rr E b, a1] M (fun r M2 => V E R mi fin K N M2 (pc + 3) L (pu r rest))) : V E R mi fin K N M pc L (a1 :: rr E b :: rest) := v_callV0 (Rq := rX8_pass) [a1] rfl rfl d hM (T := TX8) rfl (by rw [hy]; exact pl 941 (by decide +kernel)) mfX8_pass rfl hR hw hf k
theorem l_L_96 {b : Nat} {fs : List Value} {a1 : Value} {rest : List Value} (hy : mi.y.cls = RL) (d : decode mi.cc pc = .ok (.invokevirtual 96, 3)) (hM : M[b]? = some (ob 7 fs)) (hR : rX7_smooth.frames + 1 ≤ R.frames ∧ 8 + (mX7_smooth.nL + 11) + rX7_smooth.locals ≤ R.locals) (hw : (rest.map fun v => v.category).sum ≤ 8) (hf : K ≤ R.cells ∧ N ≤ R.slots) (k : Cn E rX7_smooth mX7_smooth [rr E b, a1] M (fun r M2 => V E R mi fin K N M2 (pc + 3) L (pu r rest))) : V E R mi fin K N M pc L (a1 :: rr E b :: rest) := v_callV0 (Rq := rX7_smooth) [a1] rfl rfl d hM (T := TX7) rfl (by rw [hy]; exact pl 635 (by decide +kernel)) mfX7_smooth rfl hR hw hf k
theorem l_L_99 {b : Nat} {fs : List Value} {a1 : Value} {rest : List Value} (hy : mi.y.cls = RL) (d : decode mi.cc pc = .ok (.invokevirtual 99, 3)) (hM : M[b]? = some (ob 8 fs)) (hR : rX8_smooth.frames + 1 ≤ R.frames ∧ 8 + (mX8_smooth.nL + 11) + rX8_smooth.locals ≤ R.locals) (hw : (rest.map fun v => v.category).sum ≤ 8) (hf : K ≤ R.cells ∧ N ≤ R.slots) (k : Cn E rX8_smooth mX8_smooth [rr E b, a1] M (fun r M2 => V E R mi fin K N M2 (pc + 3) L (pu r rest))) : V E R mi fin K N M pc L (a1 :: rr E b :: rest) := v_callV0 (Rq := rX8_smooth) [a1] rfl rfl d hM (T := TX8) rfl (by rw [hy]; exact pl 945 (by decide +kernel)) mfX8_smooth rfl hR hw hf k
theorem l_L_100 {b : Nat} {fs : List Value} {a1 a2 a3 : Value} {rest : List Value} (hy : mi.y.cls = RL) (d : decode mi.cc pc = .ok (.invokevirtual 100, 3)) (hM : M[b]? = some (ob 7 fs)) (hR : rX7_window.frames + 1 ≤ R.frames ∧ 8 + (mX7_window.nL + 11) + rX7_window.locals ≤ R.locals) (hw : (rest.map fun v => v.category).sum ≤ 8) (hf : K ≤ R.cells ∧ N ≤ R.slots) (k : Cn E rX7_window mX7_window [rr E b, a1, a2, a3] M (fun r M2 => V E R mi fin K N M2 (pc + 3) L (pu r rest))) : V E R mi fin K N M pc L (a3 :: a2 :: a1 :: rr E b :: rest) := v_callV0 (Rq := rX7_window) [a1, a2, a3] rfl rfl d hM (T := TX7) rfl (by rw [hy]; exact pl 639 (by decide +kernel)) mfX7_window rfl hR hw hf k
theorem l_L_104 {b : Nat} {fs : List Value} {a1 a2 a3 : Value} {rest : List Value} (hy : mi.y.cls = RL) (d : decode mi.cc pc = .ok (.invokevirtual 104, 3)) (hM : M[b]? = some (ob 8 fs)) (hR : rX8_window.frames + 1 ≤ R.frames ∧ 8 + (mX8_window.nL + 11) + rX8_window.locals ≤ R.locals) (hw : (rest.map fun v => v.category).sum ≤ 8) (hf : K ≤ R.cells ∧ N ≤ R.slots) (k : Cn E rX8_window mX8_window [rr E b, a1, a2, a3] M (fun r M2 => V E R mi fin K N M2 (pc + 3) L (pu r rest))) : V E R mi fin K N M pc L (a3 :: a2 :: a1 :: rr E b :: rest) := v_callV0 (Rq := rX8_window) [a1, a2, a3] rfl rfl d hM (T := TX8) rfl (by rw [hy]; exact pl 949 (by decide +kernel)) mfX8_window rfl hR hw hf k
theorem l_L_105 {b : Nat} {fs : List Value} {rest : List Value} (hy : mi.y.cls = RL) (d : decode mi.cc pc = .ok (.invokevirtual 105, 3)) (hM : M[b]? = some (ob 7 fs)) (hR : rX7_undo.frames + 1 ≤ R.frames ∧ 8 + (mX7_undo.nL + 11) + rX7_undo.locals ≤ R.locals) (hw : (rest.map fun v => v.category).sum ≤ 8) (hf : K ≤ R.cells ∧ N ≤ R.slots) (k : Cn E rX7_undo mX7_undo [rr E b] M (fun r M2 => V E R mi fin K N M2 (pc + 3) L (pu r rest))) : V E R mi fin K N M pc L (rr E b :: rest) := v_callV0 (Rq := rX7_undo) [] rfl rfl d hM (T := TX7) rfl (by rw [hy]; exact pl 643 (by decide +kernel)) mfX7_undo rfl hR hw hf k
theorem l_L_108 {b : Nat} {fs : List Value} {rest : List Value} (hy : mi.y.cls = RL) (d : decode mi.cc pc = .ok (.invokevirtual 108, 3)) (hM : M[b]? = some (ob 8 fs)) (hR : rX8_undo.frames + 1 ≤ R.frames ∧ 8 + (mX8_undo.nL + 11) + rX8_undo.locals ≤ R.locals) (hw : (rest.map fun v => v.category).sum ≤ 8) (hf : K ≤ R.cells ∧ N ≤ R.slots) (k : Cn E rX8_undo mX8_undo [rr E b] M (fun r M2 => V E R mi fin K N M2 (pc + 3) L (pu r rest))) : V E R mi fin K N M pc L (rr E b :: rest) := v_callV0 (Rq := rX8_undo) [] rfl rfl d hM (T := TX8) rfl (by rw [hy]; exact pl 953 (by decide +kernel)) mfX8_undo rfl hR hw hf k
theorem l_X8_14 {b : Nat} {fs : List Value} {a1 : Value} {rest : List Value} (hy : mi.y.cls = RX8) (d : decode mi.cc pc = .ok (.invokevirtual 14, 3)) (hM : M[b]? = some (ob 8 fs)) (hR : rX8_lays.frames + 1 ≤ R.frames ∧ 8 + (mX8_lays.nL + 11) + rX8_lays.locals ≤ R.locals) (hw : (rest.map fun v => v.category).sum ≤ 8) (hf : K ≤ R.cells ∧ N ≤ R.slots) (k : Cn E rX8_lays mX8_lays [rr E b, a1] M (fun r M2 => V E R mi fin K N M2 (pc + 3) L (pu r rest))) : V E R mi fin K N M pc L (a1 :: rr E b :: rest) := v_callV0 (Rq := rX8_lays) [a1] rfl rfl d hM (T := TX8) rfl (by rw [hy]; exact pl 659 (by decide +kernel)) mfX8_lays rfl hR hw hf k
theorem l_X8_30 {a1 : Value} {rest : List Value} (hy : mi.y.cls = RX8) (d : decode mi.cc pc = .ok (.invokestatic 30, 3)) (hR : rX8_isLetter.frames + 1 ≤ R.frames ∧ 8 + (mX8_isLetter.nL + 11) + rX8_isLetter.locals ≤ R.locals) (hw : (rest.map fun v => v.category).sum ≤ 8) (hf : K ≤ R.cells ∧ N ≤ R.slots) (k : Cn E rX8_isLetter mX8_isLetter [a1] M (fun r M2 => V E R mi fin K N M2 (pc + 3) L (pu r rest))) : V E R mi fin K N M pc L (a1 :: rest) := v_callS0 (Rq := rX8_isLetter) [a1] rfl rfl d (by rw [hy]; exact pl 735 (by decide +kernel)) mfX8_isLetter rfl hR hw hf k
theorem l_X8_34 {a1 : Value} {rest : List Value} (hy : mi.y.cls = RX8) (d : decode mi.cc pc = .ok (.invokestatic 34, 3)) (hR : rX8_isDigit.frames + 1 ≤ R.frames ∧ 8 + (mX8_isDigit.nL + 11) + rX8_isDigit.locals ≤ R.locals) (hw : (rest.map fun v => v.category).sum ≤ 8) (hf : K ≤ R.cells ∧ N ≤ R.slots) (k : Cn E rX8_isDigit mX8_isDigit [a1] M (fun r M2 => V E R mi fin K N M2 (pc + 3) L (pu r rest))) : V E R mi fin K N M pc L (a1 :: rest) := v_callS0 (Rq := rX8_isDigit) [a1] rfl rfl d (by rw [hy]; exact pl 738 (by decide +kernel)) mfX8_isDigit rfl hR hw hf k
theorem l_X8_44 {b : Nat} {fs : List Value} {a1 : Value} {rest : List Value} (hy : mi.y.cls = RX8) (d : decode mi.cc pc = .ok (.invokevirtual 44, 3)) (hM : M[b]? = some (ob 8 fs)) (hR : rX8_tapeAt.frames + 1 ≤ R.frames ∧ 8 + (mX8_tapeAt.nL + 11) + rX8_tapeAt.locals ≤ R.locals) (hw : (rest.map fun v => v.category).sum ≤ 8) (hf : K ≤ R.cells ∧ N ≤ R.slots) (k : Cn E rX8_tapeAt mX8_tapeAt [rr E b, a1] M (fun r M2 => V E R mi fin K N M2 (pc + 3) L (pu r rest))) : V E R mi fin K N M pc L (a1 :: rr E b :: rest) := v_callV0 (Rq := rX8_tapeAt) [a1] rfl rfl d hM (T := TX8) rfl (by rw [hy]; exact pl 741 (by decide +kernel)) mfX8_tapeAt rfl hR hw hf k
theorem l_X8_54 {a1 a2 : Value} {rest : List Value} (hy : mi.y.cls = RX8) (d : decode mi.cc pc = .ok (.invokestatic 54, 3)) (hR : rX8_two.frames + 1 ≤ R.frames ∧ 8 + (mX8_two.nL + 11) + rX8_two.locals ≤ R.locals) (hw : (rest.map fun v => v.category).sum ≤ 8) (hf : K ≤ R.cells ∧ N ≤ R.slots) (k : Cn E rX8_two mX8_two [a1, a2] M (fun r M2 => V E R mi fin K N M2 (pc + 3) L (pu r rest))) : V E R mi fin K N M pc L (a2 :: a1 :: rest) := v_callS0 (Rq := rX8_two) [a1, a2] rfl rfl d (by rw [hy]; exact pl 759 (by decide +kernel)) mfX8_two rfl hR hw hf k
theorem l_X8_58 {a1 a2 a3 a4 : Value} {rest : List Value} (hy : mi.y.cls = RX8) (d : decode mi.cc pc = .ok (.invokestatic 58, 3)) (hR : rX8_four.frames + 1 ≤ R.frames ∧ 8 + (mX8_four.nL + 11) + rX8_four.locals ≤ R.locals) (hw : (rest.map fun v => v.category).sum ≤ 8) (hf : K ≤ R.cells ∧ N ≤ R.slots) (k : Cn E rX8_four mX8_four [a1, a2, a3, a4] M (fun r M2 => V E R mi fin K N M2 (pc + 3) L (pu r rest))) : V E R mi fin K N M pc L (a4 :: a3 :: a2 :: a1 :: rest) := v_callS0 (Rq := rX8_four) [a1, a2, a3, a4] rfl rfl d (by rw [hy]; exact pl 755 (by decide +kernel)) mfX8_four rfl hR hw hf k
theorem l_X8_86 {b : Nat} {fs : List Value} {a1 : Value} {rest : List Value} (hy : mi.y.cls = RX8) (d : decode mi.cc pc = .ok (.invokevirtual 86, 3)) (hM : M[b]? = some (ob 8 fs)) (hR : rX8_bad.frames + 1 ≤ R.frames ∧ 8 + (mX8_bad.nL + 11) + rX8_bad.locals ≤ R.locals) (hw : (rest.map fun v => v.category).sum ≤ 8) (hf : K ≤ R.cells ∧ N ≤ R.slots) (k : Cn E rX8_bad mX8_bad [rr E b, a1] M (fun r M2 => V E R mi fin K N M2 (pc + 3) L (pu r rest))) : V E R mi fin K N M pc L (a1 :: rr E b :: rest) := v_callV0 (Rq := rX8_bad) [a1] rfl rfl d hM (T := TX8) rfl (by rw [hy]; exact pl 767 (by decide +kernel)) mfX8_bad rfl hR hw hf k
theorem l_X8_89 {a1 a2 a3 : Value} {rest : List Value} (hy : mi.y.cls = RX8) (d : decode mi.cc pc = .ok (.invokestatic 89, 3)) (hR : rX8_isIn.frames + 1 ≤ R.frames ∧ 8 + (mX8_isIn.nL + 11) + rX8_isIn.locals ≤ R.locals) (hw : (rest.map fun v => v.category).sum ≤ 8) (hf : K ≤ R.cells ∧ N ≤ R.slots) (k : Cn E rX8_isIn mX8_isIn [a1, a2, a3] M (fun r M2 => V E R mi fin K N M2 (pc + 3) L (pu r rest))) : V E R mi fin K N M pc L (a3 :: a2 :: a1 :: rest) := v_callS0 (Rq := rX8_isIn) [a1, a2, a3] rfl rfl d (by rw [hy]; exact pl 775 (by decide +kernel)) mfX8_isIn rfl hR hw hf k
theorem l_X8_93 {b : Nat} {fs : List Value} {rest : List Value} (hy : mi.y.cls = RX8) (d : decode mi.cc pc = .ok (.invokevirtual 93, 3)) (hM : M[b]? = some (ob 8 fs)) (hR : rX8_go.frames + 1 ≤ R.frames ∧ 8 + (mX8_go.nL + 11) + rX8_go.locals ≤ R.locals) (hw : (rest.map fun v => v.category).sum ≤ 8) (hf : K ≤ R.cells ∧ N ≤ R.slots) (k : Cn E rX8_go mX8_go [rr E b] M (fun r M2 => V E R mi fin K N M2 (pc + 3) L (pu r rest))) : V E R mi fin K N M pc L (rr E b :: rest) := v_callV0 (Rq := rX8_go) [] rfl rfl d hM (T := TX8) rfl (by rw [hy]; exact pl 731 (by decide +kernel)) mfX8_go rfl hR hw hf k
theorem l_X8_98 {b : Nat} {fs : List Value} {a1 : Value} {rest : List Value} (hy : mi.y.cls = RX8) (d : decode mi.cc pc = .ok (.invokevirtual 98, 3)) (hM : M[b]? = some (ob 8 fs)) (hR : rX8_isWord.frames + 1 ≤ R.frames ∧ 8 + (mX8_isWord.nL + 11) + rX8_isWord.locals ≤ R.locals) (hw : (rest.map fun v => v.category).sum ≤ 8) (hf : K ≤ R.cells ∧ N ≤ R.slots) (k : Cn E rX8_isWord mX8_isWord [rr E b, a1] M (fun r M2 => V E R mi fin K N M2 (pc + 3) L (pu r rest))) : V E R mi fin K N M pc L (a1 :: rr E b :: rest) := v_callV0 (Rq := rX8_isWord) [a1] rfl rfl d hM (T := TX8) rfl (by rw [hy]; exact pl 763 (by decide +kernel)) mfX8_isWord rfl hR hw hf k
theorem l_X8_102 {b : Nat} {fs : List Value} {a1 a2 a3 : Value} {rest : List Value} (hy : mi.y.cls = RX8) (d : decode mi.cc pc = .ok (.invokevirtual 102, 3)) (hM : M[b]? = some (ob 8 fs)) (hR : rX8_told.frames + 1 ≤ R.frames ∧ 8 + (mX8_told.nL + 11) + rX8_told.locals ≤ R.locals) (hw : (rest.map fun v => v.category).sum ≤ 8) (hf : K ≤ R.cells ∧ N ≤ R.slots) (k : Cn E rX8_told mX8_told [rr E b, a1, a2, a3] M (fun r M2 => V E R mi fin K N M2 (pc + 3) L (pu r rest))) : V E R mi fin K N M pc L (a3 :: a2 :: a1 :: rr E b :: rest) := v_callV0 (Rq := rX8_told) [a1, a2, a3] rfl rfl d hM (T := TX8) rfl (by rw [hy]; exact pl 771 (by decide +kernel)) mfX8_told rfl hR hw hf k
theorem l_X8_105 {b : Nat} {fs : List Value} {rest : List Value} (hy : mi.y.cls = RX8) (d : decode mi.cc pc = .ok (.invokevirtual 105, 3)) (hM : M[b]? = some (ob 8 fs)) (hR : rX8_readEnd.frames + 1 ≤ R.frames ∧ 8 + (mX8_readEnd.nL + 11) + rX8_readEnd.locals ≤ R.locals) (hw : (rest.map fun v => v.category).sum ≤ 8) (hf : K ≤ R.cells ∧ N ≤ R.slots) (k : Cn E rX8_readEnd mX8_readEnd [rr E b] M (fun r M2 => V E R mi fin K N M2 (pc + 3) L (pu r rest))) : V E R mi fin K N M pc L (rr E b :: rest) := v_callV0 (Rq := rX8_readEnd) [] rfl rfl d hM (T := TX8) rfl (by rw [hy]; exact pl 778 (by decide +kernel)) mfX8_readEnd rfl hR hw hf k
theorem l_X8_109 {a1 a2 a3 a4 a5 a6 : Value} {rest : List Value} (hy : mi.y.cls = RX8) (d : decode mi.cc pc = .ok (.invokestatic 109, 3)) (hR : rX8_six.frames + 1 ≤ R.frames ∧ 8 + (mX8_six.nL + 11) + rX8_six.locals ≤ R.locals) (hw : (rest.map fun v => v.category).sum ≤ 8) (hf : K ≤ R.cells ∧ N ≤ R.slots) (k : Cn E rX8_six mX8_six [a1, a2, a3, a4, a5, a6] M (fun r M2 => V E R mi fin K N M2 (pc + 3) L (pu r rest))) : V E R mi fin K N M pc L (a6 :: a5 :: a4 :: a3 :: a2 :: a1 :: rest) := v_callS0 (Rq := rX8_six) [a1, a2, a3, a4, a5, a6] rfl rfl d (by rw [hy]; exact pl 782 (by decide +kernel)) mfX8_six rfl hR hw hf k
theorem l_X8_119 {b : Nat} {fs : List Value} {rest : List Value} (hy : mi.y.cls = RX8) (d : decode mi.cc pc = .ok (.invokevirtual 119, 3)) (hM : M[b]? = some (ob 8 fs)) (hR : rX8_isSubstance.frames + 1 ≤ R.frames ∧ 8 + (mX8_isSubstance.nL + 11) + rX8_isSubstance.locals ≤ R.locals) (hw : (rest.map fun v => v.category).sum ≤ 8) (hf : K ≤ R.cells ∧ N ≤ R.slots) (k : Cn E rX8_isSubstance mX8_isSubstance [rr E b] M (fun r M2 => V E R mi fin K N M2 (pc + 3) L (pu r rest))) : V E R mi fin K N M pc L (rr E b :: rest) := v_callV0 (Rq := rX8_isSubstance) [] rfl rfl d hM (T := TX8) rfl (by rw [hy]; exact pl 789 (by decide +kernel)) mfX8_isSubstance rfl hR hw hf k
theorem l_X8_122 {b : Nat} {fs : List Value} {a1 : Value} {rest : List Value} (hy : mi.y.cls = RX8) (d : decode mi.cc pc = .ok (.invokevirtual 122, 3)) (hM : M[b]? = some (ob 8 fs)) (hR : rX8_readPoint.frames + 1 ≤ R.frames ∧ 8 + (mX8_readPoint.nL + 11) + rX8_readPoint.locals ≤ R.locals) (hw : (rest.map fun v => v.category).sum ≤ 8) (hf : K ≤ R.cells ∧ N ≤ R.slots) (k : Cn E rX8_readPoint mX8_readPoint [rr E b, a1] M (fun r M2 => V E R mi fin K N M2 (pc + 3) L (pu r rest))) : V E R mi fin K N M pc L (a1 :: rr E b :: rest) := v_callV0 (Rq := rX8_readPoint) [a1] rfl rfl d hM (T := TX8) rfl (by rw [hy]; exact pl 795 (by decide +kernel)) mfX8_readPoint rfl hR hw hf k
theorem l_X8_125 {b : Nat} {fs : List Value} {rest : List Value} (hy : mi.y.cls = RX8) (d : decode mi.cc pc = .ok (.invokevirtual 125, 3)) (hM : M[b]? = some (ob 8 fs)) (hR : rX8_isStationWord.frames + 1 ≤ R.frames ∧ 8 + (mX8_isStationWord.nL + 11) + rX8_isStationWord.locals ≤ R.locals) (hw : (rest.map fun v => v.category).sum ≤ 8) (hf : K ≤ R.cells ∧ N ≤ R.slots) (k : Cn E rX8_isStationWord mX8_isStationWord [rr E b] M (fun r M2 => V E R mi fin K N M2 (pc + 3) L (pu r rest))) : V E R mi fin K N M pc L (rr E b :: rest) := v_callV0 (Rq := rX8_isStationWord) [] rfl rfl d hM (T := TX8) rfl (by rw [hy]; exact pl 803 (by decide +kernel)) mfX8_isStationWord rfl hR hw hf k
theorem l_X8_132 {a1 a2 a3 : Value} {rest : List Value} (hy : mi.y.cls = RX8) (d : decode mi.cc pc = .ok (.invokestatic 132, 3)) (hR : rX8_at.frames + 1 ≤ R.frames ∧ 8 + (mX8_at.nL + 11) + rX8_at.locals ≤ R.locals) (hw : (rest.map fun v => v.category).sum ≤ 8) (hf : K ≤ R.cells ∧ N ≤ R.slots) (k : Cn E rX8_at mX8_at [a1, a2, a3] M (fun r M2 => V E R mi fin K N M2 (pc + 3) L (pu r rest))) : V E R mi fin K N M pc L (a3 :: a2 :: a1 :: rest) := v_callS0 (Rq := rX8_at) [a1, a2, a3] rfl rfl d (by rw [hy]; exact pl 813 (by decide +kernel)) mfX8_at rfl hR hw hf k
theorem l_X8_136 {b : Nat} {fs : List Value} {rest : List Value} (hy : mi.y.cls = RX8) (d : decode mi.cc pc = .ok (.invokevirtual 136, 3)) (hM : M[b]? = some (ob 8 fs)) (hR : rX8_readBands.frames + 1 ≤ R.frames ∧ 8 + (mX8_readBands.nL + 11) + rX8_readBands.locals ≤ R.locals) (hw : (rest.map fun v => v.category).sum ≤ 8) (hf : K ≤ R.cells ∧ N ≤ R.slots) (k : Cn E rX8_readBands mX8_readBands [rr E b] M (fun r M2 => V E R mi fin K N M2 (pc + 3) L (pu r rest))) : V E R mi fin K N M pc L (rr E b :: rest) := v_callV0 (Rq := rX8_readBands) [] rfl rfl d hM (T := TX8) rfl (by rw [hy]; exact pl 751 (by decide +kernel)) mfX8_readBands rfl hR hw hf k
theorem l_X8_142 {b : Nat} {fs : List Value} {rest : List Value} (hy : mi.y.cls = RX8) (d : decode mi.cc pc = .ok (.invokevirtual 142, 3)) (hM : M[b]? = some (ob 8 fs)) (hR : rX8_readSubstance.frames + 1 ≤ R.frames ∧ 8 + (mX8_readSubstance.nL + 11) + rX8_readSubstance.locals ≤ R.locals) (hw : (rest.map fun v => v.category).sum ≤ 8) (hf : K ≤ R.cells ∧ N ≤ R.slots) (k : Cn E rX8_readSubstance mX8_readSubstance [rr E b] M (fun r M2 => V E R mi fin K N M2 (pc + 3) L (pu r rest))) : V E R mi fin K N M pc L (rr E b :: rest) := v_callV0 (Rq := rX8_readSubstance) [] rfl rfl d hM (T := TX8) rfl (by rw [hy]; exact pl 785 (by decide +kernel)) mfX8_readSubstance rfl hR hw hf k
theorem l_X8_145 {b : Nat} {fs : List Value} {rest : List Value} (hy : mi.y.cls = RX8) (d : decode mi.cc pc = .ok (.invokevirtual 145, 3)) (hM : M[b]? = some (ob 8 fs)) (hR : rX8_readStation.frames + 1 ≤ R.frames ∧ 8 + (mX8_readStation.nL + 11) + rX8_readStation.locals ≤ R.locals) (hw : (rest.map fun v => v.category).sum ≤ 8) (hf : K ≤ R.cells ∧ N ≤ R.slots) (k : Cn E rX8_readStation mX8_readStation [rr E b] M (fun r M2 => V E R mi fin K N M2 (pc + 3) L (pu r rest))) : V E R mi fin K N M pc L (rr E b :: rest) := v_callV0 (Rq := rX8_readStation) [] rfl rfl d hM (T := TX8) rfl (by rw [hy]; exact pl 799 (by decide +kernel)) mfX8_readStation rfl hR hw hf k
theorem l_X8_148 {b : Nat} {fs : List Value} {rest : List Value} (hy : mi.y.cls = RX8) (d : decode mi.cc pc = .ok (.invokevirtual 148, 3)) (hM : M[b]? = some (ob 8 fs)) (hR : rX8_readSeries.frames + 1 ≤ R.frames ∧ 8 + (mX8_readSeries.nL + 11) + rX8_readSeries.locals ≤ R.locals) (hw : (rest.map fun v => v.category).sum ≤ 8) (hf : K ≤ R.cells ∧ N ≤ R.slots) (k : Cn E rX8_readSeries mX8_readSeries [rr E b] M (fun r M2 => V E R mi fin K N M2 (pc + 3) L (pu r rest))) : V E R mi fin K N M pc L (rr E b :: rest) := v_callV0 (Rq := rX8_readSeries) [] rfl rfl d hM (T := TX8) rfl (by rw [hy]; exact pl 808 (by decide +kernel)) mfX8_readSeries rfl hR hw hf k
theorem l_X8_151 {b : Nat} {fs : List Value} {rest : List Value} (hy : mi.y.cls = RX8) (d : decode mi.cc pc = .ok (.invokevirtual 151, 3)) (hM : M[b]? = some (ob 8 fs)) (hR : rX8_readWhole.frames + 1 ≤ R.frames ∧ 8 + (mX8_readWhole.nL + 11) + rX8_readWhole.locals ≤ R.locals) (hw : (rest.map fun v => v.category).sum ≤ 8) (hf : K ≤ R.cells ∧ N ≤ R.slots) (k : Cn E rX8_readWhole mX8_readWhole [rr E b] M (fun r M2 => V E R mi fin K N M2 (pc + 3) L (pu r rest))) : V E R mi fin K N M pc L (rr E b :: rest) := v_callV0 (Rq := rX8_readWhole) [] rfl rfl d hM (T := TX8) rfl (by rw [hy]; exact pl 747 (by decide +kernel)) mfX8_readWhole rfl hR hw hf k
theorem l_X8_157 {b : Nat} {fs : List Value} {a1 : Value} {rest : List Value} (hy : mi.y.cls = RX8) (d : decode mi.cc pc = .ok (.invokevirtual 157, 3)) (hM : M[b]? = some (ob 8 fs)) (hR : rX8_isStation.frames + 1 ≤ R.frames ∧ 8 + (mX8_isStation.nL + 11) + rX8_isStation.locals ≤ R.locals) (hw : (rest.map fun v => v.category).sum ≤ 8) (hf : K ≤ R.cells ∧ N ≤ R.slots) (k : Cn E rX8_isStation mX8_isStation [rr E b, a1] M (fun r M2 => V E R mi fin K N M2 (pc + 3) L (pu r rest))) : V E R mi fin K N M pc L (a1 :: rr E b :: rest) := v_callV0 (Rq := rX8_isStation) [a1] rfl rfl d hM (T := TX8) rfl (by rw [hy]; exact pl 836 (by decide +kernel)) mfX8_isStation rfl hR hw hf k
theorem l_X8_160 {b : Nat} {fs : List Value} {a1 : Value} {rest : List Value} (hy : mi.y.cls = RX8) (d : decode mi.cc pc = .ok (.invokevirtual 160, 3)) (hM : M[b]? = some (ob 8 fs)) (hR : rX8_isSubstance_.frames + 1 ≤ R.frames ∧ 8 + (mX8_isSubstance_.nL + 11) + rX8_isSubstance_.locals ≤ R.locals) (hw : (rest.map fun v => v.category).sum ≤ 8) (hf : K ≤ R.cells ∧ N ≤ R.slots) (k : Cn E rX8_isSubstance_ mX8_isSubstance_ [rr E b, a1] M (fun r M2 => V E R mi fin K N M2 (pc + 3) L (pu r rest))) : V E R mi fin K N M pc L (a1 :: rr E b :: rest) := v_callV0 (Rq := rX8_isSubstance_) [a1] rfl rfl d hM (T := TX8) rfl (by rw [hy]; exact pl 840 (by decide +kernel)) mfX8_isSubstance_ rfl hR hw hf k
theorem l_X8_162 {b : Nat} {fs : List Value} {a1 : Value} {rest : List Value} (hy : mi.y.cls = RX8) (d : decode mi.cc pc = .ok (.invokevirtual 162, 3)) (hM : M[b]? = some (ob 8 fs)) (hR : rX8_isHour.frames + 1 ≤ R.frames ∧ 8 + (mX8_isHour.nL + 11) + rX8_isHour.locals ≤ R.locals) (hw : (rest.map fun v => v.category).sum ≤ 8) (hf : K ≤ R.cells ∧ N ≤ R.slots) (k : Cn E rX8_isHour mX8_isHour [rr E b, a1] M (fun r M2 => V E R mi fin K N M2 (pc + 3) L (pu r rest))) : V E R mi fin K N M pc L (a1 :: rr E b :: rest) := v_callV0 (Rq := rX8_isHour) [a1] rfl rfl d hM (T := TX8) rfl (by rw [hy]; exact pl 844 (by decide +kernel)) mfX8_isHour rfl hR hw hf k
theorem l_X8_165 {b : Nat} {fs : List Value} {a1 a2 : Value} {rest : List Value} (hy : mi.y.cls = RX8) (d : decode mi.cc pc = .ok (.invokevirtual 165, 3)) (hM : M[b]? = some (ob 8 fs)) (hR : rX8_its.frames + 1 ≤ R.frames ∧ 8 + (mX8_its.nL + 11) + rX8_its.locals ≤ R.locals) (hw : (rest.map fun v => v.category).sum ≤ 8) (hf : K ≤ R.cells ∧ N ≤ R.slots) (k : Cn E rX8_its mX8_its [rr E b, a1, a2] M (fun r M2 => V E R mi fin K N M2 (pc + 3) L (pu r rest))) : V E R mi fin K N M pc L (a2 :: a1 :: rr E b :: rest) := v_callV0 (Rq := rX8_its) [a1, a2] rfl rfl d hM (T := TX8) rfl (by rw [hy]; exact pl 860 (by decide +kernel)) mfX8_its rfl hR hw hf k
theorem l_X8_169 {b : Nat} {fs : List Value} {a1 a2 a3 : Value} {rest : List Value} (hy : mi.y.cls = RX8) (d : decode mi.cc pc = .ok (.invokevirtual 169, 3)) (hM : M[b]? = some (ob 8 fs)) (hR : rX8_readOf.frames + 1 ≤ R.frames ∧ 8 + (mX8_readOf.nL + 11) + rX8_readOf.locals ≤ R.locals) (hw : (rest.map fun v => v.category).sum ≤ 8) (hf : K ≤ R.cells ∧ N ≤ R.slots) (k : Cn E rX8_readOf mX8_readOf [rr E b, a1, a2, a3] M (fun r M2 => V E R mi fin K N M2 (pc + 3) L (pu r rest))) : V E R mi fin K N M pc L (a3 :: a2 :: a1 :: rr E b :: rest) := v_callV0 (Rq := rX8_readOf) [a1, a2, a3] rfl rfl d hM (T := TX8) rfl (by rw [hy]; exact pl 848 (by decide +kernel)) mfX8_readOf rfl hR hw hf k
theorem l_X8_172 {b : Nat} {fs : List Value} {a1 a2 a3 : Value} {rest : List Value} (hy : mi.y.cls = RX8) (d : decode mi.cc pc = .ok (.invokevirtual 172, 3)) (hM : M[b]? = some (ob 8 fs)) (hR : rX8_meanOf.frames + 1 ≤ R.frames ∧ 8 + (mX8_meanOf.nL + 11) + rX8_meanOf.locals ≤ R.locals) (hw : (rest.map fun v => v.category).sum ≤ 8) (hf : K ≤ R.cells ∧ N ≤ R.slots) (k : Cn E rX8_meanOf mX8_meanOf [rr E b, a1, a2, a3] M (fun r M2 => V E R mi fin K N M2 (pc + 3) L (pu r rest))) : V E R mi fin K N M pc L (a3 :: a2 :: a1 :: rr E b :: rest) := v_callV0 (Rq := rX8_meanOf) [a1, a2, a3] rfl rfl d hM (T := TX8) rfl (by rw [hy]; exact pl 856 (by decide +kernel)) mfX8_meanOf rfl hR hw hf k
theorem l_X8_175 {b : Nat} {fs : List Value} {a1 a2 : Value} {rest : List Value} (hy : mi.y.cls = RX8) (d : decode mi.cc pc = .ok (.invokevirtual 175, 3)) (hM : M[b]? = some (ob 8 fs)) (hR : rX8_scaleOf.frames + 1 ≤ R.frames ∧ 8 + (mX8_scaleOf.nL + 11) + rX8_scaleOf.locals ≤ R.locals) (hw : (rest.map fun v => v.category).sum ≤ 8) (hf : K ≤ R.cells ∧ N ≤ R.slots) (k : Cn E rX8_scaleOf mX8_scaleOf [rr E b, a1, a2] M (fun r M2 => V E R mi fin K N M2 (pc + 3) L (pu r rest))) : V E R mi fin K N M pc L (a2 :: a1 :: rr E b :: rest) := v_callV0 (Rq := rX8_scaleOf) [a1, a2] rfl rfl d hM (T := TX8) rfl (by rw [hy]; exact pl 868 (by decide +kernel)) mfX8_scaleOf rfl hR hw hf k
theorem l_X8_178 {b : Nat} {fs : List Value} {a1 a2 a3 : Value} {rest : List Value} (hy : mi.y.cls = RX8) (d : decode mi.cc pc = .ok (.invokevirtual 178, 3)) (hM : M[b]? = some (ob 8 fs)) (hR : rX8_subOf.frames + 1 ≤ R.frames ∧ 8 + (mX8_subOf.nL + 11) + rX8_subOf.locals ≤ R.locals) (hw : (rest.map fun v => v.category).sum ≤ 8) (hf : K ≤ R.cells ∧ N ≤ R.slots) (k : Cn E rX8_subOf mX8_subOf [rr E b, a1, a2, a3] M (fun r M2 => V E R mi fin K N M2 (pc + 3) L (pu r rest))) : V E R mi fin K N M pc L (a3 :: a2 :: a1 :: rr E b :: rest) := v_callV0 (Rq := rX8_subOf) [a1, a2, a3] rfl rfl d hM (T := TX8) rfl (by rw [hy]; exact pl 880 (by decide +kernel)) mfX8_subOf rfl hR hw hf k
theorem l_X8_181 {b : Nat} {fs : List Value} {a1 a2 : Value} {rest : List Value} (hy : mi.y.cls = RX8) (d : decode mi.cc pc = .ok (.invokevirtual 181, 3)) (hM : M[b]? = some (ob 8 fs)) (hR : rX8_rulingOf.frames + 1 ≤ R.frames ∧ 8 + (mX8_rulingOf.nL + 11) + rX8_rulingOf.locals ≤ R.locals) (hw : (rest.map fun v => v.category).sum ≤ 8) (hf : K ≤ R.cells ∧ N ≤ R.slots) (k : Cn E rX8_rulingOf mX8_rulingOf [rr E b, a1, a2] M (fun r M2 => V E R mi fin K N M2 (pc + 3) L (pu r rest))) : V E R mi fin K N M pc L (a2 :: a1 :: rr E b :: rest) := v_callV0 (Rq := rX8_rulingOf) [a1, a2] rfl rfl d hM (T := TX8) rfl (by rw [hy]; exact pl 892 (by decide +kernel)) mfX8_rulingOf rfl hR hw hf k
theorem l_X8_184 {b : Nat} {fs : List Value} {rest : List Value} (hy : mi.y.cls = RX8) (d : decode mi.cc pc = .ok (.invokevirtual 184, 3)) (hM : M[b]? = some (ob 8 fs)) (hR : rX8_readMany.frames + 1 ≤ R.frames ∧ 8 + (mX8_readMany.nL + 11) + rX8_readMany.locals ≤ R.locals) (hw : (rest.map fun v => v.category).sum ≤ 8) (hf : K ≤ R.cells ∧ N ≤ R.slots) (k : Cn E rX8_readMany mX8_readMany [rr E b] M (fun r M2 => V E R mi fin K N M2 (pc + 3) L (pu r rest))) : V E R mi fin K N M pc L (rr E b :: rest) := v_callV0 (Rq := rX8_readMany) [] rfl rfl d hM (T := TX8) rfl (by rw [hy]; exact pl 824 (by decide +kernel)) mfX8_readMany rfl hR hw hf k
theorem l_X8_188 {b : Nat} {fs : List Value} {a1 a2 a3 : Value} {rest : List Value} (hy : mi.y.cls = RX8) (d : decode mi.cc pc = .ok (.invokevirtual 188, 3)) (hM : M[b]? = some (ob 8 fs)) (hR : rX8_are.frames + 1 ≤ R.frames ∧ 8 + (mX8_are.nL + 11) + rX8_are.locals ≤ R.locals) (hw : (rest.map fun v => v.category).sum ≤ 8) (hf : K ≤ R.cells ∧ N ≤ R.slots) (k : Cn E rX8_are mX8_are [rr E b, a1, a2, a3] M (fun r M2 => V E R mi fin K N M2 (pc + 3) L (pu r rest))) : V E R mi fin K N M pc L (a3 :: a2 :: a1 :: rr E b :: rest) := v_callV0 (Rq := rX8_are) [a1, a2, a3] rfl rfl d hM (T := TX8) rfl (by rw [hy]; exact pl 832 (by decide +kernel)) mfX8_are rfl hR hw hf k
theorem l_X8_191 {b : Nat} {fs : List Value} {a1 a2 : Value} {rest : List Value} (hy : mi.y.cls = RX8) (d : decode mi.cc pc = .ok (.invokevirtual 191, 3)) (hM : M[b]? = some (ob 8 fs)) (hR : rX8_indexOf.frames + 1 ≤ R.frames ∧ 8 + (mX8_indexOf.nL + 11) + rX8_indexOf.locals ≤ R.locals) (hw : (rest.map fun v => v.category).sum ≤ 8) (hf : K ≤ R.cells ∧ N ≤ R.slots) (k : Cn E rX8_indexOf mX8_indexOf [rr E b, a1, a2] M (fun r M2 => V E R mi fin K N M2 (pc + 3) L (pu r rest))) : V E R mi fin K N M pc L (a2 :: a1 :: rr E b :: rest) := v_callV0 (Rq := rX8_indexOf) [a1, a2] rfl rfl d hM (T := TX8) rfl (by rw [hy]; exact pl 888 (by decide +kernel)) mfX8_indexOf rfl hR hw hf k
theorem l_X8_194 {b : Nat} {fs : List Value} {a1 : Value} {rest : List Value} (hy : mi.y.cls = RX8) (d : decode mi.cc pc = .ok (.invokevirtual 194, 3)) (hM : M[b]? = some (ob 8 fs)) (hR : rX8_bandOf.frames + 1 ≤ R.frames ∧ 8 + (mX8_bandOf.nL + 11) + rX8_bandOf.locals ≤ R.locals) (hw : (rest.map fun v => v.category).sum ≤ 8) (hf : K ≤ R.cells ∧ N ≤ R.slots) (k : Cn E rX8_bandOf mX8_bandOf [rr E b, a1] M (fun r M2 => V E R mi fin K N M2 (pc + 3) L (pu r rest))) : V E R mi fin K N M pc L (a1 :: rr E b :: rest) := v_callV0 (Rq := rX8_bandOf) [a1] rfl rfl d hM (T := TX8) rfl (by rw [hy]; exact pl 896 (by decide +kernel)) mfX8_bandOf rfl hR hw hf k
theorem l_X8_198 {b : Nat} {fs : List Value} {a1 a2 a3 a4 : Value} {rest : List Value} (hy : mi.y.cls = RX8) (d : decode mi.cc pc = .ok (.invokevirtual 198, 3)) (hM : M[b]? = some (ob 8 fs)) (hR : rX8_canCorrect.frames + 1 ≤ R.frames ∧ 8 + (mX8_canCorrect.nL + 11) + rX8_canCorrect.locals ≤ R.locals) (hw : (rest.map fun v => v.category).sum ≤ 8) (hf : K ≤ R.cells ∧ N ≤ R.slots) (k : Cn E rX8_canCorrect mX8_canCorrect [rr E b, a1, a2, a3, a4] M (fun r M2 => V E R mi fin K N M2 (pc + 3) L (pu r rest))) : V E R mi fin K N M pc L (a4 :: a3 :: a2 :: a1 :: rr E b :: rest) := v_callV0 (Rq := rX8_canCorrect) [a1, a2, a3, a4] rfl rfl d hM (T := TX8) rfl (by rw [hy]; exact pl 925 (by decide +kernel)) mfX8_canCorrect rfl hR hw hf k
theorem l_X8_202 {b : Nat} {fs : List Value} {a1 a2 a3 a4 : Value} {rest : List Value} (hy : mi.y.cls = RX8) (d : decode mi.cc pc = .ok (.invokevirtual 202, 3)) (hM : M[b]? = some (ob 8 fs)) (hR : rX8_corrects.frames + 1 ≤ R.frames ∧ 8 + (mX8_corrects.nL + 11) + rX8_corrects.locals ≤ R.locals) (hw : (rest.map fun v => v.category).sum ≤ 8) (hf : K ≤ R.cells ∧ N ≤ R.slots) (k : Cn E rX8_corrects mX8_corrects [rr E b, a1, a2, a3, a4] M (fun r M2 => V E R mi fin K N M2 (pc + 3) L (pu r rest))) : V E R mi fin K N M pc L (a4 :: a3 :: a2 :: a1 :: rr E b :: rest) := v_callV0 (Rq := rX8_corrects) [a1, a2, a3, a4] rfl rfl d hM (T := TX8) rfl (by rw [hy]; exact pl 929 (by decide +kernel)) mfX8_corrects rfl hR hw hf k
theorem l_X8_206 {b : Nat} {fs : List Value} {rest : List Value} (hy : mi.y.cls = RX8) (d : decode mi.cc pc = .ok (.invokevirtual 206, 3)) (hM : M[b]? = some (ob 8 fs)) (hR : rX8_snap.frames + 1 ≤ R.frames ∧ 8 + (mX8_snap.nL + 11) + rX8_snap.locals ≤ R.locals) (hw : (rest.map fun v => v.category).sum ≤ 8) (hf : K ≤ R.cells ∧ N ≤ R.slots) (k : Cn E rX8_snap mX8_snap [rr E b] M (fun r M2 => V E R mi fin K N M2 (pc + 3) L (pu r rest))) : V E R mi fin K N M pc L (rr E b :: rest) := v_callV0 (Rq := rX8_snap) [] rfl rfl d hM (T := TX8) rfl (by rw [hy]; exact pl 937 (by decide +kernel)) mfX8_snap rfl hR hw hf k
theorem l_J0_495 {a1 a2 : Value} {rest : List Value} (hy : mi.y.cls = RJ0) (d : decode mi.cc pc = .ok (.invokestatic 495, 3)) (hR : rJ1_charAt_3b067.frames + 1 ≤ R.frames ∧ 8 + (mJ1_charAt_3b067.nL + 11) + rJ1_charAt_3b067.locals ≤ R.locals) (hw : (rest.map fun v => v.category).sum ≤ 8) (hf : K ≤ R.cells ∧ N ≤ R.slots) (k : Cn E rJ1_charAt_3b067 mJ1_charAt_3b067 [a1, a2] M (fun r M2 => V E R mi fin K N M2 (pc + 3) L (pu r rest))) : V E R mi fin K N M pc L (a2 :: a1 :: rest) := v_callS0 (Rq := rJ1_charAt_3b067) [a1, a2] rfl rfl d (by rw [hy]; exact pl 369 (by decide +kernel)) mfJ1_charAt_3b067 rfl hR hw hf k
theorem l_J0_498 {a1 a2 : Value} {rest : List Value} (hy : mi.y.cls = RJ0) (d : decode mi.cc pc = .ok (.invokestatic 498, 3)) (hR : rJ2_charAt_3b067.frames + 1 ≤ R.frames ∧ 8 + (mJ2_charAt_3b067.nL + 11) + rJ2_charAt_3b067.locals ≤ R.locals) (hw : (rest.map fun v => v.category).sum ≤ 8) (hf : K ≤ R.cells ∧ N ≤ R.slots) (k : Cn E rJ2_charAt_3b067 mJ2_charAt_3b067 [a1, a2] M (fun r M2 => V E R mi fin K N M2 (pc + 3) L (pu r rest))) : V E R mi fin K N M pc L (a2 :: a1 :: rest) := v_callS0 (Rq := rJ2_charAt_3b067) [a1, a2] rfl rfl d (by rw [hy]; exact pl 380 (by decide +kernel)) mfJ2_charAt_3b067 rfl hR hw hf k
theorem l_J0_1059 {a1 a2 a3 : Value} {rest : List Value} (hy : mi.y.cls = RJ0) (d : decode mi.cc pc = .ok (.invokestatic 1059, 3)) (hR : rJ3_checkIndex_8e157.frames + 1 ≤ R.frames ∧ 8 + (mJ3_checkIndex_8e157.nL + 11) + rJ3_checkIndex_8e157.locals ≤ R.locals) (hw : (rest.map fun v => v.category).sum ≤ 8) (hf : K ≤ R.cells ∧ N ≤ R.slots) (k : Cn E rJ3_checkIndex_8e157 mJ3_checkIndex_8e157 [a1, a2, a3] M (fun r M2 => V E R mi fin K N M2 (pc + 3) L (pu r rest))) : V E R mi fin K N M pc L (a3 :: a2 :: a1 :: rest) := v_callS0 (Rq := rJ3_checkIndex_8e157) [a1, a2, a3] rfl rfl d (by rw [hy]; exact pl 377 (by decide +kernel)) mfJ3_checkIndex_8e157 rfl hR hw hf k
theorem l_J1_9 {a1 a2 : Value} {rest : List Value} (hy : mi.y.cls = RJ1) (d : decode mi.cc pc = .ok (.invokestatic 9, 3)) (hR : rJ0_checkIndex_df160.frames + 1 ≤ R.frames ∧ 8 + (mJ0_checkIndex_df160.nL + 11) + rJ0_checkIndex_df160.locals ≤ R.locals) (hw : (rest.map fun v => v.category).sum ≤ 8) (hf : K ≤ R.cells ∧ N ≤ R.slots) (k : Cn E rJ0_checkIndex_df160 mJ0_checkIndex_df160 [a1, a2] M (fun r M2 => V E R mi fin K N M2 (pc + 3) L (pu r rest))) : V E R mi fin K N M pc L (a2 :: a1 :: rest) := v_callS0 (Rq := rJ0_checkIndex_df160) [a1, a2] rfl rfl d (by rw [hy]; exact pl 372 (by decide +kernel)) mfJ0_checkIndex_df160 rfl hR hw hf k
theorem l_J2_48 {a1 : Value} {rest : List Value} (hy : mi.y.cls = RJ2) (d : decode mi.cc pc = .ok (.invokestatic 48, 3)) (hR : rJ2_length_9d52b.frames + 1 ≤ R.frames ∧ 8 + (mJ2_length_9d52b.nL + 11) + rJ2_length_9d52b.locals ≤ R.locals) (hw : (rest.map fun v => v.category).sum ≤ 8) (hf : K ≤ R.cells ∧ N ≤ R.slots) (k : Cn E rJ2_length_9d52b mJ2_length_9d52b [a1] M (fun r M2 => V E R mi fin K N M2 (pc + 3) L (pu r rest))) : V E R mi fin K N M pc L (a1 :: rest) := v_callS0 (Rq := rJ2_length_9d52b) [a1] rfl rfl d (by rw [hy]; exact pl 386 (by decide +kernel)) mfJ2_length_9d52b rfl hR hw hf k
theorem l_J2_67 {a1 a2 : Value} {rest : List Value} (hy : mi.y.cls = RJ2) (d : decode mi.cc pc = .ok (.invokestatic 67, 3)) (hR : rJ2_checkIndex_2214a.frames + 1 ≤ R.frames ∧ 8 + (mJ2_checkIndex_2214a.nL + 11) + rJ2_checkIndex_2214a.locals ≤ R.locals) (hw : (rest.map fun v => v.category).sum ≤ 8) (hf : K ≤ R.cells ∧ N ≤ R.slots) (k : Cn E rJ2_checkIndex_2214a mJ2_checkIndex_2214a [a1, a2] M (fun r M2 => V E R mi fin K N M2 (pc + 3) L (pu r rest))) : V E R mi fin K N M pc L (a2 :: a1 :: rest) := v_callS0 (Rq := rJ2_checkIndex_2214a) [a1, a2] rfl rfl d (by rw [hy]; exact pl 383 (by decide +kernel)) mfJ2_checkIndex_2214a rfl hR hw hf k
theorem l_J2_71 {a1 a2 : Value} {rest : List Value} (hy : mi.y.cls = RJ2) (d : decode mi.cc pc = .ok (.invokestatic 71, 3)) (hR : rJ2_getChar_3b067.frames + 1 ≤ R.frames ∧ 8 + (mJ2_getChar_3b067.nL + 11) + rJ2_getChar_3b067.locals ≤ R.locals) (hw : (rest.map fun v => v.category).sum ≤ 8) (hf : K ≤ R.cells ∧ N ≤ R.slots) (k : Cn E rJ2_getChar_3b067 mJ2_getChar_3b067 [a1, a2] M (fun r M2 => V E R mi fin K N M2 (pc + 3) L (pu r rest))) : V E R mi fin K N M pc L (a2 :: a1 :: rest) := v_callS0 (Rq := rJ2_getChar_3b067) [a1, a2] rfl rfl d (by rw [hy]; exact pl 390 (by decide +kernel)) mfJ2_getChar_3b067 rfl hR hw hf k
theorem l_J2_414 {a1 a2 : Value} {rest : List Value} (hy : mi.y.cls = RJ2) (d : decode mi.cc pc = .ok (.invokestatic 414, 3)) (hR : rJ0_checkIndex_df160.frames + 1 ≤ R.frames ∧ 8 + (mJ0_checkIndex_df160.nL + 11) + rJ0_checkIndex_df160.locals ≤ R.locals) (hw : (rest.map fun v => v.category).sum ≤ 8) (hf : K ≤ R.cells ∧ N ≤ R.slots) (k : Cn E rJ0_checkIndex_df160 mJ0_checkIndex_df160 [a1, a2] M (fun r M2 => V E R mi fin K N M2 (pc + 3) L (pu r rest))) : V E R mi fin K N M pc L (a2 :: a1 :: rest) := v_callS0 (Rq := rJ0_checkIndex_df160) [a1, a2] rfl rfl d (by rw [hy]; exact pl 389 (by decide +kernel)) mfJ0_checkIndex_df160 rfl hR hw hf k
end LINKS
end
section
section BASE
variable {E : Ev} {R : Room} {mi : MI} {fin : Fin9} {K N : Nat} {M : Mem} {pc : Nat} {L : List (Option Value)} {st : List Value}
/-- less is known of the locals -/
def wk : List (Option Value) → List (Option Value) → Prop
  | [], _ => True
  | none :: r, _ :: t => wk r t
  | some v :: r, some u :: t => v = u ∧ wk r t
  | _ :: _, _ => False
theorem wk_at : ∀ {L2 L : List (Option Value)}, wk L2 L → ∀ {k : Nat} {v : Value}, L2[k]? = some (some v) → L[k]? = some (some v)
  | [], _, _, k, v, h => by simp at h
  | none :: r, [], h, k, v, hk => by simp [wk] at h
  | none :: r, a :: t, h, k, v, hk => by
    cases k with
    | zero => simp at hk
    | succ k => simpa using wk_at (L2 := r) (L := t) h (by simpa using hk)
  | some u :: r, [], h, k, v, hk => by simp [wk] at h
  | some u :: r, none :: t, h, k, v, hk => by simp [wk] at h
  | some u :: r, some u2 :: t, h, k, v, hk => by
    cases k with
    | zero => simp at hk ⊢; exact h.1 ▸ hk
    | succ k => simpa using wk_at (L2 := r) (L := t) h.2 (by simpa using hk)
theorem v_weak (L2 : List (Option Value)) (h : wk L2 L) (k : V E R mi fin K N M pc L2 st) : V E R mi fin K N M pc L st := by
  intro p e s m args below meth c H locs ls d0 C hd hP hS hl
  refine k p e s m args below meth c H locs ls d0 C hd hP hS ⟨hl.1, hl.2.1, fun q hq => ?_⟩
  obtain ⟨j, h1, h2⟩ := asc_mem.mp hq
  exact hl.2.2 q (asc_mem.mpr ⟨j, wk_at h h1, h2⟩)
theorem gs_ne {M : Mem} {a b : Nat} {c : va_E} {x : Option va_E} (h : a ≠ b) (hx : M[b]? = x) : (M.set a c)[b]? = x := by rw [List.getElem?_set_ne h]; exact hx
theorem gs_eq {M : Mem} {a : Nat} {c d : va_E} (h : M[a]? = some d) : (M.set a c)[a]? = some c := List.getElem?_set_self (List.getElem?_eq_some_iff.mp h).1
theorem gs_len {M : Mem} {a : Nat} {c : va_E} : (M.set a c).length = M.length := List.length_set
theorem gs_id {M : Mem} {a : Nat} {c : va_E} (h : M[a]? = some c) : M.set a c = M := by
  apply List.ext_getElem?
  intro i
  by_cases e : a = i
  · subst e; rw [gs_eq h, h]
  · rw [List.getElem?_set_ne e]
theorem gs_gs {M : Mem} {a : Nat} {c d : va_E} : (M.set a c).set a d = M.set a d := List.set_set ..
theorem v_set_id {a : Nat} {c : va_E} (h : M[a]? = some c) (k : V E R mi fin K N M pc L st) : V E R mi fin K N (M.set a c) pc L st := by rw [gs_id h]; exact k
end BASE
/-! sums over a stretch of hours -/
def sm (f : Int → Int) (a : Int) : Nat → Int
  | 0 => 0
  | n + 1 => sm f a n + f (a + n)
def mx (f : Int → Int) (a : Int) : Nat → Int
  | 0 => 0
  | n + 1 => max (mx f a n) (f (a + n))
theorem sm_pre (f : Int → Int) (a : Int) : ∀ n : Nat, sm f (a - 1) (n + 1) = f (a - 1) + sm f a n
  | 0 => by simp [sm]
  | n + 1 => by
    have h := sm_pre f a n
    rw [sm, h, sm]
    have e : a - 1 + ((n + 1 : Nat) : Int) = a + n := by omega
    rw [e]
    omega
theorem mx_pre (f : Int → Int) (a : Int) : ∀ n : Nat, mx f (a - 1) (n + 1) = max (f (a - 1)) (mx f a n)
  | 0 => by simp [mx]; omega
  | n + 1 => by
    have h := mx_pre f a n
    rw [mx, h, mx]
    have e : a - 1 + ((n + 1 : Nat) : Int) = a + n := by omega
    rw [e]
    omega
theorem sm_cong {f g : Int → Int} {a : Int} : ∀ n : Nat, (∀ i : Nat, i < n → f (a + i) = g (a + i)) → sm f a n = sm g a n
  | 0, _ => rfl
  | n + 1, h => by rw [sm, sm, sm_cong n (fun i hi => h i (by omega)), h n (by omega)]
theorem mx_cong {f g : Int → Int} {a : Int} : ∀ n : Nat, (∀ i : Nat, i < n → f (a + i) = g (a + i)) → mx f a n = mx g a n
  | 0, _ => rfl
  | n + 1, h => by rw [mx, mx, mx_cong n (fun i hi => h i (by omega)), h n (by omega)]
theorem sm_bd {f : Int → Int} {a lo hi : Int} : ∀ n : Nat, (∀ i : Nat, i < n → lo ≤ f (a + i) ∧ f (a + i) ≤ hi) → (n : Int) * lo ≤ sm f a n ∧ sm f a n ≤ n * hi
  | 0, _ => by simp [sm]
  | n + 1, h => by
    have h1 := sm_bd (lo := lo) (hi := hi) n (fun i hi => h i (by omega))
    have h2 := h n (by omega)
    have e1 : ((n + 1 : Nat) : Int) * lo = n * lo + lo := by rw [Int.natCast_succ, Int.add_mul, Int.one_mul]
    have e2 : ((n + 1 : Nat) : Int) * hi = n * hi + hi := by rw [Int.natCast_succ, Int.add_mul, Int.one_mul]
    rw [sm, e1, e2]
    omega
theorem mx_bd {f : Int → Int} {a hi : Int} (h0 : 0 ≤ hi) : ∀ n : Nat, (∀ i : Nat, i < n → f (a + i) ≤ hi) → 0 ≤ mx f a n ∧ mx f a n ≤ hi
  | 0, _ => by simp [mx]; exact h0
  | n + 1, h => by
    have h1 := mx_bd h0 n (fun i hi => h i (by omega))
    have h2 := h n (by omega)
    rw [mx]
    omega
end
section
set_option maxRecDepth 100000 in
theorem c_X4_hasRoom {E : Ev} {M : Mem} {Post : Option Value → Mem → Prop} {a : Nat} {b : Value} {n x : Int} (hT : M[a]? = some (ob 4 [b, iv n])) (hn : 0 ≤ n) (hn2 : n ≤ 640) (hx : 0 ≤ x) (hx2 : x ≤ 1000) (hp : Post (some (iv (pI (n + x ≤ 640)))) M) : Cn E rX4_hasRoom mX4_hasRoom [rr E a, iv x] M Post := by
  refine Cn.of (L := [some (rr E a), some (iv x)]) (by decide) (Nat.le_of_ble_eq_true rfl) rfl ?_
  refine v_aload_0 dX4_hasRoom_0 ?_
  refine g_X4_15 rfl dX4_hasRoom_1 hT ?_
  refine v_iload_1 dX4_hasRoom_4 ?_
  refine v_iadd dX4_hasRoom_5 ?_
  refine v_sipush dX4_hasRoom_6 (by decide) ?_
  refine v_icmp_gt (tgt := 16) dX4_hasRoom_9 rfl ⟨by omega, by omega⟩ ⟨by omega, by omega⟩ (fun c9 => ?_) (fun c9 => ?_)
  · refine v_iconst dX4_hasRoom_16 ?_
    exact v_zret dX4_hasRoom_17 rfl (Nat.le_refl _) (Nat.le_refl _) (by first | exact Or.inl rfl | exact Or.inr rfl) (by first | exact ret_t (by omega) hp | exact ret_f (by omega) hp)
  · refine v_iconst dX4_hasRoom_12 ?_
    refine v_goto (tgt := 17) dX4_hasRoom_13 rfl ?_
    exact v_zret dX4_hasRoom_17 rfl (Nat.le_refl _) (Nat.le_refl _) (by first | exact Or.inl rfl | exact Or.inr rfl) (by first | exact ret_t (by omega) hp | exact ret_f (by omega) hp)

set_option maxRecDepth 100000 in
theorem c_X4_cutTo {E : Ev} {M : Mem} {Post : Option Value → Mem → Prop} {a : Nat} {b : Value} {n x : Int} (hT : M[a]? = some (ob 4 [b, iv n])) (hn : 0 ≤ n) (hn2 : n ≤ 640) (hx : I32 x) (hp : 0 ≤ x → x ≤ n → Post (some (iv 1)) (M.set a (ob 4 [b, iv x]))) (hq : ¬ (0 ≤ x ∧ x ≤ n) → Post (some (iv 0)) M) : Cn E rX4_cutTo mX4_cutTo [rr E a, iv x] M Post := by
  refine Cn.of (L := [some (rr E a), some (iv x)]) (by decide) (Nat.le_of_ble_eq_true rfl) rfl ?_
  refine v_iload_1 dX4_cutTo_0 ?_
  refine v_if_lt (tgt := 12) dX4_cutTo_1 rfl hx (fun c1 => ?_) (fun c1 => ?_)
  · refine v_iconst dX4_cutTo_12 ?_
    exact v_zret dX4_cutTo_13 rfl (Nat.le_refl _) (Nat.le_refl _) (by first | exact Or.inl rfl | exact Or.inr rfl) (hq (by omega))
  · refine v_iload_1 dX4_cutTo_4 ?_
    refine v_aload_0 dX4_cutTo_5 ?_
    refine g_X4_15 rfl dX4_cutTo_6 hT ?_
    refine v_icmp_le (tgt := 14) dX4_cutTo_9 rfl hx ⟨by omega, by omega⟩ (fun c9 => ?_) (fun c9 => ?_)
    · refine v_aload_0 dX4_cutTo_14 ?_
      refine v_iload_1 dX4_cutTo_15 ?_
      refine p_X4_15 rfl dX4_cutTo_16 hT ?_
      refine v_iconst dX4_cutTo_19 ?_
      exact v_zret dX4_cutTo_20 rfl (Nat.le_refl _) (Nat.le_refl _) (by first | exact Or.inl rfl | exact Or.inr rfl) (hp (by omega) (by omega))
    · refine v_iconst dX4_cutTo_12 ?_
      exact v_zret dX4_cutTo_13 rfl (Nat.le_refl _) (Nat.le_refl _) (by first | exact Or.inl rfl | exact Or.inr rfl) (hq (by omega))
end
section
/-! ===== what an office is: one flat row of numbers, as the reference keeps it ===== -/
abbrev Pl (w : Int → Int) (s k h : Int) : Prop := 0 ≤ s ∧ s < w 2 ∧ s < 4 ∧ 0 ≤ k ∧ k < w 1 ∧ k < 3 ∧ 0 ≤ h ∧ h < w 0 ∧ h < 60
def rdA (w : Int → Int) (s k h : Int) : Int := if Pl w s k h then w (50 + 60 * (3 * s + k) + h) - 1 else -1
def vz (r : Int) : Int := if r = -1 then 0 else r
def vc (r : Int) : Int := if r = -1 then 0 else 1
/-- the first hour of a window -/
def fsW (w : Int → Int) (k h : Int) : Int := max 0 (h - w (7 + 13 * k) + 1)
def mnW (w : Int → Int) (s k h : Int) : Int :=
  if Pl w s k h then
    if sm (fun x => vc (rdA w s k x)) (fsW w k h) (h - fsW w k h + 1).toNat < w (8 + 13 * k) then -1
    else (sm (fun x => vz (rdA w s k x)) (fsW w k h) (h - fsW w k h + 1).toNat + ((h - fsW w k h + 1) - sm (fun x => vc (rdA w s k x)) (fsW w k h) (h - fsW w k h + 1).toNat) * mx (fun x => rdA w s k x) (fsW w k h) (h - fsW w k h + 1).toNat) / (h - fsW w k h + 1)
  else -1
def scS (lv ix : Int → Int) (level : Int) : Nat → Int
  | 0 => ix 0
  | m + 1 => if lv (m + 1) - lv m ≤ level - lv m then ix (m + 1) else if 0 < level - lv m ∧ 0 < lv (m + 1) - lv m then ix m + (level - lv m) * (ix (m + 1) - ix m) / (lv (m + 1) - lv m) else scS lv ix level m
def scW (w : Int → Int) (k level : Int) : Int := scS (fun i => w (10 + 13 * k + 2 * i)) (fun i => w (11 + 13 * k + 2 * i)) level (w (9 + 13 * k) - 1).toNat
def sbW (w : Int → Int) (s k h : Int) : Int := if mnW w s k h = -1 then -1 else scW w k (mnW w s k h)
def mx1 (f : Int → Int) : Nat → Int
  | 0 => -1
  | n + 1 => max (mx1 f n) (f n)
def ixW (w : Int → Int) (s h : Int) : Int := mx1 (fun k => sbW w s k h) (w 1).toNat
/-- the first place from a on, of n, at which f is v -/
def fnd (f : Int → Int) (v : Int) (a : Int) : Nat → Int
  | 0 => -1
  | n + 1 => if f a = v then a else fnd f v (a + 1) n
def rlW (w : Int → Int) (s h : Int) : Int := if ixW w s h = -1 then -1 else fnd (fun k => sbW w s k h) (ixW w s h) 0 (w 1).toNat
/-- the greatest above -1 from a on, and the first place where it is -/
def bst (f : Int → Int) (a : Int) : Nat → Int × Int
  | 0 => (-1, -1)
  | n + 1 => if (bst f a n).1 < f (a + n) then (f (a + n), a + n) else bst f a n
def dsI (w : Int → Int) (d h s : Int) : Int := if w (46 + s) = d then ixW w s h else -1
def wsW (w : Int → Int) (d h : Int) : Int := (bst (dsI w d h) 0 (w 2).toNat).2
def cnW (w : Int → Int) (d h : Int) : Int := sm (fun s => if dsI w d h s = -1 then 0 else 1) 0 (w 2).toNat
def bdW (w : Int → Int) (index : Int) : Int := if index = -1 then -1 else sm (fun k => if w (4 + k) ≤ index then 1 else 0) 0 3
def crW (w : Int → Int) : Int := sm (fun r => sm (fun h => if w (50 + 60 * r + h) = 0 then 0 else 1) 0 (w 0).toNat) 0 12
/-- an office as a text can tell it, and as acts leave it -/
def WF (w : Int → Int) : Prop :=
  (0 ≤ w 0 ∧ w 0 ≤ 60) ∧ (1 ≤ w 1 ∧ w 1 ≤ 3) ∧ (1 ≤ w 2 ∧ w 2 ≤ 4) ∧ (0 ≤ w 3 ∧ w 3 ≤ 100) ∧ (1 ≤ w 4 ∧ w 4 < w 5 ∧ w 5 < w 6 ∧ w 6 ≤ 500) ∧
  (∀ k, 0 ≤ k → k < w 1 → 1 ≤ w (7 + 13 * k) ∧ w (7 + 13 * k) ≤ 12 ∧ 1 ≤ w (8 + 13 * k) ∧ w (8 + 13 * k) ≤ w (7 + 13 * k) ∧ 2 ≤ w (9 + 13 * k) ∧ w (9 + 13 * k) ≤ 5) ∧
  (∀ k i, 0 ≤ k → k < w 1 → 0 ≤ i → i < w (9 + 13 * k) → 0 ≤ w (10 + 13 * k + 2 * i) ∧ w (10 + 13 * k + 2 * i) ≤ 999 ∧ 0 ≤ w (11 + 13 * k + 2 * i) ∧ w (11 + 13 * k + 2 * i) ≤ 500) ∧
  (∀ k i, 0 ≤ k → k < w 1 → 0 ≤ i → i + 1 < w (9 + 13 * k) → w (10 + 13 * k + 2 * i) < w (10 + 13 * k + 2 * (i + 1)) ∧ w (11 + 13 * k + 2 * i) ≤ w (11 + 13 * k + 2 * (i + 1))) ∧
  (∀ s, 0 ≤ s → s < w 2 → 0 ≤ w (46 + s) ∧ w (46 + s) ≤ 2) ∧
  (∀ r h, 0 ≤ r → r < 12 → 0 ≤ h → h < 60 → 0 ≤ w (50 + 60 * r + h) ∧ w (50 + 60 * r + h) ≤ 1000) ∧
  (∀ r h, 0 ≤ r → r < 12 → w 0 ≤ h → h < 60 → w (50 + 60 * r + h) = 0)
/-- the class's cells of one substance -/
def SubAt (E : Ev) (M : Mem) (a : Nat) (w : Int → Int) (k : Int) : Prop :=
  ∃ (p q n : Int) (lv ix : Int → Int), M[a]? = some (ob 3 [rr E (a + 1), rr E (a + 2), iv p, iv q, iv n]) ∧ M[a + 1]? = some (ia E 0 5 lv) ∧ M[a + 2]? = some (ia E 0 5 ix) ∧
    (k < w 1 → p = w (9 + 13 * k) ∧ q = w (7 + 13 * k) ∧ n = w (8 + 13 * k) ∧ ∀ i, 0 ≤ i → i < p → lv i = w (10 + 13 * k + 2 * i) ∧ ix i = w (11 + 13 * k + 2 * i))
/-- the class's cells of an office hold the row w -/
def OffAt (E : Ev) (M : Mem) (o : Nat) (w : Int → Int) : Prop :=
  M[o]? = some (ob 2 [rr E (o + 1), rr E (o + 2), rr E (o + 3), rr E (o + 4), iv (w 3), iv (w 1), iv (w 2), iv (w 0)]) ∧
  (∃ f, M[o + 1]? = some (ia E 0 3 f) ∧ ∀ j, 0 ≤ j → j < 3 → f j = w (4 + j)) ∧
  (∃ g, M[o + 2]? = some (ra E 3 3 g) ∧ ∀ j, 0 ≤ j → j < 3 → g j = some (o + 17 + 3 * j.toNat)) ∧
  (∃ f, M[o + 3]? = some (ia E 0 4 f) ∧ ∀ j, 0 ≤ j → j < 4 → j < w 2 → f j = w (46 + j)) ∧
  (∃ g, M[o + 4]? = some (ra E 4 12 g) ∧ ∀ j, 0 ≤ j → j < 12 → g j = some (o + 5 + j.toNat)) ∧
  (∀ r : Nat, r < 12 → ∃ f, M[o + 5 + r]? = some (ia E 0 60 f) ∧ ∀ h, 0 ≤ h → h < 60 → f h = w (50 + 60 * r + h) - 1) ∧
  (∀ k : Nat, k < 3 → SubAt E M (o + 17 + 3 * k) w k)
theorem rd_bd {w : Int → Int} (hw : WF w) (s k h : Int) : -1 ≤ rdA w s k h ∧ rdA w s k h ≤ 999 := by
  unfold rdA
  split
  · next hp =>
    have := hw.2.2.2.2.2.2.2.2.2.1 (3 * s + k) h (by omega) (by omega) (by omega) (by omega)
    omega
  · omega
theorem vz_bd {r : Int} (h : -1 ≤ r) (h2 : r ≤ 999) : 0 ≤ vz r ∧ vz r ≤ 999 := by unfold vz; split <;> omega
theorem vc_bd (r : Int) : 0 ≤ vc r ∧ vc r ≤ 1 := by unfold vc; split <;> omega
theorem fs_bd {w : Int → Int} (hw : WF w) {k h : Int} (hk : 0 ≤ k) (hk2 : k < w 1) (hh : 0 ≤ h) : 0 ≤ fsW w k h ∧ fsW w k h ≤ h ∧ h - fsW w k h + 1 ≤ 12 := by
  have := hw.2.2.2.2.2.1 k hk hk2
  unfold fsW
  omega
theorem cn_bd (w : Int → Int) (s k a : Int) (n : Nat) : 0 ≤ sm (fun x => vc (rdA w s k x)) a n ∧ sm (fun x => vc (rdA w s k x)) a n ≤ n := by
  have := sm_bd (f := fun x => vc (rdA w s k x)) (a := a) (lo := 0) (hi := 1) n (fun i _ => vc_bd _)
  omega
theorem sz_bd {w : Int → Int} (hw : WF w) (s k a : Int) (n : Nat) : 0 ≤ sm (fun x => vz (rdA w s k x)) a n ∧ sm (fun x => vz (rdA w s k x)) a n ≤ n * 999 := by
  have := sm_bd (f := fun x => vz (rdA w s k x)) (a := a) (lo := 0) (hi := 999) n (fun i _ => vz_bd (rd_bd hw _ _ _).1 (rd_bd hw _ _ _).2)
  omega
theorem mr_bd {w : Int → Int} (hw : WF w) (s k a : Int) (n : Nat) : 0 ≤ mx (fun x => rdA w s k x) a n ∧ mx (fun x => rdA w s k x) a n ≤ 999 := mx_bd (by omega) n (fun i _ => (rd_bd hw _ _ _).2)
/-- no sum goes above what its greatest, taken for all, gives -/
theorem sum_le (f : Int → Int) (a : Int) (hf : ∀ x, -1 ≤ f x) : ∀ n : Nat, sm (fun x => vz (f x)) a n ≤ sm (fun x => vc (f x)) a n * mx f a n ∧ 0 ≤ sm (fun x => vc (f x)) a n ∧ 0 ≤ mx f a n
  | 0 => by simp [sm, mx]
  | n + 1 => by
    obtain ⟨h1, h2, h3⟩ := sum_le f a hf n
    have hm : 0 ≤ mx f a (n + 1) := by rw [mx]; omega
    have hc := vc_bd (f (a + n))
    refine ⟨?_, by rw [sm]; omega, hm⟩
    rw [sm, sm]
    have e1 : sm (fun x => vc (f x)) a n * mx f a n ≤ sm (fun x => vc (f x)) a n * mx f a (n + 1) := Int.mul_le_mul_of_nonneg_left (by rw [mx]; omega) h2
    have e2 : vz (f (a + n)) ≤ vc (f (a + n)) * mx f a (n + 1) := by
      unfold vz vc
      split
      · simp
      · rw [mx]; omega
    rw [Int.add_mul]
    omega
theorem mn_bd {w : Int → Int} (hw : WF w) (s k h : Int) : -1 ≤ mnW w s k h ∧ mnW w s k h ≤ 999 := by
  unfold mnW
  split
  · next hp =>
    obtain ⟨h1, h2, h3⟩ := fs_bd hw (k := k) (h := h) hp.2.2.2.1 hp.2.2.2.2.1 hp.2.2.2.2.2.2.1
    split
    · omega
    · generalize hn : (h - fsW w k h + 1).toNat = n
      have hn2 : h - fsW w k h + 1 = n := by omega
      obtain ⟨a1, a2, a3⟩ := sum_le (fun x => rdA w s k x) (fsW w k h) (fun x => (rd_bd hw s k x).1) n
      have a4 := (mr_bd hw s k (fsW w k h) n).2
      have a5 := (cn_bd w s k (fsW w k h) n).2
      have a6 := (sz_bd hw s k (fsW w k h) n).1
      rw [hn2]
      generalize sm (fun x => vc (rdA w s k x)) (fsW w k h) n = c at *
      generalize sm (fun x => vz (rdA w s k x)) (fsW w k h) n = z at *
      generalize mx (fun x => rdA w s k x) (fsW w k h) n = g at *
      have b1 : 0 ≤ (n - c) * g := Int.mul_nonneg (by omega) a3
      have b2 : (n - c) * g + c * g = n * g := by rw [← Int.add_mul]; congr 1; omega
      have b3 : (n : Int) * g ≤ n * 999 := Int.mul_le_mul_of_nonneg_left a4 (by omega)
      have hpos : (0 : Int) < n := by omega
      constructor
      · have := Int.ediv_nonneg (show 0 ≤ z + (n - c) * g by omega) (Int.le_of_lt hpos)
        omega
      · have : (z + (n - c) * g) / n ≤ 999 := Int.ediv_le_of_le_mul hpos (by have : (999 : Int) * n = n * 999 := Int.mul_comm _ _; omega)
        exact this
  · omega
theorem sm_st (f : Int → Int) {a x : Int} (h : a ≤ x) : sm f a (x + 1 - a).toNat = sm f a (x - a).toNat + f x := by
  have e : (x + 1 - a).toNat = (x - a).toNat + 1 := by omega
  have e2 : a + ((x - a).toNat : Int) = x := by omega
  rw [e, sm, e2]
theorem mx_st (f : Int → Int) {a x : Int} (h : a ≤ x) : mx f a (x + 1 - a).toNat = max (mx f a (x - a).toNat) (f x) := by
  have e : (x + 1 - a).toNat = (x - a).toNat + 1 := by omega
  have e2 : a + ((x - a).toNat : Int) = x := by omega
  rw [e, mx, e2]
theorem sm_z (f : Int → Int) (a : Int) : sm f a (a - a).toNat = 0 := by
  have e : (a - a).toNat = 0 := by omega
  rw [e, sm]
theorem mx_z (f : Int → Int) (a : Int) : mx f a (a - a).toNat = 0 := by
  have e : (a - a).toNat = 0 := by omega
  rw [e, mx]
theorem mx1_st (f : Int → Int) {x : Int} (h : 0 ≤ x) : mx1 f (x + 1).toNat = max (mx1 f x.toNat) (f x) := by
  have e : (x + 1).toNat = x.toNat + 1 := by omega
  have e2 : ((x.toNat : Nat) : Int) = x := by omega
  rw [e, mx1, e2]
theorem bst_st (f : Int → Int) {a x : Int} (h : a ≤ x) : bst f a (x + 1 - a).toNat = if (bst f a (x - a).toNat).1 < f x then (f x, x) else bst f a (x - a).toNat := by
  have e : (x + 1 - a).toNat = (x - a).toNat + 1 := by omega
  have e2 : a + ((x - a).toNat : Int) = x := by omega
  rw [e, bst, e2]
theorem mx1_bd {f : Int → Int} {lo hi : Int} (h0 : -1 ≤ hi) : ∀ n : Nat, (∀ i : Nat, i < n → f i ≤ hi) → -1 ≤ mx1 f n ∧ mx1 f n ≤ hi
  | 0, _ => by simp [mx1]; exact h0
  | n + 1, h => by
    have h1 := mx1_bd (lo := lo) h0 n (fun i hi => h i (by omega))
    have h2 := h n (by omega)
    rw [mx1]
    omega
theorem bst_bd {f : Int → Int} {a hi : Int} (h0 : -1 ≤ hi) : ∀ n : Nat, (∀ i : Nat, i < n → f (a + i) ≤ hi) → -1 ≤ (bst f a n).1 ∧ (bst f a n).1 ≤ hi ∧ ((bst f a n).2 = -1 ∨ (a ≤ (bst f a n).2 ∧ (bst f a n).2 < a + n))
  | 0, _ => by simp [bst]; exact h0
  | n + 1, h => by
    have h1 := bst_bd h0 n (fun i hi => h i (by omega))
    have h2 := h n (by omega)
    rw [bst]
    split
    · simp only
      omega
    · omega
/-- a point's share of the way to the next is no more than all of it -/
theorem lin_bd {p d w : Int} (hp : 0 ≤ p) (hpw : p ≤ w) (hw : 0 < w) (hd : 0 ≤ d) : 0 ≤ p * d / w ∧ p * d / w ≤ d := by
  have h1 : 0 ≤ p * d := Int.mul_nonneg hp hd
  have h2 : p * d ≤ w * d := Int.mul_le_mul_of_nonneg_right hpw hd
  exact ⟨Int.ediv_nonneg h1 (Int.le_of_lt hw), Int.ediv_le_of_le_mul hw (by rw [Int.mul_comm d w]; exact h2)⟩
theorem scS_bd {lv ix : Int → Int} {level hi : Int} : ∀ m : Nat, (∀ i : Int, 0 ≤ i → i ≤ m → 0 ≤ ix i ∧ ix i ≤ hi) → (∀ i : Int, 0 ≤ i → i < m → ix i ≤ ix (i + 1)) → 0 ≤ scS lv ix level m ∧ scS lv ix level m ≤ hi
  | 0, h, _ => h 0 (by omega) (by omega)
  | m + 1, h, hm => by
    have h1 := scS_bd (level := level) (lv := lv) m (fun i a b => h i a (by omega)) (fun i a b => hm i a (by omega))
    have h2 := h (m + 1) (by omega) (by omega)
    have h3 := h m (by omega) (by omega)
    have h4 := hm m (by omega) (by omega)
    rw [scS]
    split
    · exact h2
    · split
      · next a b =>
        have := lin_bd (p := level - lv m) (d := ix (m + 1) - ix m) (w := lv (m + 1) - lv m) (by omega) (by omega) b.2 (by omega)
        omega
      · exact h1
theorem sc_bd {w : Int → Int} (hw : WF w) {k : Int} (hk : 0 ≤ k) (hk2 : k < w 1) (level : Int) : 0 ≤ scW w k level ∧ scW w k level ≤ 500 := by
  have hn := hw.2.2.2.2.2.1 k hk hk2
  unfold scW
  refine scS_bd _ (fun i a b => ?_) (fun i a b => ?_)
  · have := hw.2.2.2.2.2.2.1 k i hk hk2 a (by omega)
    omega
  · exact (hw.2.2.2.2.2.2.2.1 k i hk hk2 a (by omega)).2
theorem sb_bd {w : Int → Int} (hw : WF w) (s k h : Int) : -1 ≤ sbW w s k h ∧ sbW w s k h ≤ 500 := by
  unfold sbW
  split
  · omega
  · next hm =>
    by_cases hp : Pl w s k h
    · have := sc_bd hw hp.2.2.2.1 hp.2.2.2.2.1 (mnW w s k h)
      omega
    · exact absurd (if_neg hp) hm
theorem ix_bd {w : Int → Int} (hw : WF w) (s h : Int) : -1 ≤ ixW w s h ∧ ixW w s h ≤ 500 := mx1_bd (lo := 0) (by omega) _ (fun i _ => (sb_bd hw s i h).2)
/-- the header's numbers are ints -/
def HR (w : Int → Int) : Prop := I32 (w 0) ∧ I32 (w 1) ∧ I32 (w 2) ∧ I32 (w 3)
theorem WF.hr {w : Int → Int} (hw : WF w) : HR w := ⟨⟨by have := hw.1; omega, by have := hw.1; omega⟩, ⟨by have := hw.2.1; omega, by have := hw.2.1; omega⟩, ⟨by have := hw.2.2.1; omega, by have := hw.2.2.1; omega⟩, ⟨by have := hw.2.2.2.1; omega, by have := hw.2.2.2.1; omega⟩⟩
theorem OffAt.sub {E : Ev} {M : Mem} {o : Nat} {w : Int → Int} (h : OffAt E M o w) {k : Int} (h0 : 0 ≤ k) (h3 : k < 3) : SubAt E M (o + 17 + 3 * k.toNat) w k := by
  have := h.2.2.2.2.2.2 k.toNat (by omega)
  rwa [toNat_cast h0] at this
theorem OffAt.row {E : Ev} {M : Mem} {o : Nat} {w : Int → Int} (h : OffAt E M o w) {r : Int} (h0 : 0 ≤ r) (h3 : r < 12) : ∃ f, M[o + 5 + r.toNat]? = some (ia E 0 60 f) ∧ ∀ x, 0 ≤ x → x < 60 → f x = w (50 + 60 * r + x) - 1 := by
  obtain ⟨f, h1, h2⟩ := h.2.2.2.2.2.1 r.toNat (by omega)
  refine ⟨f, h1, fun x a b => ?_⟩
  have := h2 x a b
  rwa [toNat_cast h0] at this
theorem rd_pos {w : Int → Int} {s k h : Int} (c : Pl w s k h) : rdA w s k h = w (50 + 60 * (s * 3 + k) + h) - 1 := by
  unfold rdA
  rw [if_pos c, Int.mul_comm s 3]
theorem rd_neg {w : Int → Int} {s k h : Int} (c : ¬ Pl w s k h) : rdA w s k h = -1 := if_neg c
theorem mn_neg {w : Int → Int} {s k h : Int} (c : ¬ Pl w s k h) : mnW w s k h = -1 := if_neg c
theorem sb_neg {w : Int → Int} {s k h : Int} (c : ¬ Pl w s k h) : sbW w s k h = -1 := if_pos (mn_neg c)
theorem vc_neg {r : Int} (h : r = -1) : vc r = 0 := if_pos h
theorem vz_neg {r : Int} (h : r = -1) : vz r = 0 := if_pos h
theorem vc_pos {r : Int} (h : ¬ r = -1) : vc r = 1 := if_neg h
theorem vz_pos {r : Int} (h : ¬ r = -1) : vz r = r := if_neg h
theorem scS_st (lv ix : Int → Int) (level : Int) {i : Int} (h : 1 ≤ i) : scS lv ix level (i + 1 - 1).toNat = if lv i - lv (i - 1) ≤ level - lv (i - 1) then ix i else if 0 < level - lv (i - 1) ∧ 0 < lv i - lv (i - 1) then ix (i - 1) + (level - lv (i - 1)) * (ix i - ix (i - 1)) / (lv i - lv (i - 1)) else scS lv ix level (i - 1).toNat := by
  have e : (i + 1 - 1).toNat = (i - 1).toNat + 1 := by omega
  have e2 : (((i - 1).toNat : Nat) : Int) = i - 1 := by omega
  have e3 : i - 1 + 1 = i := by omega
  rw [e, scS, e2, e3]
theorem scS_cong {lv ix lv2 ix2 : Int → Int} {level : Int} : ∀ m : Nat, (∀ i : Int, 0 ≤ i → i ≤ m → lv i = lv2 i ∧ ix i = ix2 i) → scS lv ix level m = scS lv2 ix2 level m
  | 0, h => (h 0 (by omega) (by omega)).2
  | m + 1, h => by
    have h1 := h (m + 1) (by omega) (by omega)
    have h2 := h m (by omega) (by omega)
    rw [scS, scS, h1.1, h1.2, h2.1, h2.2, scS_cong m (fun i a b => h i a (by omega))]
theorem fnd_st (f : Int → Int) (v : Int) {k n : Int} (h : k < n) : fnd f v k (n - k).toNat = if f k = v then k else fnd f v (k + 1) (n - (k + 1)).toNat := by
  have e : (n - k).toNat = (n - (k + 1)).toNat + 1 := by omega
  rw [e, fnd]
theorem fnd_z (f : Int → Int) (v : Int) {k n : Int} (h : n ≤ k) : fnd f v k (n - k).toNat = -1 := by
  have e : (n - k).toNat = 0 := by omega
  rw [e, fnd]
theorem bst_z (f : Int → Int) (a : Int) : bst f a (a - a).toNat = (-1, -1) := by
  have e : (a - a).toNat = 0 := by omega
  rw [e, bst]
theorem ds_bd {w : Int → Int} (hw : WF w) (d h s : Int) : -1 ≤ dsI w d h s ∧ dsI w d h s ≤ 500 := by
  unfold dsI
  split
  · exact ix_bd hw s h
  · omega
/-! floats: an operation looks at what its operands stand for alone -/
def dc (u : UInt32) : FP.Core.Datum := FP.Core.decode FP.Core.b32 u.toNat
theorem nan_dc {u : UInt32} (h : isNaN32 u = true) : dc u = .nan := by
  have h1 : (u &&& 0x7fffffff).toNat = u.toNat % 2147483648 := by
    rw [UInt32.toNat_and]
    exact Nat.and_two_pow_sub_one_eq_mod u.toNat 31
  have h2 : (0x7f800000 : UInt32) < u &&& 0x7fffffff := by simpa [isNaN32] using h
  rw [UInt32.lt_iff_toNat_lt, h1] at h2
  have h3 : 2139095040 < u.toNat % 2147483648 := h2
  have e1 : FP.Core.fieldE FP.Core.b32 u.toNat = 255 := by
    show u.toNat / 8388608 % 256 = 255
    omega
  have e2 : ¬ FP.Core.fieldT FP.Core.b32 u.toNat = 0 := by
    show ¬ u.toNat % 8388608 = 0
    omega
  show FP.Core.decode FP.Core.b32 u.toNat = .nan
  unfold FP.Core.decode
  rw [if_pos (show FP.Core.fieldE FP.Core.b32 u.toNat = FP.Core.b32.exps - 1 from e1), if_neg e2]
theorem al_dc {x y : UInt32} (h : alike32 x y = true) : dc x = dc y := by
  unfold alike32 at h
  rw [Bool.or_eq_true] at h
  rcases h with h | h
  · rw [of_decide_eq_true h]
  · rw [Bool.and_eq_true] at h
    rw [nan_dc h.1, nan_dc h.2]
theorem fadd_dc {x y x2 y2 : UInt32} (h : dc x = dc x2) (h2 : dc y = dc y2) : FP.fadd x y = FP.fadd x2 y2 := by
  unfold dc at h h2
  unfold FP.fadd FP.Core.fadd FP.Core.add
  rw [h, h2]
theorem fsub_dc {x y x2 y2 : UInt32} (h : dc x = dc x2) (h2 : dc y = dc y2) : FP.fsub x y = FP.fsub x2 y2 := by
  unfold dc at h h2
  unfold FP.fsub FP.Core.fsub FP.Core.sub
  rw [h, h2]
theorem fmul_dc {x y x2 y2 : UInt32} (h : dc x = dc x2) (h2 : dc y = dc y2) : FP.fmul x y = FP.fmul x2 y2 := by
  unfold dc at h h2
  unfold FP.fmul FP.Core.fmul FP.Core.mul
  rw [h, h2]
theorem f2i_dc {x x2 : UInt32} (h : dc x = dc x2) : FP.f2i x = FP.f2i x2 := by
  unfold dc at h
  unfold FP.f2i FP.Core.f2i
  rw [h]
/-- the share as a float -/
def shF (w : Int → Int) : UInt32 := FP.fdiv (FP.i2f (Int32.ofInt (w 3))) 1120403456
/-- smoothed behind n hours -/
def fcF (w : Int → Int) (s k : Int) : Nat → Option UInt32
  | 0 => none
  | n + 1 => if rdA w s k n = -1 then fcF w s k n else match fcF w s k n with
    | none => some (FP.i2f (Int32.ofInt (rdA w s k n)))
    | some F => some (FP.fadd F (FP.fmul (shF w) (FP.fsub (FP.i2f (Int32.ofInt (rdA w s k n))) F)))
def fcO : Option UInt32 → Int
  | none => -1
  | some F => (FP.f2i F).toInt
def fcW (w : Int → Int) (s k h : Int) : Int := if Pl w s k h then fcO (fcF w s k (h + 1).toNat) else -1
/-- what the float local and its flag say of what is smoothed -/
def fcI (q : Option UInt32) (F : UInt32) (b : Int) : Prop := (b = 0 ∧ q = none) ∨ (b = 1 ∧ ∃ F0, q = some F0 ∧ dc F = dc F0)
theorem fcF_st (w : Int → Int) (s k : Int) {x : Int} (h : 0 ≤ x) : fcF w s k (x + 1).toNat = if rdA w s k x = -1 then fcF w s k x.toNat else match fcF w s k x.toNat with
    | none => some (FP.i2f (Int32.ofInt (rdA w s k x)))
    | some F => some (FP.fadd F (FP.fmul (shF w) (FP.fsub (FP.i2f (Int32.ofInt (rdA w s k x))) F))) := by
  have e : (x + 1).toNat = x.toNat + 1 := by omega
  have e2 : ((x.toNat : Nat) : Int) = x := by omega
  rw [e, fcF, e2]
theorem fcI_b {q : Option UInt32} {F : UInt32} {b : Int} (h : fcI q F b) : 0 ≤ b ∧ b ≤ 1 := by rcases h with h | h <;> omega
theorem fcI_skip {w : Int → Int} {s k x b : Int} {F : UInt32} (h0 : 0 ≤ x) (hr : rdA w s k x = -1) (h : fcI (fcF w s k x.toNat) F b) : fcI (fcF w s k (x + 1).toNat) F b := by rw [fcF_st w s k h0, if_pos hr]; exact h
theorem fcI_first {w : Int → Int} {s k x b : Int} {F : UInt32} (h0 : 0 ≤ x) (hr : ¬ rdA w s k x = -1) (hb : b = 0) (h : fcI (fcF w s k x.toNat) F b) : fcI (fcF w s k (x + 1).toNat) (FP.i2f (Int32.ofInt (rdA w s k x))) 1 := by
  rw [fcF_st w s k h0, if_neg hr]
  rcases h with h | h
  · rw [h.2]; exact Or.inr ⟨rfl, _, rfl, rfl⟩
  · omega
theorem fcI_next {w : Int → Int} {s k x b : Int} {F p r1 r2 r3 : UInt32} (h0 : 0 ≤ x) (hr : ¬ rdA w s k x = -1) (hb : ¬ b = 0) (hp : dc p = dc (shF w)) (h : fcI (fcF w s k x.toNat) F b) (a1 : alike32 r1 (FP.fsub (FP.i2f (Int32.ofInt (rdA w s k x))) F) = true) (a2 : alike32 r2 (FP.fmul p r1) = true) (a3 : alike32 r3 (FP.fadd F r2) = true) : fcI (fcF w s k (x + 1).toNat) r3 b := by
  rw [fcF_st w s k h0, if_neg hr]
  rcases h with h | ⟨h1, F0, h2, h3⟩
  · omega
  · rw [h2]
    refine Or.inr ⟨h1, _, rfl, ?_⟩
    rw [al_dc a3]
    have e1 : dc r1 = dc (FP.fsub (FP.i2f (Int32.ofInt (rdA w s k x))) F0) := by rw [al_dc a1, fsub_dc rfl h3]
    have e2 : dc r2 = dc (FP.fmul (shF w) (FP.fsub (FP.i2f (Int32.ofInt (rdA w s k x))) F0)) := by rw [al_dc a2, fmul_dc hp e1]
    rw [fadd_dc h3 e2]
theorem fcI_end {q : Option UInt32} {F : UInt32} {b : Int} (h : fcI q F b) (hb : ¬ b = 0) : (FP.f2i F).toInt = fcO q := by
  rcases h with h | ⟨-, F0, h2, h3⟩
  · exact absurd h.1 hb
  · rw [h2, f2i_dc h3]; rfl
theorem fcI_none {q : Option UInt32} {F : UInt32} {b : Int} (h : fcI q F b) (hb : b = 0) : (-1 : Int) = fcO q := by
  rcases h with h | ⟨h1, -⟩
  · rw [h.2]; rfl
  · omega
theorem f2i_bd (x : UInt32) : I32 (FP.f2i x).toInt := ⟨by have := Int32.le_toInt (FP.f2i x); omega, by have := Int32.toInt_lt (FP.f2i x); omega⟩
end
section
set_option maxRecDepth 100000 in
theorem c_X2_hasStation {E : Ev} {M : Mem} {Post : Option Value → Mem → Prop} {o : Nat} {w : Int → Int} (hO : OffAt E M o w) (hr : HR w) {s : Int} (hs : I32 s) (hp : Post (some (iv (pI (0 ≤ s ∧ s < w 2 ∧ s < 4)))) M) : Cn E rX2_hasStation mX2_hasStation [rr E o, iv s] M Post := by
  refine Cn.of (L := [some (rr E o), some (iv s)]) (by decide) (Nat.le_of_ble_eq_true rfl) rfl ?_
  refine v_iload_1 dX2_hasStation_0 ?_
  refine v_if_lt (tgt := 21) dX2_hasStation_1 rfl hs (fun c1 => ?_) (fun c1 => ?_)
  · refine v_iconst dX2_hasStation_21 ?_
    exact v_zret dX2_hasStation_22 rfl (Nat.le_refl _) (Nat.le_refl _) (by first | exact Or.inl rfl | exact Or.inr rfl) (by first | exact ret_t (by omega) hp | exact ret_f (by omega) hp)
  · refine v_iload_1 dX2_hasStation_4 ?_
    refine v_aload_0 dX2_hasStation_5 ?_
    refine g_X2_37 rfl dX2_hasStation_6 hO.1 ?_
    refine v_icmp_ge (tgt := 21) dX2_hasStation_9 rfl hs hr.2.2.1 (fun c9 => ?_) (fun c9 => ?_)
    · refine v_iconst dX2_hasStation_21 ?_
      exact v_zret dX2_hasStation_22 rfl (Nat.le_refl _) (Nat.le_refl _) (by first | exact Or.inl rfl | exact Or.inr rfl) (by first | exact ret_t (by omega) hp | exact ret_f (by omega) hp)
    · refine v_iload_1 dX2_hasStation_12 ?_
      refine v_iconst dX2_hasStation_13 ?_
      refine v_icmp_ge (tgt := 21) dX2_hasStation_14 rfl hs ⟨by omega, by omega⟩ (fun c14 => ?_) (fun c14 => ?_)
      · refine v_iconst dX2_hasStation_21 ?_
        exact v_zret dX2_hasStation_22 rfl (Nat.le_refl _) (Nat.le_refl _) (by first | exact Or.inl rfl | exact Or.inr rfl) (by first | exact ret_t (by omega) hp | exact ret_f (by omega) hp)
      · refine v_iconst dX2_hasStation_17 ?_
        refine v_goto (tgt := 22) dX2_hasStation_18 rfl ?_
        exact v_zret dX2_hasStation_22 rfl (Nat.le_refl _) (Nat.le_refl _) (by first | exact Or.inl rfl | exact Or.inr rfl) (by first | exact ret_t (by omega) hp | exact ret_f (by omega) hp)

set_option maxRecDepth 100000 in
theorem c_X2_hasHour {E : Ev} {M : Mem} {Post : Option Value → Mem → Prop} {o : Nat} {w : Int → Int} (hO : OffAt E M o w) (hr : HR w) {h : Int} (hs : I32 h) (hp : Post (some (iv (pI (0 ≤ h ∧ h < w 0 ∧ h < 60)))) M) : Cn E rX2_hasHour mX2_hasHour [rr E o, iv h] M Post := by
  refine Cn.of (L := [some (rr E o), some (iv h)]) (by decide) (Nat.le_of_ble_eq_true rfl) rfl ?_
  refine v_iload_1 dX2_hasHour_0 ?_
  refine v_if_lt (tgt := 22) dX2_hasHour_1 rfl hs (fun c1 => ?_) (fun c1 => ?_)
  · refine v_iconst dX2_hasHour_22 ?_
    exact v_zret dX2_hasHour_23 rfl (Nat.le_refl _) (Nat.le_refl _) (by first | exact Or.inl rfl | exact Or.inr rfl) (by first | exact ret_t (by omega) hp | exact ret_f (by omega) hp)
  · refine v_iload_1 dX2_hasHour_4 ?_
    refine v_aload_0 dX2_hasHour_5 ?_
    refine g_X2_40 rfl dX2_hasHour_6 hO.1 ?_
    refine v_icmp_ge (tgt := 22) dX2_hasHour_9 rfl hs hr.1 (fun c9 => ?_) (fun c9 => ?_)
    · refine v_iconst dX2_hasHour_22 ?_
      exact v_zret dX2_hasHour_23 rfl (Nat.le_refl _) (Nat.le_refl _) (by first | exact Or.inl rfl | exact Or.inr rfl) (by first | exact ret_t (by omega) hp | exact ret_f (by omega) hp)
    · refine v_iload_1 dX2_hasHour_12 ?_
      refine v_bipush dX2_hasHour_13 (by decide) ?_
      refine v_icmp_ge (tgt := 22) dX2_hasHour_15 rfl hs ⟨by omega, by omega⟩ (fun c15 => ?_) (fun c15 => ?_)
      · refine v_iconst dX2_hasHour_22 ?_
        exact v_zret dX2_hasHour_23 rfl (Nat.le_refl _) (Nat.le_refl _) (by first | exact Or.inl rfl | exact Or.inr rfl) (by first | exact ret_t (by omega) hp | exact ret_f (by omega) hp)
      · refine v_iconst dX2_hasHour_18 ?_
        refine v_goto (tgt := 23) dX2_hasHour_19 rfl ?_
        exact v_zret dX2_hasHour_23 rfl (Nat.le_refl _) (Nat.le_refl _) (by first | exact Or.inl rfl | exact Or.inr rfl) (by first | exact ret_t (by omega) hp | exact ret_f (by omega) hp)

set_option maxRecDepth 100000 in
theorem c_X2_hasPlace {E : Ev} {M : Mem} {Post : Option Value → Mem → Prop} {o : Nat} {w : Int → Int} (hO : OffAt E M o w) (hr : HR w) {s k h : Int} (hs : I32 s) (hk : I32 k) (hh : I32 h) (hp : Post (some (iv (pI (Pl w s k h)))) M) : Cn E rX2_hasPlace mX2_hasPlace [rr E o, iv s, iv k, iv h] M Post := by
  refine Cn.of (L := [some (rr E o), some (iv s), some (iv k), some (iv h)]) (by decide) (Nat.le_of_ble_eq_true rfl) rfl ?_
  refine v_iload_1 dX2_hasPlace_0 ?_
  refine v_if_lt (tgt := 56) dX2_hasPlace_1 rfl hs (fun c1 => ?_) (fun c1 => ?_)
  · refine v_iconst dX2_hasPlace_56 ?_
    exact v_zret dX2_hasPlace_57 rfl (Nat.le_refl _) (Nat.le_refl _) (by first | exact Or.inl rfl | exact Or.inr rfl) (by first | exact ret_t (by omega) hp | exact ret_f (by omega) hp)
  · refine v_iload_1 dX2_hasPlace_4 ?_
    refine v_aload_0 dX2_hasPlace_5 ?_
    refine g_X2_37 rfl dX2_hasPlace_6 hO.1 ?_
    refine v_icmp_ge (tgt := 56) dX2_hasPlace_9 rfl hs hr.2.2.1 (fun c9 => ?_) (fun c9 => ?_)
    · refine v_iconst dX2_hasPlace_56 ?_
      exact v_zret dX2_hasPlace_57 rfl (Nat.le_refl _) (Nat.le_refl _) (by first | exact Or.inl rfl | exact Or.inr rfl) (by first | exact ret_t (by omega) hp | exact ret_f (by omega) hp)
    · refine v_iload_1 dX2_hasPlace_12 ?_
      refine v_iconst dX2_hasPlace_13 ?_
      refine v_icmp_ge (tgt := 56) dX2_hasPlace_14 rfl hs ⟨by omega, by omega⟩ (fun c14 => ?_) (fun c14 => ?_)
      · refine v_iconst dX2_hasPlace_56 ?_
        exact v_zret dX2_hasPlace_57 rfl (Nat.le_refl _) (Nat.le_refl _) (by first | exact Or.inl rfl | exact Or.inr rfl) (by first | exact ret_t (by omega) hp | exact ret_f (by omega) hp)
      · refine v_iload_2 dX2_hasPlace_17 ?_
        refine v_if_lt (tgt := 56) dX2_hasPlace_18 rfl hk (fun c18 => ?_) (fun c18 => ?_)
        · refine v_iconst dX2_hasPlace_56 ?_
          exact v_zret dX2_hasPlace_57 rfl (Nat.le_refl _) (Nat.le_refl _) (by first | exact Or.inl rfl | exact Or.inr rfl) (by first | exact ret_t (by omega) hp | exact ret_f (by omega) hp)
        · refine v_iload_2 dX2_hasPlace_21 ?_
          refine v_aload_0 dX2_hasPlace_22 ?_
          refine g_X2_34 rfl dX2_hasPlace_23 hO.1 ?_
          refine v_icmp_ge (tgt := 56) dX2_hasPlace_26 rfl hk hr.2.1 (fun c26 => ?_) (fun c26 => ?_)
          · refine v_iconst dX2_hasPlace_56 ?_
            exact v_zret dX2_hasPlace_57 rfl (Nat.le_refl _) (Nat.le_refl _) (by first | exact Or.inl rfl | exact Or.inr rfl) (by first | exact ret_t (by omega) hp | exact ret_f (by omega) hp)
          · refine v_iload_2 dX2_hasPlace_29 ?_
            refine v_iconst dX2_hasPlace_30 ?_
            refine v_icmp_ge (tgt := 56) dX2_hasPlace_31 rfl hk ⟨by omega, by omega⟩ (fun c31 => ?_) (fun c31 => ?_)
            · refine v_iconst dX2_hasPlace_56 ?_
              exact v_zret dX2_hasPlace_57 rfl (Nat.le_refl _) (Nat.le_refl _) (by first | exact Or.inl rfl | exact Or.inr rfl) (by first | exact ret_t (by omega) hp | exact ret_f (by omega) hp)
            · refine v_iload_3 dX2_hasPlace_34 ?_
              refine v_if_lt (tgt := 56) dX2_hasPlace_35 rfl hh (fun c35 => ?_) (fun c35 => ?_)
              · refine v_iconst dX2_hasPlace_56 ?_
                exact v_zret dX2_hasPlace_57 rfl (Nat.le_refl _) (Nat.le_refl _) (by first | exact Or.inl rfl | exact Or.inr rfl) (by first | exact ret_t (by omega) hp | exact ret_f (by omega) hp)
              · refine v_iload_3 dX2_hasPlace_38 ?_
                refine v_aload_0 dX2_hasPlace_39 ?_
                refine g_X2_40 rfl dX2_hasPlace_40 hO.1 ?_
                refine v_icmp_ge (tgt := 56) dX2_hasPlace_43 rfl hh hr.1 (fun c43 => ?_) (fun c43 => ?_)
                · refine v_iconst dX2_hasPlace_56 ?_
                  exact v_zret dX2_hasPlace_57 rfl (Nat.le_refl _) (Nat.le_refl _) (by first | exact Or.inl rfl | exact Or.inr rfl) (by first | exact ret_t (by omega) hp | exact ret_f (by omega) hp)
                · refine v_iload_3 dX2_hasPlace_46 ?_
                  refine v_bipush dX2_hasPlace_47 (by decide) ?_
                  refine v_icmp_ge (tgt := 56) dX2_hasPlace_49 rfl hh ⟨by omega, by omega⟩ (fun c49 => ?_) (fun c49 => ?_)
                  · refine v_iconst dX2_hasPlace_56 ?_
                    exact v_zret dX2_hasPlace_57 rfl (Nat.le_refl _) (Nat.le_refl _) (by first | exact Or.inl rfl | exact Or.inr rfl) (by first | exact ret_t (by omega) hp | exact ret_f (by omega) hp)
                  · refine v_iconst dX2_hasPlace_52 ?_
                    refine v_goto (tgt := 57) dX2_hasPlace_53 rfl ?_
                    exact v_zret dX2_hasPlace_57 rfl (Nat.le_refl _) (Nat.le_refl _) (by first | exact Or.inl rfl | exact Or.inr rfl) (by first | exact ret_t (by omega) hp | exact ret_f (by omega) hp)

set_option maxRecDepth 100000 in
theorem c_X2_substanceAt {E : Ev} {M : Mem} {Post : Option Value → Mem → Prop} {o : Nat} {w : Int → Int} (hO : OffAt E M o w) (hr : HR w) {k : Int} (hk : I32 k) (hp : 0 ≤ k → k < w 1 → k < 3 → Post (some (rr E (o + 17 + 3 * k.toNat))) M) (hq : ¬ (0 ≤ k ∧ k < w 1 ∧ k < 3) → Post (some (ro E none)) M) : Cn E rX2_substanceAt mX2_substanceAt [rr E o, iv k] M Post := by
  obtain ⟨g, hg, hg2⟩ := hO.2.2.1
  refine Cn.of (L := [some (rr E o), some (iv k)]) (by decide) (Nat.le_of_ble_eq_true rfl) rfl ?_
  refine v_iload_1 dX2_substanceAt_0 ?_
  refine v_if_lt (tgt := 17) dX2_substanceAt_1 rfl hk (fun c1 => ?_) (fun c1 => ?_)
  · refine v_null dX2_substanceAt_17 ?_
    exact v_aret dX2_substanceAt_18 rfl (Nat.le_refl _) (Nat.le_refl _) (hq (by omega))
  · refine v_iload_1 dX2_substanceAt_4 ?_
    refine v_aload_0 dX2_substanceAt_5 ?_
    refine g_X2_34 rfl dX2_substanceAt_6 hO.1 ?_
    refine v_icmp_ge (tgt := 17) dX2_substanceAt_9 rfl hk hr.2.1 (fun c9 => ?_) (fun c9 => ?_)
    · refine v_null dX2_substanceAt_17 ?_
      exact v_aret dX2_substanceAt_18 rfl (Nat.le_refl _) (Nat.le_refl _) (hq (by omega))
    · refine v_iload_1 dX2_substanceAt_12 ?_
      refine v_iconst dX2_substanceAt_13 ?_
      refine v_icmp_lt (tgt := 19) dX2_substanceAt_14 rfl hk ⟨by omega, by omega⟩ (fun c14 => ?_) (fun c14 => ?_)
      · refine v_aload_0 dX2_substanceAt_19 ?_
        refine g_X2_17 rfl dX2_substanceAt_20 hO.1 ?_
        refine v_iload_1 dX2_substanceAt_23 ?_
        refine v_aaload (ty := .object RX3) dX2_substanceAt_24 hg rfl rfl (by omega) (by omega) (by decide) ?_
        rw [hg2 _ (by omega) (by omega)]
        exact v_aret dX2_substanceAt_25 rfl (Nat.le_refl _) (Nat.le_refl _) (hp (by omega) (by omega) (by omega))
      · refine v_null dX2_substanceAt_17 ?_
        exact v_aret dX2_substanceAt_18 rfl (Nat.le_refl _) (Nat.le_refl _) (hq (by omega))

set_option maxRecDepth 100000 in
theorem c_X2_readAt {E : Ev} {M : Mem} {Post : Option Value → Mem → Prop} {o : Nat} {w : Int → Int} (hO : OffAt E M o w) (hr : HR w) {s k h : Int} (hs : I32 s) (hk : I32 k) (hh : I32 h) (hp : Post (some (iv (rdA w s k h))) M) : Cn E rX2_readAt mX2_readAt [rr E o, iv s, iv k, iv h] M Post := by
  obtain ⟨g, hg, hg2⟩ := hO.2.2.2.2.1
  refine Cn.of (L := [some (rr E o), some (iv s), some (iv k), some (iv h)]) (by decide) (Nat.le_of_ble_eq_true rfl) rfl ?_
  refine v_aload_0 dX2_readAt_0 ?_
  refine v_iload_1 dX2_readAt_1 ?_
  refine v_iload_2 dX2_readAt_2 ?_
  refine v_iload_3 dX2_readAt_3 ?_
  refine l_X2_67 rfl dX2_readAt_4 hO.1 ⟨Nat.le_of_ble_eq_true rfl, Nat.le_of_ble_eq_true rfl⟩ (Nat.le_of_ble_eq_true rfl) ⟨Nat.le_refl _, Nat.le_refl _⟩ (c_X2_hasPlace hO hr hs hk hh ?_)
  refine v_ifeq_b (tgt := 25) dX2_readAt_7 rfl (fun c => ?_) (fun c => ?_)
  · refine v_iconst dX2_readAt_25 ?_
    exact v_iret dX2_readAt_26 rfl (Nat.le_refl _) (Nat.le_refl _) (by rw [rd_neg c] at hp; exact hp)
  · refine v_aload_0 dX2_readAt_10 ?_
    refine g_X2_26 rfl dX2_readAt_11 hO.1 ?_
    refine v_iload_1 dX2_readAt_14 ?_
    refine v_iconst dX2_readAt_15 ?_
    refine v_imul dX2_readAt_16 ?_
    refine v_iload_2 dX2_readAt_17 ?_
    refine v_iadd dX2_readAt_18 ?_
    refine v_aaload (ty := .array .int) dX2_readAt_19 hg rfl rfl (by omega) (by omega) (by decide) ?_
    rw [hg2 _ (by omega) (by omega)]
    obtain ⟨f, hf, hf2⟩ := hO.row (r := s * 3 + k) (by omega) (by omega)
    refine v_iload_3 dX2_readAt_20 ?_
    refine v_iaload dX2_readAt_21 hf (by omega) (by omega) (by decide) ?_
    rw [hf2 _ (by omega) (by omega)]
    refine v_goto (tgt := 26) dX2_readAt_22 rfl ?_
    exact v_iret dX2_readAt_26 rfl (Nat.le_refl _) (Nat.le_refl _) (by rw [rd_pos c] at hp; exact hp)
end
section
theorem mn_few {w : Int → Int} {s k h : Int} (hP : Pl w s k h) (c : sm (fun x => vc (rdA w s k x)) (fsW w k h) (h - fsW w k h + 1).toNat < w (8 + 13 * k)) : mnW w s k h = -1 := by
  unfold mnW
  rw [if_pos hP, if_pos c]
theorem mn_some {w : Int → Int} {s k h : Int} (hP : Pl w s k h) (c : ¬ sm (fun x => vc (rdA w s k x)) (fsW w k h) (h - fsW w k h + 1).toNat < w (8 + 13 * k)) : mnW w s k h = (sm (fun x => vz (rdA w s k x)) (fsW w k h) (h - fsW w k h + 1).toNat + ((h - fsW w k h + 1) - sm (fun x => vc (rdA w s k x)) (fsW w k h) (h - fsW w k h + 1).toNat) * mx (fun x => rdA w s k x) (fsW w k h) (h - fsW w k h + 1).toNat) / (h - fsW w k h + 1) := by
  unfold mnW
  rw [if_pos hP, if_neg c]

set_option maxRecDepth 100000 in
theorem c_X2_meanAt_s {E : Ev} {M : Mem} {Post : Option Value → Mem → Prop} {o : Nat} {w : Int → Int} (hO : OffAt E M o w) (hw : WF w) {s k h : Int} (hs : I32 s) (hk : I32 k) (hh : I32 h) (h1 : 0 ≤ k) (h2 : k < w 1) (h3 : k < 3) (hp : Post (some (iv (mnW w s k h))) M) : Cn E rX2_meanAt mX2_meanAt [rr E o, iv s, iv k, iv h] M Post := by
  obtain ⟨p, q, n, lv, ix, u1, u2, u3, u4⟩ := hO.sub h1 h3
  obtain ⟨rfl, rfl, rfl, u5⟩ := u4 h2
  have hn := hw.2.2.2.2.2.1 k h1 h2
  have lp : ∀ (r : Nat) (x : Int), ((fsW w k h) ≤ x) → (x ≤ h + 1) → (Pl w s k h) → h + 1 - x < (r : Int) → V E rX2_meanAt mX2_meanAt (finM E rX2_meanAt Post) 0 0 M 52 [some (rr E o), some (iv s), some (iv k), some (iv h), some (rr E (o + 17 + 3 * k.toNat)), some (iv (fsW w k h)), some (iv (sm (fun x => vc (rdA w s k x)) (fsW w k h) (x - (fsW w k h)).toNat)), some (iv (sm (fun x => vz (rdA w s k x)) (fsW w k h) (x - (fsW w k h)).toNat)), some (iv (mx (fun x => rdA w s k x) (fsW w k h) (x - (fsW w k h)).toNat)), some (iv x), none] [] := by
    intro r
    induction r with
    | zero => intro x h_0 h_1 h_2 hz; exact absurd hz (by omega)
    | succ r ih =>
      intro x h_0 h_1 h_2 hz
      obtain ⟨f1, f2, f3⟩ := fs_bd hw (k := k) (h := h) h1 h2 (by omega)
      have hP := h_2
      refine v_iload_9 dX2_meanAt_52 ?_
      refine v_iload_3 dX2_meanAt_54 ?_
      have hb := rd_bd hw s k x
      have b1 := cn_bd w s k (fsW w k h) (x - (fsW w k h)).toNat
      have b2 := sz_bd hw s k (fsW w k h) (x - (fsW w k h)).toNat
      have b3 := mr_bd hw s k (fsW w k h) (x - (fsW w k h)).toNat
      refine v_icmp_gt (tgt := 99) dX2_meanAt_55 rfl ⟨by omega, by omega⟩ ⟨by omega, by omega⟩ (fun c55 => ?_) (fun c55 => ?_)
      · have ex : x = h + 1 := by omega
        subst ex
        have en : (h + 1 - (fsW w k h)).toNat = (h - (fsW w k h) + 1).toNat := by omega
        rw [en] at b1 b2 b3 ⊢
        refine v_iload_3 dX2_meanAt_99 ?_
        refine v_iload_5 dX2_meanAt_100 ?_
        refine v_isub dX2_meanAt_102 ?_
        refine v_iconst dX2_meanAt_103 ?_
        refine v_iadd dX2_meanAt_104 ?_
        refine v_istore_9 dX2_meanAt_105 (Nat.le_of_ble_eq_true rfl) rfl ?_
        refine v_iload_6 dX2_meanAt_107 ?_
        refine v_aload_4 dX2_meanAt_109 ?_
        refine g_X2_61 rfl dX2_meanAt_111 u1 ?_
        refine v_icmp_lt (tgt := 123) dX2_meanAt_114 rfl ⟨by omega, by omega⟩ ⟨by omega, by omega⟩ (fun c114 => ?_) (fun c114 => ?_)
        · refine v_iconst dX2_meanAt_123 ?_
          exact v_iret dX2_meanAt_124 rfl (Nat.le_refl _) (Nat.le_refl _) (by rw [mn_few hP c114] at hp; exact hp)
        · refine v_iload_9 dX2_meanAt_117 ?_
          refine v_iconst dX2_meanAt_119 ?_
          refine v_icmp_ge (tgt := 125) dX2_meanAt_120 rfl ⟨by omega, by omega⟩ ⟨by omega, by omega⟩ (fun c120 => ?_) (fun c120 => absurd c120 (by omega))
          refine v_iload_7 dX2_meanAt_125 ?_
          refine v_iload_9 dX2_meanAt_127 ?_
          refine v_iload_6 dX2_meanAt_129 ?_
          refine v_isub dX2_meanAt_131 ?_
          refine v_iload_8 dX2_meanAt_132 ?_
          refine v_imul dX2_meanAt_134 ?_
          refine v_iadd dX2_meanAt_135 ?_
          refine v_iload_9 dX2_meanAt_136 ?_
          refine v_idiv dX2_meanAt_138 (by have := Int.mul_nonneg (show 0 ≤ (h - (fsW w k h) + 1) - sm (fun x => vc (rdA w s k x)) (fsW w k h) (h - (fsW w k h) + 1).toNat by omega) b3.1; omega) (by have q1 := Int.mul_le_mul_of_nonneg_left b3.2 (show 0 ≤ (h - (fsW w k h) + 1) - sm (fun x => vc (rdA w s k x)) (fsW w k h) (h - (fsW w k h) + 1).toNat by omega); omega) (by omega) (by omega) ?_
          exact v_iret dX2_meanAt_139 rfl (Nat.le_refl _) (Nat.le_refl _) (by rw [mn_some hP c114] at hp; exact hp)
      · refine v_aload_0 dX2_meanAt_58 ?_
        refine v_iload_1 dX2_meanAt_59 ?_
        refine v_iload_2 dX2_meanAt_60 ?_
        refine v_iload_9 dX2_meanAt_61 ?_
        refine l_X2_81 rfl dX2_meanAt_63 hO.1 ⟨Nat.le_of_ble_eq_true rfl, Nat.le_of_ble_eq_true rfl⟩ (Nat.le_of_ble_eq_true rfl) ⟨Nat.le_refl _, Nat.le_refl _⟩ (c_X2_readAt hO hw.hr hs hk ⟨by omega, by omega⟩ ?_)
        refine v_istore_10 dX2_meanAt_66 (Nat.le_of_ble_eq_true rfl) rfl ?_
        refine v_iload_10 dX2_meanAt_68 ?_
        refine v_iconst dX2_meanAt_70 ?_
        refine v_icmp_eq (tgt := 93) dX2_meanAt_71 rfl ⟨by omega, by omega⟩ ⟨by omega, by omega⟩ (fun c71 => ?_) (fun c71 => ?_)
        · refine v_iinc_9 dX2_meanAt_93 (Nat.le_of_ble_eq_true rfl) rfl ?_
          refine v_goto (tgt := 52) dX2_meanAt_96 rfl ?_
          exact v_weak [some (rr E o), some (iv s), some (iv k), some (iv h), some (rr E (o + 17 + 3 * k.toNat)), some (iv (fsW w k h)), some (iv (sm (fun x => vc (rdA w s k x)) (fsW w k h) ((x + 1) - (fsW w k h)).toNat)), some (iv (sm (fun x => vz (rdA w s k x)) (fsW w k h) ((x + 1) - (fsW w k h)).toNat)), some (iv (mx (fun x => rdA w s k x) (fsW w k h) ((x + 1) - (fsW w k h)).toNat)), some (iv (x + 1)), none] ⟨rfl, rfl, rfl, rfl, rfl, rfl, by rw [sm_st _ h_0, vc_neg c71, Int.add_zero], by rw [sm_st _ h_0, vz_neg c71, Int.add_zero], by rw [mx_st _ h_0, c71, Int.max_eq_left (by omega)], rfl, trivial⟩ (ih (x + 1) (by omega) (by omega) h_2 (by omega))
        · refine v_iinc_6 dX2_meanAt_74 (Nat.le_of_ble_eq_true rfl) rfl ?_
          refine v_iload_7 dX2_meanAt_77 ?_
          refine v_iload_10 dX2_meanAt_79 ?_
          refine v_iadd dX2_meanAt_81 ?_
          refine v_istore_7 dX2_meanAt_82 (Nat.le_of_ble_eq_true rfl) rfl ?_
          refine v_iload_8 dX2_meanAt_84 ?_
          refine v_iload_10 dX2_meanAt_86 ?_
          refine l_X2_75 rfl dX2_meanAt_88 ⟨by omega, by omega⟩ ⟨by omega, by omega⟩ (Nat.le_of_ble_eq_true rfl) (Nat.le_of_ble_eq_true rfl) ⟨Nat.le_refl _, Nat.le_refl _⟩ ?_
          refine v_istore_8 dX2_meanAt_91 (Nat.le_of_ble_eq_true rfl) rfl ?_
          refine v_iinc_9 dX2_meanAt_93 (Nat.le_of_ble_eq_true rfl) rfl ?_
          refine v_goto (tgt := 52) dX2_meanAt_96 rfl ?_
          exact v_weak [some (rr E o), some (iv s), some (iv k), some (iv h), some (rr E (o + 17 + 3 * k.toNat)), some (iv (fsW w k h)), some (iv (sm (fun x => vc (rdA w s k x)) (fsW w k h) ((x + 1) - (fsW w k h)).toNat)), some (iv (sm (fun x => vz (rdA w s k x)) (fsW w k h) ((x + 1) - (fsW w k h)).toNat)), some (iv (mx (fun x => rdA w s k x) (fsW w k h) ((x + 1) - (fsW w k h)).toNat)), some (iv (x + 1)), none] ⟨rfl, rfl, rfl, rfl, rfl, rfl, by rw [sm_st _ h_0, vc_pos c71], by rw [sm_st _ h_0, vz_pos c71], by rw [mx_st _ h_0], rfl, trivial⟩ (ih (x + 1) (by omega) (by omega) h_2 (by omega))
  refine Cn.of (L := [some (rr E o), some (iv s), some (iv k), some (iv h), none, none, none, none, none, none, none]) (by decide) (Nat.le_of_ble_eq_true rfl) rfl ?_
  refine v_aload_0 dX2_meanAt_0 ?_
  refine v_iload_2 dX2_meanAt_1 ?_
  refine l_X2_71 rfl dX2_meanAt_2 hO.1 ⟨Nat.le_of_ble_eq_true rfl, Nat.le_of_ble_eq_true rfl⟩ (Nat.le_of_ble_eq_true rfl) ⟨Nat.le_refl _, Nat.le_refl _⟩ (c_X2_substanceAt hO hw.hr hk (fun _ _ _ => ?_) (fun q => absurd ⟨h1, h2, h3⟩ q))
  refine v_astore_4 dX2_meanAt_5 (Nat.le_of_ble_eq_true rfl) rfl ?_
  refine v_aload_4 dX2_meanAt_7 ?_
  refine v_ifnull_s dX2_meanAt_9 ?_
  refine v_aload_0 dX2_meanAt_12 ?_
  refine v_iload_1 dX2_meanAt_13 ?_
  refine v_iload_2 dX2_meanAt_14 ?_
  refine v_iload_3 dX2_meanAt_15 ?_
  refine l_X2_67 rfl dX2_meanAt_16 hO.1 ⟨Nat.le_of_ble_eq_true rfl, Nat.le_of_ble_eq_true rfl⟩ (Nat.le_of_ble_eq_true rfl) ⟨Nat.le_refl _, Nat.le_refl _⟩ (c_X2_hasPlace hO hw.hr hs hk hh ?_)
  refine v_ifne_b (tgt := 24) dX2_meanAt_19 rfl (fun hP => ?_) (fun hP => ?_)
  · obtain ⟨f1, f2, f3⟩ := fs_bd hw (k := k) (h := h) h1 h2 (by omega)
    refine v_iconst dX2_meanAt_24 ?_
    refine v_iload_3 dX2_meanAt_25 ?_
    refine v_aload_4 dX2_meanAt_26 ?_
    refine g_X2_58 rfl dX2_meanAt_28 u1 ?_
    refine v_isub dX2_meanAt_31 ?_
    refine v_iconst dX2_meanAt_32 ?_
    refine v_iadd dX2_meanAt_33 ?_
    refine l_X2_75 rfl dX2_meanAt_34 ⟨by omega, by omega⟩ ⟨by omega, by omega⟩ (Nat.le_of_ble_eq_true rfl) (Nat.le_of_ble_eq_true rfl) ⟨Nat.le_refl _, Nat.le_refl _⟩ ?_
    refine v_istore_5 dX2_meanAt_37 (Nat.le_of_ble_eq_true rfl) rfl ?_
    refine v_iconst dX2_meanAt_39 ?_
    refine v_istore_6 dX2_meanAt_40 (Nat.le_of_ble_eq_true rfl) rfl ?_
    refine v_iconst dX2_meanAt_42 ?_
    refine v_istore_7 dX2_meanAt_43 (Nat.le_of_ble_eq_true rfl) rfl ?_
    refine v_iconst dX2_meanAt_45 ?_
    refine v_istore_8 dX2_meanAt_46 (Nat.le_of_ble_eq_true rfl) rfl ?_
    refine v_iload_5 dX2_meanAt_48 ?_
    refine v_istore_9 dX2_meanAt_50 (Nat.le_of_ble_eq_true rfl) rfl ?_
    exact v_weak [some (rr E o), some (iv s), some (iv k), some (iv h), some (rr E (o + 17 + 3 * k.toNat)), some (iv (fsW w k h)), some (iv (sm (fun x => vc (rdA w s k x)) (fsW w k h) ((fsW w k h) - (fsW w k h)).toNat)), some (iv (sm (fun x => vz (rdA w s k x)) (fsW w k h) ((fsW w k h) - (fsW w k h)).toNat)), some (iv (mx (fun x => rdA w s k x) (fsW w k h) ((fsW w k h) - (fsW w k h)).toNat)), some (iv (fsW w k h)), none] ⟨rfl, rfl, rfl, rfl, rfl, rfl, by rw [sm_z], by rw [sm_z], by rw [mx_z], rfl, trivial⟩ (lp (h + 2 - (fsW w k h)).toNat (fsW w k h) (by omega) (by omega) hP (by omega))
  · refine v_iconst dX2_meanAt_22 ?_
    exact v_iret dX2_meanAt_23 rfl (Nat.le_refl _) (Nat.le_refl _) (by rw [mn_neg hP] at hp; exact hp)

set_option maxRecDepth 100000 in
theorem c_X2_meanAt_n {E : Ev} {M : Mem} {Post : Option Value → Mem → Prop} {o : Nat} {w : Int → Int} (hO : OffAt E M o w) (hw : WF w) {s k h : Int} (hs : I32 s) (hk : I32 k) (hh : I32 h) (hn : ¬ (0 ≤ k ∧ k < w 1 ∧ k < 3)) (hp : Post (some (iv (mnW w s k h))) M) : Cn E rX2_meanAt mX2_meanAt [rr E o, iv s, iv k, iv h] M Post := by
  refine Cn.of (L := [some (rr E o), some (iv s), some (iv k), some (iv h), none, none, none, none, none, none, none]) (by decide) (Nat.le_of_ble_eq_true rfl) rfl ?_
  refine v_aload_0 dX2_meanAt_0 ?_
  refine v_iload_2 dX2_meanAt_1 ?_
  refine l_X2_71 rfl dX2_meanAt_2 hO.1 ⟨Nat.le_of_ble_eq_true rfl, Nat.le_of_ble_eq_true rfl⟩ (Nat.le_of_ble_eq_true rfl) ⟨Nat.le_refl _, Nat.le_refl _⟩ (c_X2_substanceAt hO hw.hr hk (fun a b c => absurd ⟨a, b, c⟩ hn) (fun _ => ?_))
  refine v_astore_4 dX2_meanAt_5 (Nat.le_of_ble_eq_true rfl) rfl ?_
  refine v_aload_4 dX2_meanAt_7 ?_
  refine v_ifnull_n (tgt := 22) dX2_meanAt_9 rfl ?_
  refine v_iconst dX2_meanAt_22 ?_
  exact v_iret dX2_meanAt_23 rfl (Nat.le_refl _) (Nat.le_refl _) (by rw [mn_neg (fun q => hn ⟨q.2.2.2.1, q.2.2.2.2.1, q.2.2.2.2.2.1⟩)] at hp; exact hp)

theorem c_X2_meanAt {E : Ev} {M : Mem} {Post : Option Value → Mem → Prop} {o : Nat} {w : Int → Int} (hO : OffAt E M o w) (hw : WF w) {s k h : Int} (hs : I32 s) (hk : I32 k) (hh : I32 h) (hp : Post (some (iv (mnW w s k h))) M) : Cn E rX2_meanAt mX2_meanAt [rr E o, iv s, iv k, iv h] M Post := by
  by_cases hc : 0 ≤ k ∧ k < w 1 ∧ k < 3
  · exact c_X2_meanAt_s hO hw hs hk hh hc.1 hc.2.1 hc.2.2 hp
  · exact c_X2_meanAt_n hO hw hs hk hh hc hp
end
section
set_option maxRecDepth 100000 in
theorem c_X3_subAtLevel {E : Ev} {M : Mem} {Post : Option Value → Mem → Prop} {a : Nat} {p q n level : Int} {lv ix : Int → Int} (u1 : M[a]? = some (ob 3 [rr E (a + 1), rr E (a + 2), iv p, iv q, iv n])) (u2 : M[a + 1]? = some (ia E 0 5 lv)) (u3 : M[a + 2]? = some (ia E 0 5 ix)) (h1 : 1 ≤ p) (h2 : p ≤ 5) (hv : ∀ i, 0 ≤ i → i < p → 0 ≤ lv i ∧ lv i ≤ 999 ∧ 0 ≤ ix i ∧ ix i ≤ 500) (hm : ∀ i, 0 ≤ i → i + 1 < p → lv i < lv (i + 1) ∧ ix i ≤ ix (i + 1)) (hl : 0 ≤ level) (hl2 : level ≤ 999) (hp : Post (some (iv (scS lv ix level (p - 1).toNat))) M) : Cn E rX3_subAtLevel mX3_subAtLevel [rr E a, iv level] M Post := by
  have lp : ∀ (r : Nat) (i : Int), (1 ≤ i) → (i ≤ p) → p - i < (r : Int) → V E rX3_subAtLevel mX3_subAtLevel (finM E rX3_subAtLevel Post) 0 0 M 9 [some (rr E a), some (iv level), some (iv (scS lv ix level (i - 1).toNat)), some (iv i), none, none] [] := by
    intro r
    induction r with
    | zero => intro i h_0 h_1 hz; exact absurd hz (by omega)
    | succ r ih =>
      intro i h_0 h_1 hz
      refine v_iload_3 dX3_subAtLevel_9 ?_
      refine v_aload_0 dX3_subAtLevel_10 ?_
      refine g_X3_18 rfl dX3_subAtLevel_11 u1 ?_
      refine v_icmp_ge (tgt := 115) dX3_subAtLevel_14 rfl ⟨by omega, by omega⟩ ⟨by omega, by omega⟩ (fun c14 => ?_) (fun c14 => ?_)
      · refine v_iload_2 dX3_subAtLevel_115 ?_
        exact v_iret dX3_subAtLevel_116 rfl (Nat.le_refl _) (Nat.le_refl _) (by rw [show i = p by omega]; exact hp)
      · refine v_iload_3 dX3_subAtLevel_17 ?_
        refine v_iconst dX3_subAtLevel_18 ?_
        refine v_icmp_ge (tgt := 115) dX3_subAtLevel_19 rfl ⟨by omega, by omega⟩ ⟨by omega, by omega⟩ (fun c19 => absurd c19 (by omega)) (fun c19 => ?_)
        have l1 := hv (i - 1) (by omega) (by omega)
        have l2 := hv i (by omega) (by omega)
        have l3 := hm (i - 1) (by omega) (by omega)
        rw [show i - 1 + 1 = i by omega] at l3
        refine v_iload_1 dX3_subAtLevel_22 ?_
        refine v_aload_0 dX3_subAtLevel_23 ?_
        refine g_X3_9 rfl dX3_subAtLevel_24 u1 ?_
        refine v_iload_3 dX3_subAtLevel_27 ?_
        refine v_iconst dX3_subAtLevel_28 ?_
        refine v_isub dX3_subAtLevel_29 ?_
        refine v_iaload dX3_subAtLevel_30 u2 (by omega) (by omega) (by decide) ?_
        refine v_isub dX3_subAtLevel_31 ?_
        refine v_istore_4 dX3_subAtLevel_32 (Nat.le_of_ble_eq_true rfl) rfl ?_
        refine v_aload_0 dX3_subAtLevel_34 ?_
        refine g_X3_9 rfl dX3_subAtLevel_35 u1 ?_
        refine v_iload_3 dX3_subAtLevel_38 ?_
        refine v_iaload dX3_subAtLevel_39 u2 (by omega) (by omega) (by decide) ?_
        refine v_aload_0 dX3_subAtLevel_40 ?_
        refine g_X3_9 rfl dX3_subAtLevel_41 u1 ?_
        refine v_iload_3 dX3_subAtLevel_44 ?_
        refine v_iconst dX3_subAtLevel_45 ?_
        refine v_isub dX3_subAtLevel_46 ?_
        refine v_iaload dX3_subAtLevel_47 u2 (by omega) (by omega) (by decide) ?_
        refine v_isub dX3_subAtLevel_48 ?_
        refine v_istore_5 dX3_subAtLevel_49 (Nat.le_of_ble_eq_true rfl) rfl ?_
        refine v_iload_4 dX3_subAtLevel_51 ?_
        refine v_iload_5 dX3_subAtLevel_53 ?_
        refine v_icmp_lt (tgt := 68) dX3_subAtLevel_55 rfl ⟨by omega, by omega⟩ ⟨by omega, by omega⟩ (fun c55 => ?_) (fun c55 => ?_)
        · refine v_iload_4 dX3_subAtLevel_68 ?_
          refine v_if_le (tgt := 109) dX3_subAtLevel_70 rfl ⟨by omega, by omega⟩ (fun c70 => ?_) (fun c70 => ?_)
          · refine v_iinc_3 dX3_subAtLevel_109 (Nat.le_of_ble_eq_true rfl) rfl ?_
            refine v_goto (tgt := 9) dX3_subAtLevel_112 rfl ?_
            exact v_weak [some (rr E a), some (iv level), some (iv (scS lv ix level ((i + 1) - 1).toNat)), some (iv (i + 1)), none, none] ⟨rfl, rfl, by rw [scS_st _ _ _ h_0]; rw [if_neg (by omega), if_neg (by omega)], rfl, trivial⟩ (ih (i + 1) (by omega) (by omega) (by omega))
          · refine v_iload_5 dX3_subAtLevel_73 ?_
            refine v_if_le (tgt := 109) dX3_subAtLevel_75 rfl ⟨by omega, by omega⟩ (fun c75 => absurd c75 (by omega)) (fun c75 => ?_)
            refine v_aload_0 dX3_subAtLevel_78 ?_
            refine g_X3_15 rfl dX3_subAtLevel_79 u1 ?_
            refine v_iload_3 dX3_subAtLevel_82 ?_
            refine v_iconst dX3_subAtLevel_83 ?_
            refine v_isub dX3_subAtLevel_84 ?_
            refine v_iaload dX3_subAtLevel_85 u3 (by omega) (by omega) (by decide) ?_
            refine v_iload_4 dX3_subAtLevel_86 ?_
            refine v_aload_0 dX3_subAtLevel_88 ?_
            refine g_X3_15 rfl dX3_subAtLevel_89 u1 ?_
            refine v_iload_3 dX3_subAtLevel_92 ?_
            refine v_iaload dX3_subAtLevel_93 u3 (by omega) (by omega) (by decide) ?_
            refine v_aload_0 dX3_subAtLevel_94 ?_
            refine g_X3_15 rfl dX3_subAtLevel_95 u1 ?_
            refine v_iload_3 dX3_subAtLevel_98 ?_
            refine v_iconst dX3_subAtLevel_99 ?_
            refine v_isub dX3_subAtLevel_100 ?_
            refine v_iaload dX3_subAtLevel_101 u3 (by omega) (by omega) (by decide) ?_
            refine v_isub dX3_subAtLevel_102 ?_
            refine v_imul dX3_subAtLevel_103 ?_
            refine v_iload_5 dX3_subAtLevel_104 ?_
            refine v_idiv dX3_subAtLevel_106 (Int.mul_nonneg (by omega) (by omega)) (by have q1 := Int.mul_le_mul (show level - lv (i - 1) ≤ 999 by omega) (show ix i - ix (i - 1) ≤ 500 by omega) (by omega) (by omega); omega) (by omega) (by omega) ?_
            refine v_iadd dX3_subAtLevel_107 ?_
            refine v_istore_2 dX3_subAtLevel_108 (Nat.le_of_ble_eq_true rfl) rfl ?_
            refine v_iinc_3 dX3_subAtLevel_109 (Nat.le_of_ble_eq_true rfl) rfl ?_
            refine v_goto (tgt := 9) dX3_subAtLevel_112 rfl ?_
            exact v_weak [some (rr E a), some (iv level), some (iv (scS lv ix level ((i + 1) - 1).toNat)), some (iv (i + 1)), none, none] ⟨rfl, rfl, by rw [scS_st _ _ _ h_0]; rw [if_neg (by omega), if_pos ⟨by omega, by omega⟩], rfl, trivial⟩ (ih (i + 1) (by omega) (by omega) (by omega))
        · refine v_aload_0 dX3_subAtLevel_58 ?_
          refine g_X3_15 rfl dX3_subAtLevel_59 u1 ?_
          refine v_iload_3 dX3_subAtLevel_62 ?_
          refine v_iaload dX3_subAtLevel_63 u3 (by omega) (by omega) (by decide) ?_
          refine v_istore_2 dX3_subAtLevel_64 (Nat.le_of_ble_eq_true rfl) rfl ?_
          refine v_goto (tgt := 109) dX3_subAtLevel_65 rfl ?_
          refine v_iinc_3 dX3_subAtLevel_109 (Nat.le_of_ble_eq_true rfl) rfl ?_
          refine v_goto (tgt := 9) dX3_subAtLevel_112 rfl ?_
          exact v_weak [some (rr E a), some (iv level), some (iv (scS lv ix level ((i + 1) - 1).toNat)), some (iv (i + 1)), none, none] ⟨rfl, rfl, by rw [scS_st _ _ _ h_0]; rw [if_pos (by omega)], rfl, trivial⟩ (ih (i + 1) (by omega) (by omega) (by omega))
  refine Cn.of (L := [some (rr E a), some (iv level), none, none, none, none]) (by decide) (Nat.le_of_ble_eq_true rfl) rfl ?_
  refine v_aload_0 dX3_subAtLevel_0 ?_
  refine g_X3_15 rfl dX3_subAtLevel_1 u1 ?_
  refine v_iconst dX3_subAtLevel_4 ?_
  refine v_iaload dX3_subAtLevel_5 u3 (by omega) (by omega) (by decide) ?_
  refine v_istore_2 dX3_subAtLevel_6 (Nat.le_of_ble_eq_true rfl) rfl ?_
  refine v_iconst dX3_subAtLevel_7 ?_
  refine v_istore_3 dX3_subAtLevel_8 (Nat.le_of_ble_eq_true rfl) rfl ?_
  exact v_weak [some (rr E a), some (iv level), some (iv (scS lv ix level ((1 : Int) - 1).toNat)), some (iv 1), none, none] ⟨rfl, rfl, rfl, rfl, trivial⟩ (lp p.toNat 1 (by omega) (by omega) (by omega))

set_option maxRecDepth 100000 in
theorem c_X2_subAt_s {E : Ev} {M : Mem} {Post : Option Value → Mem → Prop} {o : Nat} {w : Int → Int} (hO : OffAt E M o w) (hw : WF w) {s k h : Int} (hs : I32 s) (hk : I32 k) (hh : I32 h) (h1 : 0 ≤ k) (h2 : k < w 1) (h3 : k < 3) (hp : Post (some (iv (sbW w s k h))) M) : Cn E rX2_subAt mX2_subAt [rr E o, iv s, iv k, iv h] M Post := by
  obtain ⟨p, q, n, lv, ix, u1, u2, u3, u4⟩ := hO.sub h1 h3
  obtain ⟨rfl, rfl, rfl, u5⟩ := u4 h2
  have hn := hw.2.2.2.2.2.1 k h1 h2
  have hmn := mn_bd hw s k h
  have es : mnW w s k h ≠ -1 → scS lv ix (mnW w s k h) (w (9 + 13 * k) - 1).toNat = sbW w s k h := by
    intro hc
    unfold sbW
    rw [if_neg hc]
    unfold scW
    exact scS_cong _ (fun i a b => u5 i a (by omega))
  refine Cn.of (L := [some (rr E o), some (iv s), some (iv k), some (iv h), none, none]) (by decide) (Nat.le_of_ble_eq_true rfl) rfl ?_
  refine v_aload_0 dX2_subAt_0 ?_
  refine v_iload_2 dX2_subAt_1 ?_
  refine l_X2_71 rfl dX2_subAt_2 hO.1 ⟨Nat.le_of_ble_eq_true rfl, Nat.le_of_ble_eq_true rfl⟩ (Nat.le_of_ble_eq_true rfl) ⟨Nat.le_refl _, Nat.le_refl _⟩ (c_X2_substanceAt hO hw.hr hk (fun _ _ _ => ?_) (fun q => absurd ⟨h1, h2, h3⟩ q))
  refine v_astore_4 dX2_subAt_5 (Nat.le_of_ble_eq_true rfl) rfl ?_
  refine v_aload_0 dX2_subAt_7 ?_
  refine v_iload_1 dX2_subAt_8 ?_
  refine v_iload_2 dX2_subAt_9 ?_
  refine v_iload_3 dX2_subAt_10 ?_
  refine l_X2_85 rfl dX2_subAt_11 hO.1 ⟨Nat.le_of_ble_eq_true rfl, Nat.le_of_ble_eq_true rfl⟩ (Nat.le_of_ble_eq_true rfl) ⟨Nat.le_refl _, Nat.le_refl _⟩ (c_X2_meanAt hO hw hs hk hh ?_)
  refine v_istore_5 dX2_subAt_14 (Nat.le_of_ble_eq_true rfl) rfl ?_
  refine v_aload_4 dX2_subAt_16 ?_
  refine v_ifnull_s dX2_subAt_18 ?_
  refine v_iload_5 dX2_subAt_21 ?_
  refine v_iconst dX2_subAt_23 ?_
  refine v_icmp_ne (tgt := 31) dX2_subAt_24 rfl ⟨by omega, by omega⟩ ⟨by omega, by omega⟩ (fun c24 => ?_) (fun c24 => ?_)
  · refine v_aload_4 dX2_subAt_31 ?_
    refine v_iload_5 dX2_subAt_33 ?_
    refine l_X2_88 rfl dX2_subAt_35 u1 ⟨Nat.le_of_ble_eq_true rfl, Nat.le_of_ble_eq_true rfl⟩ (Nat.le_of_ble_eq_true rfl) ⟨Nat.le_refl _, Nat.le_refl _⟩ (c_X3_subAtLevel u1 u2 u3 (by omega) (by omega) (fun i a b => by have := u5 i a b; rw [this.1, this.2]; exact hw.2.2.2.2.2.2.1 k i h1 h2 a b) (fun i a b => by have e1 := u5 i a (by omega); have e2 := u5 (i + 1) (by omega) b; rw [e1.1, e1.2, e2.1, e2.2]; exact hw.2.2.2.2.2.2.2.1 k i h1 h2 a b) (by omega) (by omega) ?_)
    exact v_iret dX2_subAt_38 rfl (Nat.le_refl _) (Nat.le_refl _) (by rw [es c24]; exact hp)
  · refine v_iconst dX2_subAt_27 ?_
    refine v_goto (tgt := 38) dX2_subAt_28 rfl ?_
    exact v_iret dX2_subAt_38 rfl (Nat.le_refl _) (Nat.le_refl _) (by have e : sbW w s k h = -1 := if_pos c24; rw [e] at hp; exact hp)

set_option maxRecDepth 100000 in
theorem c_X2_subAt_n {E : Ev} {M : Mem} {Post : Option Value → Mem → Prop} {o : Nat} {w : Int → Int} (hO : OffAt E M o w) (hw : WF w) {s k h : Int} (hs : I32 s) (hk : I32 k) (hh : I32 h) (hn : ¬ (0 ≤ k ∧ k < w 1 ∧ k < 3)) (hp : Post (some (iv (sbW w s k h))) M) : Cn E rX2_subAt mX2_subAt [rr E o, iv s, iv k, iv h] M Post := by
  refine Cn.of (L := [some (rr E o), some (iv s), some (iv k), some (iv h), none, none]) (by decide) (Nat.le_of_ble_eq_true rfl) rfl ?_
  refine v_aload_0 dX2_subAt_0 ?_
  refine v_iload_2 dX2_subAt_1 ?_
  refine l_X2_71 rfl dX2_subAt_2 hO.1 ⟨Nat.le_of_ble_eq_true rfl, Nat.le_of_ble_eq_true rfl⟩ (Nat.le_of_ble_eq_true rfl) ⟨Nat.le_refl _, Nat.le_refl _⟩ (c_X2_substanceAt hO hw.hr hk (fun a b c => absurd ⟨a, b, c⟩ hn) (fun _ => ?_))
  refine v_astore_4 dX2_subAt_5 (Nat.le_of_ble_eq_true rfl) rfl ?_
  refine v_aload_0 dX2_subAt_7 ?_
  refine v_iload_1 dX2_subAt_8 ?_
  refine v_iload_2 dX2_subAt_9 ?_
  refine v_iload_3 dX2_subAt_10 ?_
  refine l_X2_85 rfl dX2_subAt_11 hO.1 ⟨Nat.le_of_ble_eq_true rfl, Nat.le_of_ble_eq_true rfl⟩ (Nat.le_of_ble_eq_true rfl) ⟨Nat.le_refl _, Nat.le_refl _⟩ (c_X2_meanAt hO hw hs hk hh ?_)
  refine v_istore_5 dX2_subAt_14 (Nat.le_of_ble_eq_true rfl) rfl ?_
  refine v_aload_4 dX2_subAt_16 ?_
  refine v_ifnull_n (tgt := 27) dX2_subAt_18 rfl ?_
  refine v_iconst dX2_subAt_27 ?_
  refine v_goto (tgt := 38) dX2_subAt_28 rfl ?_
  exact v_iret dX2_subAt_38 rfl (Nat.le_refl _) (Nat.le_refl _) (by rw [sb_neg (fun q => hn ⟨q.2.2.2.1, q.2.2.2.2.1, q.2.2.2.2.2.1⟩)] at hp; exact hp)

theorem c_X2_subAt {E : Ev} {M : Mem} {Post : Option Value → Mem → Prop} {o : Nat} {w : Int → Int} (hO : OffAt E M o w) (hw : WF w) {s k h : Int} (hs : I32 s) (hk : I32 k) (hh : I32 h) (hp : Post (some (iv (sbW w s k h))) M) : Cn E rX2_subAt mX2_subAt [rr E o, iv s, iv k, iv h] M Post := by
  by_cases hc : 0 ≤ k ∧ k < w 1 ∧ k < 3
  · exact c_X2_subAt_s hO hw hs hk hh hc.1 hc.2.1 hc.2.2 hp
  · exact c_X2_subAt_n hO hw hs hk hh hc hp

set_option maxRecDepth 100000 in
theorem c_X2_indexAt {E : Ev} {M : Mem} {Post : Option Value → Mem → Prop} {o : Nat} {w : Int → Int} (hO : OffAt E M o w) (hw : WF w) {s h : Int} (hs : I32 s) (hh : I32 h) (hp : Post (some (iv (ixW w s h))) M) : Cn E rX2_indexAt mX2_indexAt [rr E o, iv s, iv h] M Post := by
  have lp : ∀ (r : Nat) (k : Int), (0 ≤ k) → (k ≤ w 1) → w 1 - k < (r : Int) → V E rX2_indexAt mX2_indexAt (finM E rX2_indexAt Post) 0 0 M 5 [some (rr E o), some (iv s), some (iv h), some (iv (mx1 (fun k => sbW w s k h) k.toNat)), some (iv k)] [] := by
    intro r
    induction r with
    | zero => intro k h_0 h_1 hz; exact absurd hz (by omega)
    | succ r ih =>
      intro k h_0 h_1 hz
      refine v_iload_4 dX2_indexAt_5 ?_
      refine v_aload_0 dX2_indexAt_7 ?_
      refine g_X2_34 rfl dX2_indexAt_8 hO.1 ?_
      have hn := hw.2.1
      have b1 := mx1_bd (f := fun k => sbW w s k h) (lo := 0) (show (-1 : Int) ≤ 500 by omega) k.toNat (fun i _ => (sb_bd hw s i h).2)
      have b2 := sb_bd hw s k h
      refine v_icmp_ge (tgt := 33) dX2_indexAt_11 rfl ⟨by omega, by omega⟩ ⟨by omega, by omega⟩ (fun c11 => ?_) (fun c11 => ?_)
      · refine v_iload_3 dX2_indexAt_33 ?_
        exact v_iret dX2_indexAt_34 rfl (Nat.le_refl _) (Nat.le_refl _) (by rw [show k = w 1 by omega]; exact hp)
      · refine v_iload_3 dX2_indexAt_14 ?_
        refine v_aload_0 dX2_indexAt_15 ?_
        refine v_iload_1 dX2_indexAt_16 ?_
        refine v_iload_4 dX2_indexAt_17 ?_
        refine v_iload_2 dX2_indexAt_19 ?_
        refine l_X2_92 rfl dX2_indexAt_20 hO.1 ⟨Nat.le_of_ble_eq_true rfl, Nat.le_of_ble_eq_true rfl⟩ (Nat.le_of_ble_eq_true rfl) ⟨Nat.le_refl _, Nat.le_refl _⟩ (c_X2_subAt hO hw hs ⟨by omega, by omega⟩ hh ?_)
        refine l_X2_75 rfl dX2_indexAt_23 ⟨by omega, by omega⟩ ⟨by omega, by omega⟩ (Nat.le_of_ble_eq_true rfl) (Nat.le_of_ble_eq_true rfl) ⟨Nat.le_refl _, Nat.le_refl _⟩ ?_
        refine v_istore_3 dX2_indexAt_26 (Nat.le_of_ble_eq_true rfl) rfl ?_
        refine v_iinc_4 dX2_indexAt_27 (Nat.le_of_ble_eq_true rfl) rfl ?_
        refine v_goto (tgt := 5) dX2_indexAt_30 rfl ?_
        exact v_weak [some (rr E o), some (iv s), some (iv h), some (iv (mx1 (fun k => sbW w s k h) (k + 1).toNat)), some (iv (k + 1))] ⟨rfl, rfl, rfl, by rw [mx1_st _ h_0], rfl, trivial⟩ (ih (k + 1) (by omega) (by omega) (by omega))
  refine Cn.of (L := [some (rr E o), some (iv s), some (iv h), none, none]) (by decide) (Nat.le_of_ble_eq_true rfl) rfl ?_
  refine v_iconst dX2_indexAt_0 ?_
  refine v_istore_3 dX2_indexAt_1 (Nat.le_of_ble_eq_true rfl) rfl ?_
  refine v_iconst dX2_indexAt_2 ?_
  refine v_istore_4 dX2_indexAt_3 (Nat.le_of_ble_eq_true rfl) rfl ?_
  exact v_weak [some (rr E o), some (iv s), some (iv h), some (iv (mx1 (fun k => sbW w s k h) (0 : Int).toNat)), some (iv 0)] ⟨rfl, rfl, rfl, rfl, rfl, trivial⟩ (lp (w 1 + 1).toNat 0 (by omega) (by have := hw.2.1; omega) (by have := hw.2.1; omega))

set_option maxRecDepth 100000 in
theorem c_X2_rulingAt {E : Ev} {M : Mem} {Post : Option Value → Mem → Prop} {o : Nat} {w : Int → Int} (hO : OffAt E M o w) (hw : WF w) {s h : Int} (hs : I32 s) (hh : I32 h) (hp : Post (some (iv (rlW w s h))) M) : Cn E rX2_rulingAt mX2_rulingAt [rr E o, iv s, iv h] M Post := by
  have lp : ∀ (r : Nat) (k : Int), (0 ≤ k) → (k ≤ w 1) → (rlW w s h = if ixW w s h = -1 then -1 else fnd (fun k => sbW w s k h) (ixW w s h) k (w 1 - k).toNat) → w 1 - k < (r : Int) → V E rX2_rulingAt mX2_rulingAt (finM E rX2_rulingAt Post) 0 0 M 10 [some (rr E o), some (iv s), some (iv h), some (iv (ixW w s h)), some (iv k)] [] := by
    intro r
    induction r with
    | zero => intro k h_0 h_1 h_2 hz; exact absurd hz (by omega)
    | succ r ih =>
      intro k h_0 h_1 h_2 hz
      refine v_iload_4 dX2_rulingAt_10 ?_
      refine v_aload_0 dX2_rulingAt_12 ?_
      refine g_X2_34 rfl dX2_rulingAt_13 hO.1 ?_
      have hn := hw.2.1
      have b1 := ix_bd hw s h
      have b2 := sb_bd hw s k h
      refine v_icmp_ge (tgt := 45) dX2_rulingAt_16 rfl ⟨by omega, by omega⟩ ⟨by omega, by omega⟩ (fun c16 => ?_) (fun c16 => ?_)
      · refine v_iconst dX2_rulingAt_45 ?_
        exact v_iret dX2_rulingAt_46 rfl (Nat.le_refl _) (Nat.le_refl _) (by rw [h_2, fnd_z _ _ (by omega)] at hp; split at hp <;> exact hp)
      · refine v_iload_3 dX2_rulingAt_19 ?_
        refine v_iconst dX2_rulingAt_20 ?_
        refine v_icmp_eq (tgt := 39) dX2_rulingAt_21 rfl ⟨by omega, by omega⟩ ⟨by omega, by omega⟩ (fun c21 => ?_) (fun c21 => ?_)
        · refine v_iinc_4 dX2_rulingAt_39 (Nat.le_of_ble_eq_true rfl) rfl ?_
          refine v_goto (tgt := 10) dX2_rulingAt_42 rfl ?_
          exact ih (k + 1) (by omega) (by omega) (by rw [h_2, if_pos c21, if_pos c21]) (by omega)
        · refine v_aload_0 dX2_rulingAt_24 ?_
          refine v_iload_1 dX2_rulingAt_25 ?_
          refine v_iload_4 dX2_rulingAt_26 ?_
          refine v_iload_2 dX2_rulingAt_28 ?_
          refine l_X2_92 rfl dX2_rulingAt_29 hO.1 ⟨Nat.le_of_ble_eq_true rfl, Nat.le_of_ble_eq_true rfl⟩ (Nat.le_of_ble_eq_true rfl) ⟨Nat.le_refl _, Nat.le_refl _⟩ (c_X2_subAt hO hw hs ⟨by omega, by omega⟩ hh ?_)
          refine v_iload_3 dX2_rulingAt_32 ?_
          refine v_icmp_ne (tgt := 39) dX2_rulingAt_33 rfl ⟨by omega, by omega⟩ ⟨by omega, by omega⟩ (fun c33 => ?_) (fun c33 => ?_)
          · refine v_iinc_4 dX2_rulingAt_39 (Nat.le_of_ble_eq_true rfl) rfl ?_
            refine v_goto (tgt := 10) dX2_rulingAt_42 rfl ?_
            exact ih (k + 1) (by omega) (by omega) (by rw [h_2, if_neg c21, if_neg c21, fnd_st _ _ (by omega), if_neg c33]) (by omega)
          · refine v_iload_4 dX2_rulingAt_36 ?_
            exact v_iret dX2_rulingAt_38 rfl (Nat.le_refl _) (Nat.le_refl _) (by rw [h_2, if_neg c21, fnd_st _ _ (by omega), if_pos c33] at hp; exact hp)
  refine Cn.of (L := [some (rr E o), some (iv s), some (iv h), none, none]) (by decide) (Nat.le_of_ble_eq_true rfl) rfl ?_
  refine v_aload_0 dX2_rulingAt_0 ?_
  refine v_iload_1 dX2_rulingAt_1 ?_
  refine v_iload_2 dX2_rulingAt_2 ?_
  refine l_X2_95 rfl dX2_rulingAt_3 hO.1 ⟨Nat.le_of_ble_eq_true rfl, Nat.le_of_ble_eq_true rfl⟩ (Nat.le_of_ble_eq_true rfl) ⟨Nat.le_refl _, Nat.le_refl _⟩ (c_X2_indexAt hO hw hs hh ?_)
  refine v_istore_3 dX2_rulingAt_6 (Nat.le_of_ble_eq_true rfl) rfl ?_
  refine v_iconst dX2_rulingAt_7 ?_
  refine v_istore_4 dX2_rulingAt_8 (Nat.le_of_ble_eq_true rfl) rfl ?_
  exact lp (w 1 + 1).toNat 0 (by omega) (by have := hw.2.1; omega) (by unfold rlW; rw [Int.sub_zero]) (by have := hw.2.1; omega)

set_option maxRecDepth 100000 in
theorem c_X2_worstStationAt {E : Ev} {M : Mem} {Post : Option Value → Mem → Prop} {o : Nat} {w : Int → Int} (hO : OffAt E M o w) (hw : WF w) {d h : Int} (hd : I32 d) (hh : I32 h) (hp : Post (some (iv (wsW w d h))) M) : Cn E rX2_worstStationAt mX2_worstStationAt [rr E o, iv d, iv h] M Post := by
  obtain ⟨f, hf, hf2⟩ := hO.2.2.2.1
  have lp : ∀ (r : Nat) (s : Int), (0 ≤ s) → (s ≤ w 2) → w 2 - s < (r : Int) → V E rX2_worstStationAt mX2_worstStationAt (finM E rX2_worstStationAt Post) 0 0 M 8 [some (rr E o), some (iv d), some (iv h), some (iv (bst (dsI w d h) 0 (s - 0).toNat).1), some (iv (bst (dsI w d h) 0 (s - 0).toNat).2), some (iv s), none] [] := by
    intro r
    induction r with
    | zero => intro s h_0 h_1 hz; exact absurd hz (by omega)
    | succ r ih =>
      intro s h_0 h_1 hz
      refine v_iload_5 dX2_worstStationAt_8 ?_
      refine v_aload_0 dX2_worstStationAt_10 ?_
      refine g_X2_37 rfl dX2_worstStationAt_11 hO.1 ?_
      have hn := hw.2.2.1
      have b1 := bst_bd (f := dsI w d h) (a := 0) (show (-1 : Int) ≤ 500 by omega) (s - 0).toNat (fun i _ => (ds_bd hw d h _).2)
      have b2 := ix_bd hw s h
      refine v_icmp_ge (tgt := 66) dX2_worstStationAt_14 rfl ⟨by omega, by omega⟩ ⟨by omega, by omega⟩ (fun c14 => ?_) (fun c14 => ?_)
      · refine v_iload_4 dX2_worstStationAt_66 ?_
        exact v_iret dX2_worstStationAt_68 rfl (Nat.le_refl _) (Nat.le_refl _) (by rw [show s = w 2 by omega, Int.sub_zero]; exact hp)
      · refine v_iload_5 dX2_worstStationAt_17 ?_
        refine v_iconst dX2_worstStationAt_19 ?_
        refine v_icmp_ge (tgt := 66) dX2_worstStationAt_20 rfl ⟨by omega, by omega⟩ ⟨by omega, by omega⟩ (fun c20 => absurd c20 (by omega)) (fun c20 => ?_)
        refine v_aload_0 dX2_worstStationAt_23 ?_
        refine g_X2_21 rfl dX2_worstStationAt_24 hO.1 ?_
        refine v_iload_5 dX2_worstStationAt_27 ?_
        refine v_iaload dX2_worstStationAt_29 hf (by omega) (by omega) (by decide) ?_
        rw [hf2 _ (by omega) (by omega) (by omega)]
        have b3 := hw.2.2.2.2.2.2.2.2.1 s (by omega) (by omega)
        refine v_iload_1 dX2_worstStationAt_30 ?_
        refine v_icmp_ne (tgt := 44) dX2_worstStationAt_31 rfl ⟨by omega, by omega⟩ hd (fun c31 => ?_) (fun c31 => ?_)
        · have e9 : dsI w d h s = -1 := if_neg c31
          refine v_iconst dX2_worstStationAt_44 ?_
          refine v_istore_6 dX2_worstStationAt_45 (Nat.le_of_ble_eq_true rfl) rfl ?_
          refine v_iload_6 dX2_worstStationAt_47 ?_
          refine v_iload_3 dX2_worstStationAt_49 ?_
          refine v_icmp_le (tgt := 60) dX2_worstStationAt_50 rfl ⟨by omega, by omega⟩ ⟨by omega, by omega⟩ (fun c50 => ?_) (fun c50 => ?_)
          · refine v_iinc_5 dX2_worstStationAt_60 (Nat.le_of_ble_eq_true rfl) rfl ?_
            refine v_goto (tgt := 8) dX2_worstStationAt_63 rfl ?_
            exact v_weak [some (rr E o), some (iv d), some (iv h), some (iv (bst (dsI w d h) 0 ((s + 1) - 0).toNat).1), some (iv (bst (dsI w d h) 0 ((s + 1) - 0).toNat).2), some (iv (s + 1)), none] ⟨rfl, rfl, rfl, by rw [bst_st _ h_0, e9, if_neg (by omega)], by rw [bst_st _ h_0, e9, if_neg (by omega)], rfl, trivial⟩ (ih (s + 1) (by omega) (by omega) (by omega))
          · refine v_iload_6 dX2_worstStationAt_53 ?_
            refine v_istore_3 dX2_worstStationAt_55 (Nat.le_of_ble_eq_true rfl) rfl ?_
            refine v_iload_5 dX2_worstStationAt_56 ?_
            refine v_istore_4 dX2_worstStationAt_58 (Nat.le_of_ble_eq_true rfl) rfl ?_
            refine v_iinc_5 dX2_worstStationAt_60 (Nat.le_of_ble_eq_true rfl) rfl ?_
            refine v_goto (tgt := 8) dX2_worstStationAt_63 rfl ?_
            exact v_weak [some (rr E o), some (iv d), some (iv h), some (iv (bst (dsI w d h) 0 ((s + 1) - 0).toNat).1), some (iv (bst (dsI w d h) 0 ((s + 1) - 0).toNat).2), some (iv (s + 1)), none] ⟨rfl, rfl, rfl, by rw [bst_st _ h_0, e9, if_pos (by omega)], by rw [bst_st _ h_0, e9, if_pos (by omega)], rfl, trivial⟩ (ih (s + 1) (by omega) (by omega) (by omega))
        · have e9 : dsI w d h s = ixW w s h := if_pos c31
          refine v_aload_0 dX2_worstStationAt_34 ?_
          refine v_iload_5 dX2_worstStationAt_35 ?_
          refine v_iload_2 dX2_worstStationAt_37 ?_
          refine l_X2_95 rfl dX2_worstStationAt_38 hO.1 ⟨Nat.le_of_ble_eq_true rfl, Nat.le_of_ble_eq_true rfl⟩ (Nat.le_of_ble_eq_true rfl) ⟨Nat.le_refl _, Nat.le_refl _⟩ (c_X2_indexAt hO hw ⟨by omega, by omega⟩ hh ?_)
          refine v_goto (tgt := 45) dX2_worstStationAt_41 rfl ?_
          refine v_istore_6 dX2_worstStationAt_45 (Nat.le_of_ble_eq_true rfl) rfl ?_
          refine v_iload_6 dX2_worstStationAt_47 ?_
          refine v_iload_3 dX2_worstStationAt_49 ?_
          refine v_icmp_le (tgt := 60) dX2_worstStationAt_50 rfl ⟨by omega, by omega⟩ ⟨by omega, by omega⟩ (fun c50 => ?_) (fun c50 => ?_)
          · refine v_iinc_5 dX2_worstStationAt_60 (Nat.le_of_ble_eq_true rfl) rfl ?_
            refine v_goto (tgt := 8) dX2_worstStationAt_63 rfl ?_
            exact v_weak [some (rr E o), some (iv d), some (iv h), some (iv (bst (dsI w d h) 0 ((s + 1) - 0).toNat).1), some (iv (bst (dsI w d h) 0 ((s + 1) - 0).toNat).2), some (iv (s + 1)), none] ⟨rfl, rfl, rfl, by rw [bst_st _ h_0, e9, if_neg (by omega)], by rw [bst_st _ h_0, e9, if_neg (by omega)], rfl, trivial⟩ (ih (s + 1) (by omega) (by omega) (by omega))
          · refine v_iload_6 dX2_worstStationAt_53 ?_
            refine v_istore_3 dX2_worstStationAt_55 (Nat.le_of_ble_eq_true rfl) rfl ?_
            refine v_iload_5 dX2_worstStationAt_56 ?_
            refine v_istore_4 dX2_worstStationAt_58 (Nat.le_of_ble_eq_true rfl) rfl ?_
            refine v_iinc_5 dX2_worstStationAt_60 (Nat.le_of_ble_eq_true rfl) rfl ?_
            refine v_goto (tgt := 8) dX2_worstStationAt_63 rfl ?_
            exact v_weak [some (rr E o), some (iv d), some (iv h), some (iv (bst (dsI w d h) 0 ((s + 1) - 0).toNat).1), some (iv (bst (dsI w d h) 0 ((s + 1) - 0).toNat).2), some (iv (s + 1)), none] ⟨rfl, rfl, rfl, by rw [bst_st _ h_0, e9, if_pos (by omega)], by rw [bst_st _ h_0, e9, if_pos (by omega)], rfl, trivial⟩ (ih (s + 1) (by omega) (by omega) (by omega))
  refine Cn.of (L := [some (rr E o), some (iv d), some (iv h), none, none, none, none]) (by decide) (Nat.le_of_ble_eq_true rfl) rfl ?_
  refine v_iconst dX2_worstStationAt_0 ?_
  refine v_istore_3 dX2_worstStationAt_1 (Nat.le_of_ble_eq_true rfl) rfl ?_
  refine v_iconst dX2_worstStationAt_2 ?_
  refine v_istore_4 dX2_worstStationAt_3 (Nat.le_of_ble_eq_true rfl) rfl ?_
  refine v_iconst dX2_worstStationAt_5 ?_
  refine v_istore_5 dX2_worstStationAt_6 (Nat.le_of_ble_eq_true rfl) rfl ?_
  exact v_weak [some (rr E o), some (iv d), some (iv h), some (iv (bst (dsI w d h) 0 ((0 : Int) - 0).toNat).1), some (iv (bst (dsI w d h) 0 ((0 : Int) - 0).toNat).2), some (iv (0 : Int)), none] ⟨rfl, rfl, rfl, rfl, rfl, rfl, trivial⟩ (lp (w 2 + 1).toNat 0 (by omega) (by have := hw.2.2.1; omega) (by have := hw.2.2.1; omega))

set_option maxRecDepth 100000 in
theorem c_X2_countIndexed {E : Ev} {M : Mem} {Post : Option Value → Mem → Prop} {o : Nat} {w : Int → Int} (hO : OffAt E M o w) (hw : WF w) {d h : Int} (hd : I32 d) (hh : I32 h) (hp : Post (some (iv (cnW w d h))) M) : Cn E rX2_countIndexed mX2_countIndexed [rr E o, iv d, iv h] M Post := by
  obtain ⟨f, hf, hf2⟩ := hO.2.2.2.1
  have lp : ∀ (r : Nat) (s : Int), (0 ≤ s) → (s ≤ w 2) → w 2 - s < (r : Int) → V E rX2_countIndexed mX2_countIndexed (finM E rX2_countIndexed Post) 0 0 M 5 [some (rr E o), some (iv d), some (iv h), some (iv (sm (fun s => if dsI w d h s = -1 then 0 else 1) 0 (s - 0).toNat)), some (iv s)] [] := by
    intro r
    induction r with
    | zero => intro s h_0 h_1 hz; exact absurd hz (by omega)
    | succ r ih =>
      intro s h_0 h_1 hz
      refine v_iload_4 dX2_countIndexed_5 ?_
      refine v_aload_0 dX2_countIndexed_7 ?_
      refine g_X2_37 rfl dX2_countIndexed_8 hO.1 ?_
      have hn := hw.2.2.1
      have b2 := ix_bd hw s h
      refine v_icmp_ge (tgt := 51) dX2_countIndexed_11 rfl ⟨by omega, by omega⟩ ⟨by omega, by omega⟩ (fun c11 => ?_) (fun c11 => ?_)
      · refine v_iload_3 dX2_countIndexed_51 ?_
        exact v_iret dX2_countIndexed_52 rfl (Nat.le_refl _) (Nat.le_refl _) (by rw [show s = w 2 by omega, Int.sub_zero]; exact hp)
      · refine v_iload_4 dX2_countIndexed_14 ?_
        refine v_iconst dX2_countIndexed_16 ?_
        refine v_icmp_ge (tgt := 51) dX2_countIndexed_17 rfl ⟨by omega, by omega⟩ ⟨by omega, by omega⟩ (fun c17 => absurd c17 (by omega)) (fun c17 => ?_)
        refine v_aload_0 dX2_countIndexed_20 ?_
        refine g_X2_21 rfl dX2_countIndexed_21 hO.1 ?_
        refine v_iload_4 dX2_countIndexed_24 ?_
        refine v_iaload dX2_countIndexed_26 hf (by omega) (by omega) (by decide) ?_
        rw [hf2 _ (by omega) (by omega) (by omega)]
        have b3 := hw.2.2.2.2.2.2.2.2.1 s (by omega) (by omega)
        refine v_iload_1 dX2_countIndexed_27 ?_
        refine v_icmp_ne (tgt := 45) dX2_countIndexed_28 rfl ⟨by omega, by omega⟩ hd (fun c28 => ?_) (fun c28 => ?_)
        · have e9 : dsI w d h s = -1 := if_neg c28
          refine v_iinc_4 dX2_countIndexed_45 (Nat.le_of_ble_eq_true rfl) rfl ?_
          refine v_goto (tgt := 5) dX2_countIndexed_48 rfl ?_
          exact v_weak [some (rr E o), some (iv d), some (iv h), some (iv (sm (fun s => if dsI w d h s = -1 then 0 else 1) 0 ((s + 1) - 0).toNat)), some (iv (s + 1))] ⟨rfl, rfl, rfl, by rw [sm_st _ h_0]; rw [if_pos e9, Int.add_zero], rfl, trivial⟩ (ih (s + 1) (by omega) (by omega) (by omega))
        · have e9 : dsI w d h s = ixW w s h := if_pos c28
          refine v_aload_0 dX2_countIndexed_31 ?_
          refine v_iload_4 dX2_countIndexed_32 ?_
          refine v_iload_2 dX2_countIndexed_34 ?_
          refine l_X2_95 rfl dX2_countIndexed_35 hO.1 ⟨Nat.le_of_ble_eq_true rfl, Nat.le_of_ble_eq_true rfl⟩ (Nat.le_of_ble_eq_true rfl) ⟨Nat.le_refl _, Nat.le_refl _⟩ (c_X2_indexAt hO hw ⟨by omega, by omega⟩ hh ?_)
          refine v_iconst dX2_countIndexed_38 ?_
          refine v_icmp_eq (tgt := 45) dX2_countIndexed_39 rfl ⟨by omega, by omega⟩ ⟨by omega, by omega⟩ (fun c39 => ?_) (fun c39 => ?_)
          · refine v_iinc_4 dX2_countIndexed_45 (Nat.le_of_ble_eq_true rfl) rfl ?_
            refine v_goto (tgt := 5) dX2_countIndexed_48 rfl ?_
            exact v_weak [some (rr E o), some (iv d), some (iv h), some (iv (sm (fun s => if dsI w d h s = -1 then 0 else 1) 0 ((s + 1) - 0).toNat)), some (iv (s + 1))] ⟨rfl, rfl, rfl, by rw [sm_st _ h_0]; rw [if_pos (e9.trans c39), Int.add_zero], rfl, trivial⟩ (ih (s + 1) (by omega) (by omega) (by omega))
          · refine v_iinc_3 dX2_countIndexed_42 (Nat.le_of_ble_eq_true rfl) rfl ?_
            refine v_iinc_4 dX2_countIndexed_45 (Nat.le_of_ble_eq_true rfl) rfl ?_
            refine v_goto (tgt := 5) dX2_countIndexed_48 rfl ?_
            exact v_weak [some (rr E o), some (iv d), some (iv h), some (iv (sm (fun s => if dsI w d h s = -1 then 0 else 1) 0 ((s + 1) - 0).toNat)), some (iv (s + 1))] ⟨rfl, rfl, rfl, by rw [sm_st _ h_0]; rw [if_neg (by rw [e9]; exact c39)], rfl, trivial⟩ (ih (s + 1) (by omega) (by omega) (by omega))
  refine Cn.of (L := [some (rr E o), some (iv d), some (iv h), none, none]) (by decide) (Nat.le_of_ble_eq_true rfl) rfl ?_
  refine v_iconst dX2_countIndexed_0 ?_
  refine v_istore_3 dX2_countIndexed_1 (Nat.le_of_ble_eq_true rfl) rfl ?_
  refine v_iconst dX2_countIndexed_2 ?_
  refine v_istore_4 dX2_countIndexed_3 (Nat.le_of_ble_eq_true rfl) rfl ?_
  exact v_weak [some (rr E o), some (iv d), some (iv h), some (iv (sm (fun s => if dsI w d h s = -1 then 0 else 1) 0 ((0 : Int) - 0).toNat)), some (iv (0 : Int))] ⟨rfl, rfl, rfl, rfl, rfl, trivial⟩ (lp (w 2 + 1).toNat 0 (by omega) (by have := hw.2.2.1; omega) (by have := hw.2.2.1; omega))

set_option maxRecDepth 100000 in
theorem c_X2_bandStart {E : Ev} {M : Mem} {Post : Option Value → Mem → Prop} {o : Nat} {w : Int → Int} (hO : OffAt E M o w) {k : Int} (hk : I32 k) (hp : Post (some (iv (if 0 ≤ k ∧ k < 3 then w (4 + k) else -1))) M) : Cn E rX2_bandStart mX2_bandStart [rr E o, iv k] M Post := by
  obtain ⟨f, hf, hf2⟩ := hO.2.1
  refine Cn.of (L := [some (rr E o), some (iv k)]) (by decide) (Nat.le_of_ble_eq_true rfl) rfl ?_
  refine v_iload_1 dX2_bandStart_0 ?_
  refine v_if_lt (tgt := 18) dX2_bandStart_1 rfl hk (fun c1 => ?_) (fun c1 => ?_)
  · refine v_iconst dX2_bandStart_18 ?_
    exact v_iret dX2_bandStart_19 rfl (Nat.le_refl _) (Nat.le_refl _) (by first | (rw [if_pos (by omega)] at hp; exact hp) | (rw [if_neg (by omega)] at hp; exact hp))
  · refine v_iload_1 dX2_bandStart_4 ?_
    refine v_iconst dX2_bandStart_5 ?_
    refine v_icmp_ge (tgt := 18) dX2_bandStart_6 rfl hk ⟨by omega, by omega⟩ (fun c6 => ?_) (fun c6 => ?_)
    · refine v_iconst dX2_bandStart_18 ?_
      exact v_iret dX2_bandStart_19 rfl (Nat.le_refl _) (Nat.le_refl _) (by first | (rw [if_pos (by omega)] at hp; exact hp) | (rw [if_neg (by omega)] at hp; exact hp))
    · refine v_aload_0 dX2_bandStart_9 ?_
      refine g_X2_9 rfl dX2_bandStart_10 hO.1 ?_
      refine v_iload_1 dX2_bandStart_13 ?_
      refine v_iaload dX2_bandStart_14 hf (by omega) (by omega) (by decide) ?_
      rw [hf2 _ (by omega) (by omega)]
      refine v_goto (tgt := 19) dX2_bandStart_15 rfl ?_
      exact v_iret dX2_bandStart_19 rfl (Nat.le_refl _) (Nat.le_refl _) (by first | (rw [if_pos (by omega)] at hp; exact hp) | (rw [if_neg (by omega)] at hp; exact hp))

set_option maxRecDepth 100000 in
theorem c_X2_bandOf {E : Ev} {M : Mem} {Post : Option Value → Mem → Prop} {o : Nat} {w : Int → Int} (hO : OffAt E M o w) (hw : WF w) {index : Int} (hi : I32 index) (hp : Post (some (iv (bdW w index))) M) : Cn E rX2_bandOf mX2_bandOf [rr E o, iv index] M Post := by
  obtain ⟨f, hf, hf2⟩ := hO.2.1
  have lp : ∀ (r : Nat) (k : Int), (0 ≤ k) → (k ≤ 3) → (¬ index = -1) → 3 - k < (r : Int) → V E rX2_bandOf mX2_bandOf (finM E rX2_bandOf Post) 0 0 M 11 [some (rr E o), some (iv index), some (iv (sm (fun k => if w (4 + k) ≤ index then 1 else 0) 0 (k - 0).toNat)), some (iv k)] [] := by
    intro r
    induction r with
    | zero => intro k h_0 h_1 h_2 hz; exact absurd hz (by omega)
    | succ r ih =>
      intro k h_0 h_1 h_2 hz
      refine v_iload_3 dX2_bandOf_11 ?_
      refine v_iconst dX2_bandOf_12 ?_
      refine v_icmp_ge (tgt := 35) dX2_bandOf_13 rfl ⟨by omega, by omega⟩ ⟨by omega, by omega⟩ (fun c13 => ?_) (fun c13 => ?_)
      · refine v_iload_2 dX2_bandOf_35 ?_
        exact v_iret dX2_bandOf_36 rfl (Nat.le_refl _) (Nat.le_refl _) (by have e : bdW w index = sm (fun k => if w (4 + k) ≤ index then 1 else 0) 0 3 := if_neg h_2; rw [e] at hp; rw [show k = 3 by omega]; exact hp)
      · refine v_aload_0 dX2_bandOf_16 ?_
        refine g_X2_9 rfl dX2_bandOf_17 hO.1 ?_
        refine v_iload_3 dX2_bandOf_20 ?_
        refine v_iaload dX2_bandOf_21 hf (by omega) (by omega) (by decide) ?_
        rw [hf2 _ (by omega) (by omega)]
        have b3 : -2147483648 ≤ w (4 + k) ∧ w (4 + k) < 2147483648 := by
          have := hw.2.2.2.2.1
          rcases (show k = 0 ∨ k = 1 ∨ k = 2 by omega) with rfl | rfl | rfl
          · exact ⟨by show _ ≤ w 4; omega, by show w 4 < _; omega⟩
          · exact ⟨by show _ ≤ w 5; omega, by show w 5 < _; omega⟩
          · exact ⟨by show _ ≤ w 6; omega, by show w 6 < _; omega⟩
        refine v_iload_1 dX2_bandOf_22 ?_
        refine v_icmp_gt (tgt := 29) dX2_bandOf_23 rfl b3 hi (fun c23 => ?_) (fun c23 => ?_)
        · refine v_iinc_3 dX2_bandOf_29 (Nat.le_of_ble_eq_true rfl) rfl ?_
          refine v_goto (tgt := 11) dX2_bandOf_32 rfl ?_
          exact v_weak [some (rr E o), some (iv index), some (iv (sm (fun k => if w (4 + k) ≤ index then 1 else 0) 0 ((k + 1) - 0).toNat)), some (iv (k + 1))] ⟨rfl, rfl, by rw [sm_st _ h_0]; rw [if_neg (by omega), Int.add_zero], rfl, trivial⟩ (ih (k + 1) (by omega) (by omega) h_2 (by omega))
        · refine v_iinc_2 dX2_bandOf_26 (Nat.le_of_ble_eq_true rfl) rfl ?_
          refine v_iinc_3 dX2_bandOf_29 (Nat.le_of_ble_eq_true rfl) rfl ?_
          refine v_goto (tgt := 11) dX2_bandOf_32 rfl ?_
          exact v_weak [some (rr E o), some (iv index), some (iv (sm (fun k => if w (4 + k) ≤ index then 1 else 0) 0 ((k + 1) - 0).toNat)), some (iv (k + 1))] ⟨rfl, rfl, by rw [sm_st _ h_0]; rw [if_pos (by omega)], rfl, trivial⟩ (ih (k + 1) (by omega) (by omega) h_2 (by omega))
  refine Cn.of (L := [some (rr E o), some (iv index), none, none]) (by decide) (Nat.le_of_ble_eq_true rfl) rfl ?_
  refine v_iload_1 dX2_bandOf_0 ?_
  refine v_iconst dX2_bandOf_1 ?_
  refine v_icmp_ne (tgt := 7) dX2_bandOf_2 rfl hi ⟨by omega, by omega⟩ (fun c2 => ?_) (fun c2 => ?_)
  · refine v_iconst dX2_bandOf_7 ?_
    refine v_istore_2 dX2_bandOf_8 (Nat.le_of_ble_eq_true rfl) rfl ?_
    refine v_iconst dX2_bandOf_9 ?_
    refine v_istore_3 dX2_bandOf_10 (Nat.le_of_ble_eq_true rfl) rfl ?_
    exact v_weak [some (rr E o), some (iv index), some (iv (sm (fun k => if w (4 + k) ≤ index then 1 else 0) 0 ((0 : Int) - 0).toNat)), some (iv (0 : Int))] ⟨rfl, rfl, rfl, rfl, trivial⟩ (lp 4 0 (by omega) (by omega) c2 (by omega))
  · refine v_iconst dX2_bandOf_5 ?_
    exact v_iret dX2_bandOf_6 rfl (Nat.le_refl _) (Nat.le_refl _) (by have e : bdW w index = -1 := if_pos c2; rw [e] at hp; exact hp)
end
section
set_option maxRecDepth 100000 in
theorem lp_X2_countReads {E : Ev} {M : Mem} {Post : Option Value → Mem → Prop} {o : Nat} {w : Int → Int} (hO : OffAt E M o w) (hw : WF w) {q : Int} (q0 : 0 ≤ q) (q1 : q < 12) (kx : ∀ h, h = w 0 → V E rX2_countReads mX2_countReads (finM E rX2_countReads Post) 0 0 M 47 [some (rr E o), some (iv (sm (fun r => sm (fun h => if w (50 + 60 * r + h) = 0 then 0 else 1) 0 (w 0).toNat) 0 (q - 0).toNat + sm (fun h => if w (50 + 60 * q + h) = 0 then 0 else 1) 0 (h - 0).toNat)), some (iv q), some (iv h)] []) : V E rX2_countReads mX2_countReads (finM E rX2_countReads Post) 0 0 M 12 [some (rr E o), some (iv (sm (fun r => sm (fun h => if w (50 + 60 * r + h) = 0 then 0 else 1) 0 (w 0).toNat) 0 (q - 0).toNat + sm (fun h => if w (50 + 60 * q + h) = 0 then 0 else 1) 0 ((0 : Int) - 0).toNat)), some (iv q), some (iv (0 : Int))] [] := by
  obtain ⟨g, hg, hg2⟩ := hO.2.2.2.2.1
  have hn := hw.1
  have li : ∀ (r : Nat) (h : Int), (0 ≤ h) → (h ≤ w 0) → w 0 - h < (r : Int) → V E rX2_countReads mX2_countReads (finM E rX2_countReads Post) 0 0 M 12 [some (rr E o), some (iv (sm (fun r => sm (fun h => if w (50 + 60 * r + h) = 0 then 0 else 1) 0 (w 0).toNat) 0 (q - 0).toNat + sm (fun h => if w (50 + 60 * q + h) = 0 then 0 else 1) 0 (h - 0).toNat)), some (iv q), some (iv h)] [] := by
    intro r
    induction r with
    | zero => intro h h_0 h_1 hz; exact absurd hz (by omega)
    | succ r ih =>
      intro h h_0 h_1 hz
      refine v_iload_3 dX2_countReads_12 ?_
      refine v_aload_0 dX2_countReads_13 ?_
      refine g_X2_40 rfl dX2_countReads_14 hO.1 ?_
      refine v_icmp_ge (tgt := 47) dX2_countReads_17 rfl ⟨by omega, by omega⟩ ⟨by omega, by omega⟩ (fun c17 => ?_) (fun c17 => ?_)
      · exact kx h (by omega)
      · refine v_iload_3 dX2_countReads_20 ?_
        refine v_bipush dX2_countReads_21 (by decide) ?_
        refine v_icmp_ge (tgt := 47) dX2_countReads_23 rfl ⟨by omega, by omega⟩ ⟨by omega, by omega⟩ (fun c23 => absurd c23 (by omega)) (fun c23 => ?_)
        refine v_aload_0 dX2_countReads_26 ?_
        refine g_X2_26 rfl dX2_countReads_27 hO.1 ?_
        refine v_iload_2 dX2_countReads_30 ?_
        refine v_aaload (ty := .array .int) dX2_countReads_31 hg rfl rfl (by omega) (by omega) (by decide) ?_
        rw [hg2 _ (by omega) (by omega)]
        obtain ⟨f, hf, hf2⟩ := hO.row (r := q) (by omega) (by omega)
        refine v_iload_3 dX2_countReads_32 ?_
        refine v_iaload dX2_countReads_33 hf (by omega) (by omega) (by decide) ?_
        rw [hf2 _ (by omega) (by omega)]
        have b3 := hw.2.2.2.2.2.2.2.2.2.1 q h (by omega) (by omega) (by omega) (by omega)
        refine v_iconst dX2_countReads_34 ?_
        refine v_icmp_eq (tgt := 41) dX2_countReads_35 rfl ⟨by omega, by omega⟩ ⟨by omega, by omega⟩ (fun c35 => ?_) (fun c35 => ?_)
        · refine v_iinc_3 dX2_countReads_41 (Nat.le_of_ble_eq_true rfl) rfl ?_
          refine v_goto (tgt := 12) dX2_countReads_44 rfl ?_
          exact v_weak [some (rr E o), some (iv (sm (fun r => sm (fun h => if w (50 + 60 * r + h) = 0 then 0 else 1) 0 (w 0).toNat) 0 (q - 0).toNat + sm (fun h => if w (50 + 60 * q + h) = 0 then 0 else 1) 0 ((h + 1) - 0).toNat)), some (iv q), some (iv (h + 1))] ⟨rfl, by rw [sm_st _ h_0]; rw [if_pos (by omega), Int.add_zero], rfl, rfl, trivial⟩ (ih (h + 1) (by omega) (by omega) (by omega))
        · refine v_iinc_1 dX2_countReads_38 (Nat.le_of_ble_eq_true rfl) rfl ?_
          refine v_iinc_3 dX2_countReads_41 (Nat.le_of_ble_eq_true rfl) rfl ?_
          refine v_goto (tgt := 12) dX2_countReads_44 rfl ?_
          exact v_weak [some (rr E o), some (iv (sm (fun r => sm (fun h => if w (50 + 60 * r + h) = 0 then 0 else 1) 0 (w 0).toNat) 0 (q - 0).toNat + sm (fun h => if w (50 + 60 * q + h) = 0 then 0 else 1) 0 ((h + 1) - 0).toNat)), some (iv q), some (iv (h + 1))] ⟨rfl, by rw [sm_st _ h_0]; rw [if_neg (by omega), Int.add_assoc], rfl, rfl, trivial⟩ (ih (h + 1) (by omega) (by omega) (by omega))
  exact li (w 0 + 1).toNat 0 (by omega) (by omega) (by omega)

set_option maxRecDepth 100000 in
theorem c_X2_countReads {E : Ev} {M : Mem} {Post : Option Value → Mem → Prop} {o : Nat} {w : Int → Int} (hO : OffAt E M o w) (hw : WF w) (hp : Post (some (iv (crW w))) M) : Cn E rX2_countReads mX2_countReads [rr E o] M Post := by
  have lp : ∀ (r : Nat) (q : Int), (0 ≤ q) → (q ≤ 12) → 12 - q < (r : Int) → V E rX2_countReads mX2_countReads (finM E rX2_countReads Post) 0 0 M 4 [some (rr E o), some (iv (sm (fun r => sm (fun h => if w (50 + 60 * r + h) = 0 then 0 else 1) 0 (w 0).toNat) 0 (q - 0).toNat)), some (iv q), none] [] := by
    intro r
    induction r with
    | zero => intro q h_0 h_1 hz; exact absurd hz (by omega)
    | succ r ih =>
      intro q h_0 h_1 hz
      refine v_iload_2 dX2_countReads_4 ?_
      refine v_bipush dX2_countReads_5 (by decide) ?_
      refine v_icmp_ge (tgt := 53) dX2_countReads_7 rfl ⟨by omega, by omega⟩ ⟨by omega, by omega⟩ (fun c7 => ?_) (fun c7 => ?_)
      · refine v_iload_1 dX2_countReads_53 ?_
        exact v_iret dX2_countReads_54 rfl (Nat.le_refl _) (Nat.le_refl _) (by rw [show q = 12 by omega]; exact hp)
      · refine v_iconst dX2_countReads_10 ?_
        refine v_istore_3 dX2_countReads_11 (Nat.le_of_ble_eq_true rfl) rfl ?_
        refine v_weak [some (rr E o), some (iv (sm (fun r => sm (fun h => if w (50 + 60 * r + h) = 0 then 0 else 1) 0 (w 0).toNat) 0 (q - 0).toNat + sm (fun h => if w (50 + 60 * q + h) = 0 then 0 else 1) 0 ((0 : Int) - 0).toNat)), some (iv q), some (iv (0 : Int))] ⟨rfl, by rw [sm_z, Int.add_zero], rfl, rfl, trivial⟩ (lp_X2_countReads hO hw h_0 (by omega) (fun h hh => ?_))
        rw [hh]
        refine v_iinc_2 dX2_countReads_47 (Nat.le_of_ble_eq_true rfl) rfl ?_
        refine v_goto (tgt := 4) dX2_countReads_50 rfl ?_
        exact v_weak [some (rr E o), some (iv (sm (fun r => sm (fun h => if w (50 + 60 * r + h) = 0 then 0 else 1) 0 (w 0).toNat) 0 ((q + 1) - 0).toNat)), some (iv (q + 1)), none] ⟨rfl, by rw [sm_st _ h_0, Int.sub_zero (w 0)], rfl, trivial⟩ (ih (q + 1) (by omega) (by omega) (by omega))
  refine Cn.of (L := [some (rr E o), none, none, none]) (by decide) (Nat.le_of_ble_eq_true rfl) rfl ?_
  refine v_iconst dX2_countReads_0 ?_
  refine v_istore_1 dX2_countReads_1 (Nat.le_of_ble_eq_true rfl) rfl ?_
  refine v_iconst dX2_countReads_2 ?_
  refine v_istore_2 dX2_countReads_3 (Nat.le_of_ble_eq_true rfl) rfl ?_
  exact v_weak [some (rr E o), some (iv (sm (fun r => sm (fun h => if w (50 + 60 * r + h) = 0 then 0 else 1) 0 (w 0).toNat) 0 ((0 : Int) - 0).toNat)), some (iv (0 : Int)), none] ⟨rfl, rfl, rfl, trivial⟩ (lp 13 0 (by omega) (by omega) (by omega))

set_option maxRecDepth 100000 in
theorem lp_X2_forecastBehind {E : Ev} {M : Mem} {Post : Option Value → Mem → Prop} {o : Nat} {w : Int → Int} (hO : OffAt E M o w) (hw : WF w) {s k h : Int} (hs : I32 s) (hk : I32 k) (hh : I32 h) (h60 : h < 60) (h0 : 0 ≤ h) {p : UInt32} (hsp : dc p = dc (shF w)) (hp : Post (some (iv (fcO (fcF w s k (h + 1).toNat)))) M) : V E rX2_forecastBehind mX2_forecastBehind (finM E rX2_forecastBehind Post) 0 0 M 31 [some (rr E o), some (iv s), some (iv k), some (iv h), some (fv p), some (fv FP.fconst0), some (iv 0), some (iv 0), none] [] := by
  have lp : ∀ (r : Nat) (x : Int) (F : UInt32) (b : Int), (0 ≤ x) → (x ≤ h + 1) → (fcI (fcF w s k x.toNat) F b) → h + 1 - x < (r : Int) → V E rX2_forecastBehind mX2_forecastBehind (finM E rX2_forecastBehind Post) 0 0 M 31 [some (rr E o), some (iv s), some (iv k), some (iv h), some (fv p), some (fv F), some (iv b), some (iv x), none] [] := by
    intro r
    induction r with
    | zero => intro x F b h_0 h_1 h_2 hz; exact absurd hz (by omega)
    | succ r ih =>
      intro x F b h_0 h_1 h_2 hz
      refine v_iload_7 dX2_forecastBehind_31 ?_
      refine v_iload_3 dX2_forecastBehind_33 ?_
      have b1 := rd_bd hw s k x
      have b2 := fcI_b h_2
      refine v_icmp_gt (tgt := 92) dX2_forecastBehind_34 rfl ⟨by omega, by omega⟩ ⟨by omega, by omega⟩ (fun c34 => ?_) (fun c34 => ?_)
      · refine v_iload_6 dX2_forecastBehind_92 ?_
        refine v_if_eq (tgt := 103) dX2_forecastBehind_94 rfl ⟨by have := fcI_b h_2; omega, by have := fcI_b h_2; omega⟩ (fun c94 => ?_) (fun c94 => ?_)
        · refine v_iconst dX2_forecastBehind_103 ?_
          exact v_iret dX2_forecastBehind_104 rfl (Nat.le_refl _) (Nat.le_refl _) (by rw [fcI_none h_2 c94, show x = h + 1 by omega]; exact hp)
        · refine v_fload_5 dX2_forecastBehind_97 ?_
          refine v_f2i dX2_forecastBehind_99 ?_
          refine v_goto (tgt := 104) dX2_forecastBehind_100 rfl ?_
          exact v_iret dX2_forecastBehind_104 rfl (Nat.le_refl _) (Nat.le_refl _) (by rw [fcI_end h_2 c94, show x = h + 1 by omega]; exact hp)
      · refine v_aload_0 dX2_forecastBehind_37 ?_
        refine v_iload_1 dX2_forecastBehind_38 ?_
        refine v_iload_2 dX2_forecastBehind_39 ?_
        refine v_iload_7 dX2_forecastBehind_40 ?_
        refine l_X2_81 rfl dX2_forecastBehind_42 hO.1 ⟨Nat.le_of_ble_eq_true rfl, Nat.le_of_ble_eq_true rfl⟩ (Nat.le_of_ble_eq_true rfl) ⟨Nat.le_refl _, Nat.le_refl _⟩ (c_X2_readAt hO hw.hr hs hk ⟨by omega, by omega⟩ ?_)
        refine v_istore_8 dX2_forecastBehind_45 (Nat.le_of_ble_eq_true rfl) rfl ?_
        refine v_iload_8 dX2_forecastBehind_47 ?_
        refine v_iconst dX2_forecastBehind_49 ?_
        refine v_icmp_ne (tgt := 56) dX2_forecastBehind_50 rfl ⟨by omega, by omega⟩ ⟨by omega, by omega⟩ (fun c50 => ?_) (fun c50 => ?_)
        · refine v_iload_6 dX2_forecastBehind_56 ?_
          refine v_if_eq (tgt := 78) dX2_forecastBehind_58 rfl ⟨by omega, by omega⟩ (fun c58 => ?_) (fun c58 => ?_)
          · refine v_iload_8 dX2_forecastBehind_78 ?_
            refine v_i2f dX2_forecastBehind_80 ?_
            refine v_fstore_5 dX2_forecastBehind_81 (Nat.le_of_ble_eq_true rfl) rfl ?_
            refine v_iconst dX2_forecastBehind_83 ?_
            refine v_istore_6 dX2_forecastBehind_84 (Nat.le_of_ble_eq_true rfl) rfl ?_
            refine v_iinc_7 dX2_forecastBehind_86 (Nat.le_of_ble_eq_true rfl) rfl ?_
            refine v_goto (tgt := 31) dX2_forecastBehind_89 rfl ?_
            exact v_weak [some (rr E o), some (iv s), some (iv k), some (iv h), some (fv p), some (fv (FP.i2f (Int32.ofInt (rdA w s k x)))), some (iv 1), some (iv (x + 1)), none] ⟨rfl, rfl, rfl, rfl, rfl, rfl, rfl, rfl, trivial⟩ (ih (x + 1) (FP.i2f (Int32.ofInt (rdA w s k x))) 1 (by omega) (by omega) (fcI_first h_0 c50 c58 h_2) (by omega))
          · refine v_fload_5 dX2_forecastBehind_61 ?_
            refine v_fload_4 dX2_forecastBehind_63 ?_
            refine v_iload_8 dX2_forecastBehind_65 ?_
            refine v_i2f dX2_forecastBehind_67 ?_
            refine v_fload_5 dX2_forecastBehind_68 ?_
            refine v_fsub dX2_forecastBehind_70 (fun r70 a70 => ?_)
            refine v_fmul dX2_forecastBehind_71 (fun r71 a71 => ?_)
            refine v_fadd dX2_forecastBehind_72 (fun r72 a72 => ?_)
            refine v_fstore_5 dX2_forecastBehind_73 (Nat.le_of_ble_eq_true rfl) rfl ?_
            refine v_goto (tgt := 86) dX2_forecastBehind_75 rfl ?_
            refine v_iinc_7 dX2_forecastBehind_86 (Nat.le_of_ble_eq_true rfl) rfl ?_
            refine v_goto (tgt := 31) dX2_forecastBehind_89 rfl ?_
            exact v_weak [some (rr E o), some (iv s), some (iv k), some (iv h), some (fv p), some (fv r72), some (iv b), some (iv (x + 1)), none] ⟨rfl, rfl, rfl, rfl, rfl, rfl, rfl, rfl, trivial⟩ (ih (x + 1) r72 b (by omega) (by omega) (fcI_next h_0 c50 c58 hsp h_2 a70 a71 a72) (by omega))
        · refine v_goto (tgt := 86) dX2_forecastBehind_53 rfl ?_
          refine v_iinc_7 dX2_forecastBehind_86 (Nat.le_of_ble_eq_true rfl) rfl ?_
          refine v_goto (tgt := 31) dX2_forecastBehind_89 rfl ?_
          exact v_weak [some (rr E o), some (iv s), some (iv k), some (iv h), some (fv p), some (fv F), some (iv b), some (iv (x + 1)), none] ⟨rfl, rfl, rfl, rfl, rfl, rfl, rfl, rfl, trivial⟩ (ih (x + 1) F b (by omega) (by omega) (fcI_skip h_0 c50 h_2) (by omega))
  exact lp (h + 2).toNat 0 FP.fconst0 0 (by omega) (by omega) (Or.inl ⟨rfl, rfl⟩) (by omega)

set_option maxRecDepth 100000 in
theorem c_X2_forecastBehind {E : Ev} {M : Mem} {Post : Option Value → Mem → Prop} {o : Nat} {w : Int → Int} (hO : OffAt E M o w) (hw : WF w) {s k h : Int} (hs : I32 s) (hk : I32 k) (hh : I32 h) (hp : Post (some (iv (fcW w s k h))) M) : Cn E rX2_forecastBehind mX2_forecastBehind [rr E o, iv s, iv k, iv h] M Post := by
  refine Cn.of (L := [some (rr E o), some (iv s), some (iv k), some (iv h), none, none, none, none, none]) (by decide) (Nat.le_of_ble_eq_true rfl) rfl ?_
  refine v_aload_0 dX2_forecastBehind_0 ?_
  refine v_iload_1 dX2_forecastBehind_1 ?_
  refine v_iload_2 dX2_forecastBehind_2 ?_
  refine v_iload_3 dX2_forecastBehind_3 ?_
  refine l_X2_67 rfl dX2_forecastBehind_4 hO.1 ⟨Nat.le_of_ble_eq_true rfl, Nat.le_of_ble_eq_true rfl⟩ (Nat.le_of_ble_eq_true rfl) ⟨Nat.le_refl _, Nat.le_refl _⟩ (c_X2_hasPlace hO hw.hr hs hk hh ?_)
  refine v_ifne_b (tgt := 12) dX2_forecastBehind_7 rfl (fun hP => ?_) (fun hP => ?_)
  · refine v_aload_0 dX2_forecastBehind_12 ?_
    refine g_X2_30 rfl dX2_forecastBehind_13 hO.1 ?_
    refine v_i2f dX2_forecastBehind_16 ?_
    refine v_ldcf (v := 1120403456) dX2_forecastBehind_17 (pl 590 (by decide +kernel)) ?_
    refine v_fdiv dX2_forecastBehind_19 (fun r19 a19 => ?_)
    refine v_fstore_4 dX2_forecastBehind_20 (Nat.le_of_ble_eq_true rfl) rfl ?_
    refine v_fconst0 dX2_forecastBehind_22 ?_
    refine v_fstore_5 dX2_forecastBehind_23 (Nat.le_of_ble_eq_true rfl) rfl ?_
    refine v_iconst dX2_forecastBehind_25 ?_
    refine v_istore_6 dX2_forecastBehind_26 (Nat.le_of_ble_eq_true rfl) rfl ?_
    refine v_iconst dX2_forecastBehind_28 ?_
    refine v_istore_7 dX2_forecastBehind_29 (Nat.le_of_ble_eq_true rfl) rfl ?_
    exact lp_X2_forecastBehind hO hw hs hk hh (by omega) (by omega) (al_dc a19) (by have e : fcW w s k h = fcO (fcF w s k (h + 1).toNat) := if_pos hP; rw [e] at hp; exact hp)
  · refine v_iconst dX2_forecastBehind_10 ?_
    exact v_iret dX2_forecastBehind_11 rfl (Nat.le_refl _) (Nat.le_refl _) (by have e : fcW w s k h = -1 := if_neg hP; rw [e] at hp; exact hp)

set_option maxRecDepth 100000 in
theorem c_X2_putRead {E : Ev} {M : Mem} {Post : Option Value → Mem → Prop} {o : Nat} {w : Int → Int} (hO : OffAt E M o w) (hr : HR w) {s k h : Int} (hs : I32 s) (hk : I32 k) (hh : I32 h) {v : Int} (hp : Pl w s k h → ∀ f, M[o + 5 + (s * 3 + k).toNat]? = some (ia E 0 60 f) → Post none (M.set (o + 5 + (s * 3 + k).toNat) (ia E 0 60 (upI f h v)))) (hq : ¬ Pl w s k h → Post none M) : Cn E rX2_putRead mX2_putRead [rr E o, iv s, iv k, iv h, iv v] M Post := by
  obtain ⟨g, hg, hg2⟩ := hO.2.2.2.2.1
  refine Cn.of (L := [some (rr E o), some (iv s), some (iv k), some (iv h), some (iv v)]) (by decide) (Nat.le_of_ble_eq_true rfl) rfl ?_
  refine v_aload_0 dX2_putRead_0 ?_
  refine v_iload_1 dX2_putRead_1 ?_
  refine v_iload_2 dX2_putRead_2 ?_
  refine v_iload_3 dX2_putRead_3 ?_
  refine l_X2_67 rfl dX2_putRead_4 hO.1 ⟨Nat.le_of_ble_eq_true rfl, Nat.le_of_ble_eq_true rfl⟩ (Nat.le_of_ble_eq_true rfl) ⟨Nat.le_refl _, Nat.le_refl _⟩ (c_X2_hasPlace hO hr hs hk hh ?_)
  refine v_ifeq_b (tgt := 24) dX2_putRead_7 rfl (fun c => ?_) (fun c => ?_)
  · exact v_vret dX2_putRead_24 rfl (Nat.le_refl _) (Nat.le_refl _) (hq c)
  · refine v_aload_0 dX2_putRead_10 ?_
    refine g_X2_26 rfl dX2_putRead_11 hO.1 ?_
    refine v_iload_1 dX2_putRead_14 ?_
    refine v_iconst dX2_putRead_15 ?_
    refine v_imul dX2_putRead_16 ?_
    refine v_iload_2 dX2_putRead_17 ?_
    refine v_iadd dX2_putRead_18 ?_
    refine v_aaload (ty := .array .int) dX2_putRead_19 hg rfl rfl (by omega) (by omega) (by decide) ?_
    rw [hg2 _ (by omega) (by omega)]
    obtain ⟨f, hf, hf2⟩ := hO.row (r := s * 3 + k) (by omega) (by omega)
    refine v_iload_3 dX2_putRead_20 ?_
    refine v_iload_4 dX2_putRead_21 ?_
    refine v_iastore dX2_putRead_23 hf (by omega) (by omega) (by decide) ?_
    exact v_vret dX2_putRead_24 rfl (Nat.le_refl _) (Nat.le_refl _) (hp c f hf)
end
