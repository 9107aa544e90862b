-- ===== PART A: goes FIRST, ahead of the names: the tables' words, and 'selects' of the private methods out of them =====
/-- a private method of a class that the tables say can be made, by its rows of tables_1 -/
def lw_okq (q : MethodName × Nat) : Prop := (q.1.cls ≠ "java/lang/invoke/MethodHandle" ∧ q.1.cls ≠ "java/lang/invoke/VarHandle") ∧ Cond.instantiable q.1.cls q.2 ∈ tables_1 ∧ Cond.privateMethod q.1 ∈ tables_1 ∧ Cond.instanceMethod q.1 ∈ tables_1
theorem lw_p0 : lw_okq (⟨"AirIndex$Token", "skipBlanks", "()V"⟩, 5) := ⟨⟨by decide +kernel, by decide +kernel⟩, List.mem_of_getElem? (i := 48) (by decide +kernel), List.mem_of_getElem? (i := 277) (by decide +kernel), List.mem_of_getElem? (i := 278) (by decide +kernel)⟩
theorem lw_p1 : lw_okq (⟨"AirIndex$Token", "scanRun", "()V"⟩, 5) := ⟨⟨by decide +kernel, by decide +kernel⟩, List.mem_of_getElem? (i := 48) (by decide +kernel), List.mem_of_getElem? (i := 288) (by decide +kernel), List.mem_of_getElem? (i := 289) (by decide +kernel)⟩
theorem lw_p2 : lw_okq (⟨"AirIndex$TextReader", "takesWord", "(Ljava/lang/String;)Z"⟩, 6) := ⟨⟨by decide +kernel, by decide +kernel⟩, List.mem_of_getElem? (i := 42) (by decide +kernel), List.mem_of_getElem? (i := 297) (by decide +kernel), List.mem_of_getElem? (i := 298) (by decide +kernel)⟩
theorem lw_p3 : lw_okq (⟨"AirIndex$TextReader", "refuses", "(I)Z"⟩, 6) := ⟨⟨by decide +kernel, by decide +kernel⟩, List.mem_of_getElem? (i := 42) (by decide +kernel), List.mem_of_getElem? (i := 353) (by decide +kernel), List.mem_of_getElem? (i := 354) (by decide +kernel)⟩
theorem lw_p4 : lw_okq (⟨"AirIndex$TextReader", "takesNumber", "(II)Z"⟩, 6) := ⟨⟨by decide +kernel, by decide +kernel⟩, List.mem_of_getElem? (i := 42) (by decide +kernel), List.mem_of_getElem? (i := 358) (by decide +kernel), List.mem_of_getElem? (i := 359) (by decide +kernel)⟩
theorem lw_p5 : lw_okq (⟨"AirIndex$TextReader", "isNumberWithin", "(II)Z"⟩, 6) := ⟨⟨by decide +kernel, by decide +kernel⟩, List.mem_of_getElem? (i := 42) (by decide +kernel), List.mem_of_getElem? (i := 362) (by decide +kernel), List.mem_of_getElem? (i := 363) (by decide +kernel)⟩
theorem lw_p6 : lw_okq (⟨"AirIndex$TextReader", "takesSemicolon", "()Z"⟩, 6) := ⟨⟨by decide +kernel, by decide +kernel⟩, List.mem_of_getElem? (i := 42) (by decide +kernel), List.mem_of_getElem? (i := 370) (by decide +kernel), List.mem_of_getElem? (i := 371) (by decide +kernel)⟩
theorem lw_p7 : lw_okq (⟨"AirIndex$TextReader", "readsSubstance", "(LAirIndex$Office;)Z"⟩, 6) := ⟨⟨by decide +kernel, by decide +kernel⟩, List.mem_of_getElem? (i := 42) (by decide +kernel), List.mem_of_getElem? (i := 384) (by decide +kernel), List.mem_of_getElem? (i := 385) (by decide +kernel)⟩
theorem lw_p8 : lw_okq (⟨"AirIndex$TextReader", "readsPoints", "(LAirIndex$Substance;)Z"⟩, 6) := ⟨⟨by decide +kernel, by decide +kernel⟩, List.mem_of_getElem? (i := 42) (by decide +kernel), List.mem_of_getElem? (i := 389) (by decide +kernel), List.mem_of_getElem? (i := 390) (by decide +kernel)⟩
theorem lw_p9 : lw_okq (⟨"AirIndex$TextReader", "readsSeries", "(LAirIndex$Office;)Z"⟩, 6) := ⟨⟨by decide +kernel, by decide +kernel⟩, List.mem_of_getElem? (i := 42) (by decide +kernel), List.mem_of_getElem? (i := 404) (by decide +kernel), List.mem_of_getElem? (i := 405) (by decide +kernel)⟩
theorem lw_p10 : lw_okq (⟨"AirIndex$TextReader", "readsReads", "(LAirIndex$Office;II)Z"⟩, 6) := ⟨⟨by decide +kernel, by decide +kernel⟩, List.mem_of_getElem? (i := 42) (by decide +kernel), List.mem_of_getElem? (i := 409) (by decide +kernel), List.mem_of_getElem? (i := 410) (by decide +kernel)⟩
theorem lw_p11 : lw_okq (⟨"AirIndex$TextReader", "isRead", "()Z"⟩, 6) := ⟨⟨by decide +kernel, by decide +kernel⟩, List.mem_of_getElem? (i := 42) (by decide +kernel), List.mem_of_getElem? (i := 413) (by decide +kernel), List.mem_of_getElem? (i := 414) (by decide +kernel)⟩
theorem lw_p12 : lw_okq (⟨"AirIndex", "canCorrect", "(IIII)Z"⟩, 5) := ⟨⟨by decide +kernel, by decide +kernel⟩, List.mem_of_getElem? (i := 17) (by decide +kernel), List.mem_of_getElem? (i := 559) (by decide +kernel), List.mem_of_getElem? (i := 560) (by decide +kernel)⟩
theorem lw_p13 : lw_okq (⟨"AirIndex", "touchedHours", "(IIII)I"⟩, 5) := ⟨⟨by decide +kernel, by decide +kernel⟩, List.mem_of_getElem? (i := 17) (by decide +kernel), List.mem_of_getElem? (i := 563) (by decide +kernel), List.mem_of_getElem? (i := 564) (by decide +kernel)⟩
theorem lw_p14 : lw_okq (⟨"AirIndex$History", "forgetOldest", "()V"⟩, 2) := ⟨⟨by decide +kernel, by decide +kernel⟩, List.mem_of_getElem? (i := 95) (by decide +kernel), List.mem_of_getElem? (i := 575) (by decide +kernel), List.mem_of_getElem? (i := 576) (by decide +kernel)⟩
theorem lw_p15 : lw_okq (⟨"AirIndex", "takeBack", "(LAirIndex$Act;)V"⟩, 5) := ⟨⟨by decide +kernel, by decide +kernel⟩, List.mem_of_getElem? (i := 17) (by decide +kernel), List.mem_of_getElem? (i := 605) (by decide +kernel), List.mem_of_getElem? (i := 606) (by decide +kernel)⟩
def lw_privs_1 : List (MethodName × Nat) := [(⟨"AirIndex$Token", "skipBlanks", "()V"⟩, 5), (⟨"AirIndex$Token", "scanRun", "()V"⟩, 5), (⟨"AirIndex$TextReader", "takesWord", "(Ljava/lang/String;)Z"⟩, 6), (⟨"AirIndex$TextReader", "refuses", "(I)Z"⟩, 6), (⟨"AirIndex$TextReader", "takesNumber", "(II)Z"⟩, 6), (⟨"AirIndex$TextReader", "isNumberWithin", "(II)Z"⟩, 6), (⟨"AirIndex$TextReader", "takesSemicolon", "()Z"⟩, 6), (⟨"AirIndex$TextReader", "readsSubstance", "(LAirIndex$Office;)Z"⟩, 6), (⟨"AirIndex$TextReader", "readsPoints", "(LAirIndex$Substance;)Z"⟩, 6), (⟨"AirIndex$TextReader", "readsSeries", "(LAirIndex$Office;)Z"⟩, 6), (⟨"AirIndex$TextReader", "readsReads", "(LAirIndex$Office;II)Z"⟩, 6), (⟨"AirIndex$TextReader", "isRead", "()Z"⟩, 6), (⟨"AirIndex", "canCorrect", "(IIII)Z"⟩, 5), (⟨"AirIndex", "touchedHours", "(IIII)I"⟩, 5), (⟨"AirIndex$History", "forgetOldest", "()V"⟩, 2), (⟨"AirIndex", "takeBack", "(LAirIndex$Act;)V"⟩, 5)]
theorem lw_r1 : ∀ q ∈ lw_privs_1, lw_okq q := List.forall_mem_cons.mpr ⟨lw_p0, List.forall_mem_cons.mpr ⟨lw_p1, List.forall_mem_cons.mpr ⟨lw_p2, List.forall_mem_cons.mpr ⟨lw_p3, List.forall_mem_cons.mpr ⟨lw_p4, List.forall_mem_cons.mpr ⟨lw_p5, List.forall_mem_cons.mpr ⟨lw_p6, List.forall_mem_cons.mpr ⟨lw_p7, List.forall_mem_cons.mpr ⟨lw_p8, List.forall_mem_cons.mpr ⟨lw_p9, List.forall_mem_cons.mpr ⟨lw_p10, List.forall_mem_cons.mpr ⟨lw_p11, List.forall_mem_cons.mpr ⟨lw_p12, List.forall_mem_cons.mpr ⟨lw_p13, List.forall_mem_cons.mpr ⟨lw_p14, List.forall_mem_cons.mpr ⟨lw_p15, fun _ h => absurd h List.not_mem_nil⟩⟩⟩⟩⟩⟩⟩⟩⟩⟩⟩⟩⟩⟩⟩⟩
theorem lw_p16 : lw_okq (⟨"AirIndexModel", "lays", "(I)V"⟩, 18) := ⟨⟨by decide +kernel, by decide +kernel⟩, List.mem_of_getElem? (i := 615) (by decide +kernel), List.mem_of_getElem? (i := 613) (by decide +kernel), List.mem_of_getElem? (i := 614) (by decide +kernel)⟩
theorem lw_p17 : lw_okq (⟨"AirIndexModel", "go", "()V"⟩, 18) := ⟨⟨by decide +kernel, by decide +kernel⟩, List.mem_of_getElem? (i := 615) (by decide +kernel), List.mem_of_getElem? (i := 685) (by decide +kernel), List.mem_of_getElem? (i := 686) (by decide +kernel)⟩
theorem lw_p18 : lw_okq (⟨"AirIndexModel", "tapeAt", "(I)I"⟩, 18) := ⟨⟨by decide +kernel, by decide +kernel⟩, List.mem_of_getElem? (i := 615) (by decide +kernel), List.mem_of_getElem? (i := 695) (by decide +kernel), List.mem_of_getElem? (i := 696) (by decide +kernel)⟩
theorem lw_p19 : lw_okq (⟨"AirIndexModel", "readWhole", "()Z"⟩, 18) := ⟨⟨by decide +kernel, by decide +kernel⟩, List.mem_of_getElem? (i := 615) (by decide +kernel), List.mem_of_getElem? (i := 701) (by decide +kernel), List.mem_of_getElem? (i := 702) (by decide +kernel)⟩
theorem lw_p20 : lw_okq (⟨"AirIndexModel", "readBands", "()Z"⟩, 18) := ⟨⟨by decide +kernel, by decide +kernel⟩, List.mem_of_getElem? (i := 615) (by decide +kernel), List.mem_of_getElem? (i := 705) (by decide +kernel), List.mem_of_getElem? (i := 706) (by decide +kernel)⟩
theorem lw_p21 : lw_okq (⟨"AirIndexModel", "isWord", "(J)Z"⟩, 18) := ⟨⟨by decide +kernel, by decide +kernel⟩, List.mem_of_getElem? (i := 615) (by decide +kernel), List.mem_of_getElem? (i := 717) (by decide +kernel), List.mem_of_getElem? (i := 718) (by decide +kernel)⟩
theorem lw_p22 : lw_okq (⟨"AirIndexModel", "bad", "(I)Z"⟩, 18) := ⟨⟨by decide +kernel, by decide +kernel⟩, List.mem_of_getElem? (i := 615) (by decide +kernel), List.mem_of_getElem? (i := 721) (by decide +kernel), List.mem_of_getElem? (i := 722) (by decide +kernel)⟩
theorem lw_p23 : lw_okq (⟨"AirIndexModel", "told", "(III)Z"⟩, 18) := ⟨⟨by decide +kernel, by decide +kernel⟩, List.mem_of_getElem? (i := 615) (by decide +kernel), List.mem_of_getElem? (i := 725) (by decide +kernel), List.mem_of_getElem? (i := 726) (by decide +kernel)⟩
theorem lw_p24 : lw_okq (⟨"AirIndexModel", "readEnd", "()Z"⟩, 18) := ⟨⟨by decide +kernel, by decide +kernel⟩, List.mem_of_getElem? (i := 615) (by decide +kernel), List.mem_of_getElem? (i := 732) (by decide +kernel), List.mem_of_getElem? (i := 733) (by decide +kernel)⟩
theorem lw_p25 : lw_okq (⟨"AirIndexModel", "readSubstance", "()Z"⟩, 18) := ⟨⟨by decide +kernel, by decide +kernel⟩, List.mem_of_getElem? (i := 615) (by decide +kernel), List.mem_of_getElem? (i := 739) (by decide +kernel), List.mem_of_getElem? (i := 740) (by decide +kernel)⟩
theorem lw_p26 : lw_okq (⟨"AirIndexModel", "isSubstance", "()Z"⟩, 18) := ⟨⟨by decide +kernel, by decide +kernel⟩, List.mem_of_getElem? (i := 615) (by decide +kernel), List.mem_of_getElem? (i := 743) (by decide +kernel), List.mem_of_getElem? (i := 744) (by decide +kernel)⟩
theorem lw_p27 : lw_okq (⟨"AirIndexModel", "readPoint", "(I)Z"⟩, 18) := ⟨⟨by decide +kernel, by decide +kernel⟩, List.mem_of_getElem? (i := 615) (by decide +kernel), List.mem_of_getElem? (i := 749) (by decide +kernel), List.mem_of_getElem? (i := 750) (by decide +kernel)⟩
theorem lw_p28 : lw_okq (⟨"AirIndexModel", "readStation", "()Z"⟩, 18) := ⟨⟨by decide +kernel, by decide +kernel⟩, List.mem_of_getElem? (i := 615) (by decide +kernel), List.mem_of_getElem? (i := 753) (by decide +kernel), List.mem_of_getElem? (i := 754) (by decide +kernel)⟩
theorem lw_p29 : lw_okq (⟨"AirIndexModel", "isStationWord", "()Z"⟩, 18) := ⟨⟨by decide +kernel, by decide +kernel⟩, List.mem_of_getElem? (i := 615) (by decide +kernel), List.mem_of_getElem? (i := 757) (by decide +kernel), List.mem_of_getElem? (i := 758) (by decide +kernel)⟩
theorem lw_p30 : lw_okq (⟨"AirIndexModel", "readSeries", "()Z"⟩, 18) := ⟨⟨by decide +kernel, by decide +kernel⟩, List.mem_of_getElem? (i := 615) (by decide +kernel), List.mem_of_getElem? (i := 762) (by decide +kernel), List.mem_of_getElem? (i := 763) (by decide +kernel)⟩
theorem lw_p31 : lw_okq (⟨"AirIndexModel", "readMany", "()I"⟩, 18) := ⟨⟨by decide +kernel, by decide +kernel⟩, List.mem_of_getElem? (i := 615) (by decide +kernel), List.mem_of_getElem? (i := 778) (by decide +kernel), List.mem_of_getElem? (i := 779) (by decide +kernel)⟩
def lw_privs_2 : List (MethodName × Nat) := [(⟨"AirIndexModel", "lays", "(I)V"⟩, 18), (⟨"AirIndexModel", "go", "()V"⟩, 18), (⟨"AirIndexModel", "tapeAt", "(I)I"⟩, 18), (⟨"AirIndexModel", "readWhole", "()Z"⟩, 18), (⟨"AirIndexModel", "readBands", "()Z"⟩, 18), (⟨"AirIndexModel", "isWord", "(J)Z"⟩, 18), (⟨"AirIndexModel", "bad", "(I)Z"⟩, 18), (⟨"AirIndexModel", "told", "(III)Z"⟩, 18), (⟨"AirIndexModel", "readEnd", "()Z"⟩, 18), (⟨"AirIndexModel", "readSubstance", "()Z"⟩, 18), (⟨"AirIndexModel", "isSubstance", "()Z"⟩, 18), (⟨"AirIndexModel", "readPoint", "(I)Z"⟩, 18), (⟨"AirIndexModel", "readStation", "()Z"⟩, 18), (⟨"AirIndexModel", "isStationWord", "()Z"⟩, 18), (⟨"AirIndexModel", "readSeries", "()Z"⟩, 18), (⟨"AirIndexModel", "readMany", "()I"⟩, 18)]
theorem lw_r2 : ∀ q ∈ lw_privs_2, lw_okq q := List.forall_mem_cons.mpr ⟨lw_p16, List.forall_mem_cons.mpr ⟨lw_p17, List.forall_mem_cons.mpr ⟨lw_p18, List.forall_mem_cons.mpr ⟨lw_p19, List.forall_mem_cons.mpr ⟨lw_p20, List.forall_mem_cons.mpr ⟨lw_p21, List.forall_mem_cons.mpr ⟨lw_p22, List.forall_mem_cons.mpr ⟨lw_p23, List.forall_mem_cons.mpr ⟨lw_p24, List.forall_mem_cons.mpr ⟨lw_p25, List.forall_mem_cons.mpr ⟨lw_p26, List.forall_mem_cons.mpr ⟨lw_p27, List.forall_mem_cons.mpr ⟨lw_p28, List.forall_mem_cons.mpr ⟨lw_p29, List.forall_mem_cons.mpr ⟨lw_p30, List.forall_mem_cons.mpr ⟨lw_p31, fun _ h => absurd h List.not_mem_nil⟩⟩⟩⟩⟩⟩⟩⟩⟩⟩⟩⟩⟩⟩⟩⟩
theorem lw_p32 : lw_okq (⟨"AirIndexModel", "are", "(III)Z"⟩, 18) := ⟨⟨by decide +kernel, by decide +kernel⟩, List.mem_of_getElem? (i := 615) (by decide +kernel), List.mem_of_getElem? (i := 786) (by decide +kernel), List.mem_of_getElem? (i := 787) (by decide +kernel)⟩
theorem lw_p33 : lw_okq (⟨"AirIndexModel", "isStation", "(I)Z"⟩, 18) := ⟨⟨by decide +kernel, by decide +kernel⟩, List.mem_of_getElem? (i := 615) (by decide +kernel), List.mem_of_getElem? (i := 790) (by decide +kernel), List.mem_of_getElem? (i := 791) (by decide +kernel)⟩
theorem lw_p34 : lw_okq (⟨"AirIndexModel", "isSubstance", "(I)Z"⟩, 18) := ⟨⟨by decide +kernel, by decide +kernel⟩, List.mem_of_getElem? (i := 615) (by decide +kernel), List.mem_of_getElem? (i := 794) (by decide +kernel), List.mem_of_getElem? (i := 795) (by decide +kernel)⟩
theorem lw_p35 : lw_okq (⟨"AirIndexModel", "isHour", "(I)Z"⟩, 18) := ⟨⟨by decide +kernel, by decide +kernel⟩, List.mem_of_getElem? (i := 615) (by decide +kernel), List.mem_of_getElem? (i := 798) (by decide +kernel), List.mem_of_getElem? (i := 799) (by decide +kernel)⟩
theorem lw_p36 : lw_okq (⟨"AirIndexModel", "readOf", "(III)I"⟩, 18) := ⟨⟨by decide +kernel, by decide +kernel⟩, List.mem_of_getElem? (i := 615) (by decide +kernel), List.mem_of_getElem? (i := 802) (by decide +kernel), List.mem_of_getElem? (i := 803) (by decide +kernel)⟩
theorem lw_p37 : lw_okq (⟨"AirIndexModel", "meanOf", "(III)I"⟩, 18) := ⟨⟨by decide +kernel, by decide +kernel⟩, List.mem_of_getElem? (i := 615) (by decide +kernel), List.mem_of_getElem? (i := 810) (by decide +kernel), List.mem_of_getElem? (i := 811) (by decide +kernel)⟩
theorem lw_p38 : lw_okq (⟨"AirIndexModel", "its", "(II)I"⟩, 18) := ⟨⟨by decide +kernel, by decide +kernel⟩, List.mem_of_getElem? (i := 615) (by decide +kernel), List.mem_of_getElem? (i := 814) (by decide +kernel), List.mem_of_getElem? (i := 815) (by decide +kernel)⟩
theorem lw_p39 : lw_okq (⟨"AirIndexModel", "scaleOf", "(II)I"⟩, 18) := ⟨⟨by decide +kernel, by decide +kernel⟩, List.mem_of_getElem? (i := 615) (by decide +kernel), List.mem_of_getElem? (i := 822) (by decide +kernel), List.mem_of_getElem? (i := 823) (by decide +kernel)⟩
theorem lw_p40 : lw_okq (⟨"AirIndexModel", "subOf", "(III)I"⟩, 18) := ⟨⟨by decide +kernel, by decide +kernel⟩, List.mem_of_getElem? (i := 615) (by decide +kernel), List.mem_of_getElem? (i := 834) (by decide +kernel), List.mem_of_getElem? (i := 835) (by decide +kernel)⟩
theorem lw_p41 : lw_okq (⟨"AirIndexModel", "indexOf", "(II)I"⟩, 18) := ⟨⟨by decide +kernel, by decide +kernel⟩, List.mem_of_getElem? (i := 615) (by decide +kernel), List.mem_of_getElem? (i := 842) (by decide +kernel), List.mem_of_getElem? (i := 843) (by decide +kernel)⟩
theorem lw_p42 : lw_okq (⟨"AirIndexModel", "rulingOf", "(II)I"⟩, 18) := ⟨⟨by decide +kernel, by decide +kernel⟩, List.mem_of_getElem? (i := 615) (by decide +kernel), List.mem_of_getElem? (i := 846) (by decide +kernel), List.mem_of_getElem? (i := 847) (by decide +kernel)⟩
theorem lw_p43 : lw_okq (⟨"AirIndexModel", "bandOf", "(I)I"⟩, 18) := ⟨⟨by decide +kernel, by decide +kernel⟩, List.mem_of_getElem? (i := 615) (by decide +kernel), List.mem_of_getElem? (i := 850) (by decide +kernel), List.mem_of_getElem? (i := 851) (by decide +kernel)⟩
theorem lw_p44 : lw_okq (⟨"AirIndexModel", "canCorrect", "(IIII)Z"⟩, 18) := ⟨⟨by decide +kernel, by decide +kernel⟩, List.mem_of_getElem? (i := 615) (by decide +kernel), List.mem_of_getElem? (i := 879) (by decide +kernel), List.mem_of_getElem? (i := 880) (by decide +kernel)⟩
theorem lw_p45 : lw_okq (⟨"AirIndexModel", "corrects", "(IIII)I"⟩, 18) := ⟨⟨by decide +kernel, by decide +kernel⟩, List.mem_of_getElem? (i := 615) (by decide +kernel), List.mem_of_getElem? (i := 883) (by decide +kernel), List.mem_of_getElem? (i := 884) (by decide +kernel)⟩
theorem lw_p46 : lw_okq (⟨"AirIndexModel", "snap", "()V"⟩, 18) := ⟨⟨by decide +kernel, by decide +kernel⟩, List.mem_of_getElem? (i := 615) (by decide +kernel), List.mem_of_getElem? (i := 891) (by decide +kernel), List.mem_of_getElem? (i := 892) (by decide +kernel)⟩
def lw_privs_3 : List (MethodName × Nat) := [(⟨"AirIndexModel", "are", "(III)Z"⟩, 18), (⟨"AirIndexModel", "isStation", "(I)Z"⟩, 18), (⟨"AirIndexModel", "isSubstance", "(I)Z"⟩, 18), (⟨"AirIndexModel", "isHour", "(I)Z"⟩, 18), (⟨"AirIndexModel", "readOf", "(III)I"⟩, 18), (⟨"AirIndexModel", "meanOf", "(III)I"⟩, 18), (⟨"AirIndexModel", "its", "(II)I"⟩, 18), (⟨"AirIndexModel", "scaleOf", "(II)I"⟩, 18), (⟨"AirIndexModel", "subOf", "(III)I"⟩, 18), (⟨"AirIndexModel", "indexOf", "(II)I"⟩, 18), (⟨"AirIndexModel", "rulingOf", "(II)I"⟩, 18), (⟨"AirIndexModel", "bandOf", "(I)I"⟩, 18), (⟨"AirIndexModel", "canCorrect", "(IIII)Z"⟩, 18), (⟨"AirIndexModel", "corrects", "(IIII)I"⟩, 18), (⟨"AirIndexModel", "snap", "()V"⟩, 18)]
theorem lw_r3 : ∀ q ∈ lw_privs_3, lw_okq q := List.forall_mem_cons.mpr ⟨lw_p32, List.forall_mem_cons.mpr ⟨lw_p33, List.forall_mem_cons.mpr ⟨lw_p34, List.forall_mem_cons.mpr ⟨lw_p35, List.forall_mem_cons.mpr ⟨lw_p36, List.forall_mem_cons.mpr ⟨lw_p37, List.forall_mem_cons.mpr ⟨lw_p38, List.forall_mem_cons.mpr ⟨lw_p39, List.forall_mem_cons.mpr ⟨lw_p40, List.forall_mem_cons.mpr ⟨lw_p41, List.forall_mem_cons.mpr ⟨lw_p42, List.forall_mem_cons.mpr ⟨lw_p43, List.forall_mem_cons.mpr ⟨lw_p44, List.forall_mem_cons.mpr ⟨lw_p45, List.forall_mem_cons.mpr ⟨lw_p46, fun _ h => absurd h List.not_mem_nil⟩⟩⟩⟩⟩⟩⟩⟩⟩⟩⟩⟩⟩⟩⟩
def lw_privs : List (MethodName × Nat) := lw_privs_1 ++ (lw_privs_2 ++ (lw_privs_3))
def lw_tbl : List Cond := k2_sels lw_privs ++ tables_1
theorem lw_privs_ok : ∀ q ∈ lw_privs, lw_okq q := by
  show ∀ q ∈ lw_privs_1 ++ (lw_privs_2 ++ (lw_privs_3)), lw_okq q
  exact List.forall_mem_append.mpr ⟨lw_r1, List.forall_mem_append.mpr ⟨lw_r2, lw_r3⟩⟩
/-- the streams that the claim lets the run draw from -/
abbrev lw_cs : List Choice := [Jvm.Choice.named "NaN.bits"]
theorem lw_bits : nanBits ∈ lw_cs := by first | decide | exact List.mem_cons_self | simp [lw_cs, nanBits]

def RX0 : String := "AirIndex$Act"
def TX0 : u_T := fun k => match k with
  | 0 => ("AirIndex$Act", "kind", "I", false)
  | 1 => ("AirIndex$Act", "station", "I", false)
  | 2 => ("AirIndex$Act", "substance", "I", false)
  | 3 => ("AirIndex$Act", "hour", "I", false)
  | 4 => ("AirIndex$Act", "before", "I", false)
  | _ => ("AirIndex$Act", "needBefore", "I", false)
def tyX0 : Nat → FieldType := fun k => match k with
  | 0 => .int
  | 1 => .int
  | 2 => .int
  | 3 => .int
  | 4 => .int
  | _ => .int
abbrev wsX00 : List Cond := u_ws RX0 TX0 6
theorem nmX0 : ∀ a, a < 6 → ∀ b, b < 6 → a ≠ b → (TX0 a).2.1 ≠ (TX0 b).2.1 := by decide +kernel
theorem tyX0_ok : ∀ k, k < 6 → parseFieldDescriptor (TX0 k).2.2.1 = some (tyX0 k) := by decide +kernel
abbrev cX0_init : ByteArray := prog_2_method_1_code
def yX0_init : MethodName := ⟨RX0, "<init>", "()V"⟩
def RX1 : String := "AirIndex$History"
def TX1 : u_T := fun k => match k with
  | 0 => ("AirIndex$History", "acts", "[LAirIndex$Act;", true)
  | _ => ("AirIndex$History", "count", "I", false)
def tyX1 : Nat → FieldType := fun k => match k with
  | 0 => .array (.object "AirIndex$Act")
  | _ => .int
abbrev wsX10 : List Cond := u_ws RX1 TX1 2
theorem nmX1 : ∀ a, a < 2 → ∀ b, b < 2 → a ≠ b → (TX1 a).2.1 ≠ (TX1 b).2.1 := by decide +kernel
theorem tyX1_ok : ∀ k, k < 2 → parseFieldDescriptor (TX1 k).2.2.1 = some (tyX1 k) := by decide +kernel
abbrev cX1_init : ByteArray := prog_3_method_1_code
def yX1_init : MethodName := ⟨RX1, "<init>", "()V"⟩
abbrev cX1_forgetAll : ByteArray := prog_3_method_2_code
def yX1_forgetAll : MethodName := ⟨RX1, "forgetAll", "()V"⟩
abbrev cX1_next : ByteArray := prog_3_method_3_code
def yX1_next : MethodName := ⟨RX1, "next", "(I)LAirIndex$Act;"⟩
abbrev cX1_takeLatest : ByteArray := prog_3_method_4_code
def yX1_takeLatest : MethodName := ⟨RX1, "takeLatest", "()LAirIndex$Act;"⟩
abbrev cX1_forgetOldest : ByteArray := prog_3_method_5_code
def yX1_forgetOldest : MethodName := ⟨RX1, "forgetOldest", "()V"⟩
def RX2 : String := "AirIndex$Office"
def TX2 : u_T := fun k => match k with
  | 0 => ("AirIndex$Office", "bands", "[I", true)
  | 1 => ("AirIndex$Office", "substances", "[LAirIndex$Substance;", true)
  | 2 => ("AirIndex$Office", "districts", "[I", true)
  | 3 => ("AirIndex$Office", "reads", "[[I", true)
  | 4 => ("AirIndex$Office", "share", "I", false)
  | 5 => ("AirIndex$Office", "substanceCount", "I", false)
  | 6 => ("AirIndex$Office", "stationCount", "I", false)
  | _ => ("AirIndex$Office", "hours", "I", false)
def tyX2 : Nat → FieldType := fun k => match k with
  | 0 => .array .int
  | 1 => .array (.object "AirIndex$Substance")
  | 2 => .array .int
  | 3 => .array (.array .int)
  | 4 => .int
  | 5 => .int
  | 6 => .int
  | _ => .int
abbrev wsX20 : List Cond := u_ws RX2 TX2 8
theorem nmX2 : ∀ a, a < 8 → ∀ b, b < 8 → a ≠ b → (TX2 a).2.1 ≠ (TX2 b).2.1 := by decide +kernel
theorem tyX2_ok : ∀ k, k < 8 → parseFieldDescriptor (TX2 k).2.2.1 = some (tyX2 k) := by decide +kernel
abbrev cX2_init : ByteArray := prog_4_method_1_code
def yX2_init : MethodName := ⟨RX2, "<init>", "()V"⟩
abbrev cX2_clear : ByteArray := prog_4_method_2_code
def yX2_clear : MethodName := ⟨RX2, "clear", "()V"⟩
abbrev cX2_tellFirst : ByteArray := prog_4_method_3_code
def yX2_tellFirst : MethodName := ⟨RX2, "tellFirst", "()V"⟩
abbrev cX2_putBand : ByteArray := prog_4_method_4_code
def yX2_putBand : MethodName := ⟨RX2, "putBand", "(II)V"⟩
abbrev cX2_addSubstance : ByteArray := prog_4_method_5_code
def yX2_addSubstance : MethodName := ⟨RX2, "addSubstance", "(II)LAirIndex$Substance;"⟩
abbrev cX2_addStation : ByteArray := prog_4_method_6_code
def yX2_addStation : MethodName := ⟨RX2, "addStation", "(I)V"⟩
abbrev cX2_hasStation : ByteArray := prog_4_method_7_code
def yX2_hasStation : MethodName := ⟨RX2, "hasStation", "(I)Z"⟩
abbrev cX2_hasHour : ByteArray := prog_4_method_8_code
def yX2_hasHour : MethodName := ⟨RX2, "hasHour", "(I)Z"⟩
abbrev cX2_hasPlace : ByteArray := prog_4_method_9_code
def yX2_hasPlace : MethodName := ⟨RX2, "hasPlace", "(III)Z"⟩
abbrev cX2_substanceAt : ByteArray := prog_4_method_10_code
def yX2_substanceAt : MethodName := ⟨RX2, "substanceAt", "(I)LAirIndex$Substance;"⟩
abbrev cX2_putRead : ByteArray := prog_4_method_11_code
def yX2_putRead : MethodName := ⟨RX2, "putRead", "(IIII)V"⟩
abbrev cX2_readAt : ByteArray := prog_4_method_12_code
def yX2_readAt : MethodName := ⟨RX2, "readAt", "(III)I"⟩
abbrev cX2_countReads : ByteArray := prog_4_method_13_code
def yX2_countReads : MethodName := ⟨RX2, "countReads", "()I"⟩
abbrev cX2_meanAt : ByteArray := prog_4_method_14_code
def yX2_meanAt : MethodName := ⟨RX2, "meanAt", "(III)I"⟩
abbrev cX2_subAt : ByteArray := prog_4_method_15_code
def yX2_subAt : MethodName := ⟨RX2, "subAt", "(III)I"⟩
abbrev cX2_indexAt : ByteArray := prog_4_method_16_code
def yX2_indexAt : MethodName := ⟨RX2, "indexAt", "(II)I"⟩
abbrev cX2_rulingAt : ByteArray := prog_4_method_17_code
def yX2_rulingAt : MethodName := ⟨RX2, "rulingAt", "(II)I"⟩
abbrev cX2_worstStationAt : ByteArray := prog_4_method_18_code
def yX2_worstStationAt : MethodName := ⟨RX2, "worstStationAt", "(II)I"⟩
abbrev cX2_countIndexed : ByteArray := prog_4_method_19_code
def yX2_countIndexed : MethodName := ⟨RX2, "countIndexed", "(II)I"⟩
abbrev cX2_bandStart : ByteArray := prog_4_method_20_code
def yX2_bandStart : MethodName := ⟨RX2, "bandStart", "(I)I"⟩
abbrev cX2_bandOf : ByteArray := prog_4_method_21_code
def yX2_bandOf : MethodName := ⟨RX2, "bandOf", "(I)I"⟩
abbrev cX2_forecastBehind : ByteArray := prog_4_method_22_code
def yX2_forecastBehind : MethodName := ⟨RX2, "forecastBehind", "(III)I"⟩
def RX3 : String := "AirIndex$Substance"
def TX3 : u_T := fun k => match k with
  | 0 => ("AirIndex$Substance", "levels", "[I", true)
  | 1 => ("AirIndex$Substance", "indexes", "[I", true)
  | 2 => ("AirIndex$Substance", "points", "I", false)
  | 3 => ("AirIndex$Substance", "window", "I", false)
  | _ => ("AirIndex$Substance", "need", "I", false)
def tyX3 : Nat → FieldType := fun k => match k with
  | 0 => .array .int
  | 1 => .array .int
  | 2 => .int
  | 3 => .int
  | _ => .int
abbrev wsX30 : List Cond := u_ws RX3 TX3 5
theorem nmX3 : ∀ a, a < 5 → ∀ b, b < 5 → a ≠ b → (TX3 a).2.1 ≠ (TX3 b).2.1 := by decide +kernel
theorem tyX3_ok : ∀ k, k < 5 → parseFieldDescriptor (TX3 k).2.2.1 = some (tyX3 k) := by decide +kernel
abbrev cX3_init : ByteArray := prog_5_method_1_code
def yX3_init : MethodName := ⟨RX3, "<init>", "()V"⟩
abbrev cX3_addPoint : ByteArray := prog_5_method_2_code
def yX3_addPoint : MethodName := ⟨RX3, "addPoint", "(II)V"⟩
abbrev cX3_subAtLevel : ByteArray := prog_5_method_3_code
def yX3_subAtLevel : MethodName := ⟨RX3, "subAtLevel", "(I)I"⟩
def RX4 : String := "AirIndex$Tape"
def TX4 : u_T := fun k => match k with
  | 0 => ("AirIndex$Tape", "bytes", "[B", true)
  | _ => ("AirIndex$Tape", "length", "I", false)
def tyX4 : Nat → FieldType := fun k => match k with
  | 0 => .array .byte
  | _ => .int
abbrev wsX40 : List Cond := u_ws RX4 TX4 2
theorem nmX4 : ∀ a, a < 2 → ∀ b, b < 2 → a ≠ b → (TX4 a).2.1 ≠ (TX4 b).2.1 := by decide +kernel
theorem tyX4_ok : ∀ k, k < 2 → parseFieldDescriptor (TX4 k).2.2.1 = some (tyX4 k) := by decide +kernel
abbrev cX4_init : ByteArray := prog_6_method_1_code
def yX4_init : MethodName := ⟨RX4, "<init>", "()V"⟩
abbrev cX4_hasRoom : ByteArray := prog_6_method_2_code
def yX4_hasRoom : MethodName := ⟨RX4, "hasRoom", "(I)Z"⟩
abbrev cX4_append : ByteArray := prog_6_method_3_code
def yX4_append : MethodName := ⟨RX4, "append", "(I)V"⟩
abbrev cX4_cutTo : ByteArray := prog_6_method_4_code
def yX4_cutTo : MethodName := ⟨RX4, "cutTo", "(I)Z"⟩
abbrev cX4_byteAt : ByteArray := prog_6_method_5_code
def yX4_byteAt : MethodName := ⟨RX4, "byteAt", "(I)I"⟩
def RX5 : String := "AirIndex$TextReader"
def TX5 : u_T := fun k => match k with
  | 0 => ("AirIndex$TextReader", "token", "LAirIndex$Token;", true)
  | 1 => ("AirIndex$TextReader", "lines", "I", false)
  | 2 => ("AirIndex$TextReader", "faultKind", "I", false)
  | 3 => ("AirIndex$TextReader", "faultPlace", "I", false)
  | 4 => ("AirIndex$TextReader", "taken", "I", false)
  | _ => ("AirIndex$TextReader", "toldSeries", "I", false)
def tyX5 : Nat → FieldType := fun k => match k with
  | 0 => .object "AirIndex$Token"
  | 1 => .int
  | 2 => .int
  | 3 => .int
  | 4 => .int
  | _ => .int
abbrev wsX50 : List Cond := u_ws RX5 TX5 6
theorem nmX5 : ∀ a, a < 6 → ∀ b, b < 6 → a ≠ b → (TX5 a).2.1 ≠ (TX5 b).2.1 := by decide +kernel
theorem tyX5_ok : ∀ k, k < 6 → parseFieldDescriptor (TX5 k).2.2.1 = some (tyX5 k) := by decide +kernel
abbrev cX5_init : ByteArray := prog_7_method_1_code
def yX5_init : MethodName := ⟨RX5, "<init>", "(LAirIndex$Tape;)V"⟩
abbrev cX5_begin : ByteArray := prog_7_method_2_code
def yX5_begin : MethodName := ⟨RX5, "begin", "()V"⟩
abbrev cX5_readsBands : ByteArray := prog_7_method_3_code
def yX5_readsBands : MethodName := ⟨RX5, "readsBands", "(LAirIndex$Office;)Z"⟩
abbrev cX5_readsShare : ByteArray := prog_7_method_4_code
def yX5_readsShare : MethodName := ⟨RX5, "readsShare", "(LAirIndex$Office;)Z"⟩
abbrev cX5_readsSubstances : ByteArray := prog_7_method_5_code
def yX5_readsSubstances : MethodName := ⟨RX5, "readsSubstances", "(LAirIndex$Office;)Z"⟩
abbrev cX5_readsSubstance : ByteArray := prog_7_method_6_code
def yX5_readsSubstance : MethodName := ⟨RX5, "readsSubstance", "(LAirIndex$Office;)Z"⟩
abbrev cX5_readsPoints : ByteArray := prog_7_method_7_code
def yX5_readsPoints : MethodName := ⟨RX5, "readsPoints", "(LAirIndex$Substance;)Z"⟩
abbrev cX5_readsStations : ByteArray := prog_7_method_8_code
def yX5_readsStations : MethodName := ⟨RX5, "readsStations", "(LAirIndex$Office;)Z"⟩
abbrev cX5_readsAllSeries : ByteArray := prog_7_method_9_code
def yX5_readsAllSeries : MethodName := ⟨RX5, "readsAllSeries", "(LAirIndex$Office;)Z"⟩
abbrev cX5_readsSeries : ByteArray := prog_7_method_10_code
def yX5_readsSeries : MethodName := ⟨RX5, "readsSeries", "(LAirIndex$Office;)Z"⟩
abbrev cX5_readsReads : ByteArray := prog_7_method_11_code
def yX5_readsReads : MethodName := ⟨RX5, "readsReads", "(LAirIndex$Office;II)Z"⟩
abbrev cX5_isRead : ByteArray := prog_7_method_12_code
def yX5_isRead : MethodName := ⟨RX5, "isRead", "()Z"⟩
abbrev cX5_takesWord : ByteArray := prog_7_method_13_code
def yX5_takesWord : MethodName := ⟨RX5, "takesWord", "(Ljava/lang/String;)Z"⟩
abbrev cX5_takesNumber : ByteArray := prog_7_method_14_code
def yX5_takesNumber : MethodName := ⟨RX5, "takesNumber", "(II)Z"⟩
abbrev cX5_isNumberWithin : ByteArray := prog_7_method_15_code
def yX5_isNumberWithin : MethodName := ⟨RX5, "isNumberWithin", "(II)Z"⟩
abbrev cX5_takesSemicolon : ByteArray := prog_7_method_16_code
def yX5_takesSemicolon : MethodName := ⟨RX5, "takesSemicolon", "()Z"⟩
abbrev cX5_refuses : ByteArray := prog_7_method_17_code
def yX5_refuses : MethodName := ⟨RX5, "refuses", "(I)Z"⟩
def RX6 : String := "AirIndex$Token"
def TX6 : u_T := fun k => match k with
  | 0 => ("AirIndex$Token", "tape", "LAirIndex$Tape;", true)
  | 1 => ("AirIndex$Token", "kind", "I", false)
  | 2 => ("AirIndex$Token", "start", "I", false)
  | 3 => ("AirIndex$Token", "behind", "I", false)
  | _ => ("AirIndex$Token", "number", "I", false)
def tyX6 : Nat → FieldType := fun k => match k with
  | 0 => .object "AirIndex$Tape"
  | 1 => .int
  | 2 => .int
  | 3 => .int
  | _ => .int
abbrev wsX60 : List Cond := u_ws RX6 TX6 5
theorem nmX6 : ∀ a, a < 5 → ∀ b, b < 5 → a ≠ b → (TX6 a).2.1 ≠ (TX6 b).2.1 := by decide +kernel
theorem tyX6_ok : ∀ k, k < 5 → parseFieldDescriptor (TX6 k).2.2.1 = some (tyX6 k) := by decide +kernel
abbrev cX6_init : ByteArray := prog_8_method_1_code
def yX6_init : MethodName := ⟨RX6, "<init>", "(LAirIndex$Tape;)V"⟩
abbrev cX6_moveToFirst : ByteArray := prog_8_method_2_code
def yX6_moveToFirst : MethodName := ⟨RX6, "moveToFirst", "()V"⟩
abbrev cX6_moveToNext : ByteArray := prog_8_method_3_code
def yX6_moveToNext : MethodName := ⟨RX6, "moveToNext", "()V"⟩
abbrev cX6_isWord : ByteArray := prog_8_method_4_code
def yX6_isWord : MethodName := ⟨RX6, "isWord", "(Ljava/lang/String;)Z"⟩
abbrev cX6_skipBlanks : ByteArray := prog_8_method_5_code
def yX6_skipBlanks : MethodName := ⟨RX6, "skipBlanks", "()V"⟩
abbrev cX6_scanRun : ByteArray := prog_8_method_6_code
def yX6_scanRun : MethodName := ⟨RX6, "scanRun", "()V"⟩
def RX7 : String := "AirIndex"
def TX7 : u_T := fun k => match k with
  | 0 => ("AirIndex", "tape", "LAirIndex$Tape;", true)
  | 1 => ("AirIndex", "reader", "LAirIndex$TextReader;", true)
  | 2 => ("AirIndex", "history", "LAirIndex$History;", true)
  | 3 => ("AirIndex", "office", "LAirIndex$Office;", false)
  | _ => ("AirIndex", "draft", "LAirIndex$Office;", false)
def tyX7 : Nat → FieldType := fun k => match k with
  | 0 => .object "AirIndex$Tape"
  | 1 => .object "AirIndex$TextReader"
  | 2 => .object "AirIndex$History"
  | 3 => .object "AirIndex$Office"
  | _ => .object "AirIndex$Office"
abbrev wsX70 : List Cond := u_ws RX7 TX7 5
theorem nmX7 : ∀ a, a < 5 → ∀ b, b < 5 → a ≠ b → (TX7 a).2.1 ≠ (TX7 b).2.1 := by decide +kernel
theorem tyX7_ok : ∀ k, k < 5 → parseFieldDescriptor (TX7 k).2.2.1 = some (tyX7 k) := by decide +kernel
abbrev cX7_init : ByteArray := prog_1_method_1_code
def yX7_init : MethodName := ⟨RX7, "<init>", "()V"⟩
abbrev cX7_feed : ByteArray := prog_1_method_2_code
def yX7_feed : MethodName := ⟨RX7, "feed", "(IIIII)I"⟩
abbrev cX7_end : ByteArray := prog_1_method_3_code
def yX7_end : MethodName := ⟨RX7, "end", "(I)Z"⟩
abbrev cX7_text : ByteArray := prog_1_method_4_code
def yX7_text : MethodName := ⟨RX7, "text", "()I"⟩
abbrev cX7_fault : ByteArray := prog_1_method_5_code
def yX7_fault : MethodName := ⟨RX7, "fault", "()I"⟩
abbrev cX7_now : ByteArray := prog_1_method_6_code
def yX7_now : MethodName := ⟨RX7, "now", "(I)I"⟩
abbrev cX7_read : ByteArray := prog_1_method_7_code
def yX7_read : MethodName := ⟨RX7, "read", "(III)I"⟩
abbrev cX7_mean : ByteArray := prog_1_method_8_code
def yX7_mean : MethodName := ⟨RX7, "mean", "(III)I"⟩
abbrev cX7_scale : ByteArray := prog_1_method_9_code
def yX7_scale : MethodName := ⟨RX7, "scale", "(II)I"⟩
abbrev cX7_back : ByteArray := prog_1_method_10_code
def yX7_back : MethodName := ⟨RX7, "back", "(II)I"⟩
abbrev cX7_sub : ByteArray := prog_1_method_11_code
def yX7_sub : MethodName := ⟨RX7, "sub", "(III)I"⟩
abbrev cX7_index : ByteArray := prog_1_method_12_code
def yX7_index : MethodName := ⟨RX7, "index", "(III)I"⟩
abbrev cX7_district : ByteArray := prog_1_method_13_code
def yX7_district : MethodName := ⟨RX7, "district", "(III)I"⟩
abbrev cX7_lasts : ByteArray := prog_1_method_14_code
def yX7_lasts : MethodName := ⟨RX7, "lasts", "(III)I"⟩
abbrev cX7_worst : ByteArray := prog_1_method_15_code
def yX7_worst : MethodName := ⟨RX7, "worst", "(III)I"⟩
abbrev cX7_forecast : ByteArray := prog_1_method_16_code
def yX7_forecast : MethodName := ⟨RX7, "forecast", "(III)I"⟩
abbrev cX7_keeps : ByteArray := prog_1_method_17_code
def yX7_keeps : MethodName := ⟨RX7, "keeps", "(III)I"⟩
abbrev cX7_touches : ByteArray := prog_1_method_18_code
def yX7_touches : MethodName := ⟨RX7, "touches", "(IIII)I"⟩
abbrev cX7_correct : ByteArray := prog_1_method_19_code
def yX7_correct : MethodName := ⟨RX7, "correct", "(IIII)I"⟩
abbrev cX7_pass : ByteArray := prog_1_method_20_code
def yX7_pass : MethodName := ⟨RX7, "pass", "(I)I"⟩
abbrev cX7_smooth : ByteArray := prog_1_method_21_code
def yX7_smooth : MethodName := ⟨RX7, "smooth", "(I)I"⟩
abbrev cX7_window : ByteArray := prog_1_method_22_code
def yX7_window : MethodName := ⟨RX7, "window", "(III)Z"⟩
abbrev cX7_undo : ByteArray := prog_1_method_23_code
def yX7_undo : MethodName := ⟨RX7, "undo", "()I"⟩
abbrev cX7_takeBack : ByteArray := prog_1_method_24_code
def yX7_takeBack : MethodName := ⟨RX7, "takeBack", "(LAirIndex$Act;)V"⟩
abbrev cX7_canCorrect : ByteArray := prog_1_method_25_code
def yX7_canCorrect : MethodName := ⟨RX7, "canCorrect", "(IIII)Z"⟩
abbrev cX7_touchedHours : ByteArray := prog_1_method_26_code
def yX7_touchedHours : MethodName := ⟨RX7, "touchedHours", "(IIII)I"⟩
def RX8 : String := "AirIndexModel"
def TX8 : u_T := fun k => match k with
  | 0 => ("AirIndexModel", "thrown", "I", false)
  | 1 => ("AirIndexModel", "tape", "[I", true)
  | 2 => ("AirIndexModel", "taped", "I", false)
  | 3 => ("AirIndexModel", "size", "I", false)
  | 4 => ("AirIndexModel", "to", "I", false)
  | 5 => ("AirIndexModel", "from", "I", false)
  | 6 => ("AirIndexModel", "sort", "I", false)
  | 7 => ("AirIndexModel", "number", "I", false)
  | 8 => ("AirIndexModel", "fault", "I", false)
  | 9 => ("AirIndexModel", "place", "I", false)
  | 10 => ("AirIndexModel", "word", "J", false)
  | 11 => ("AirIndexModel", "now", "[I", true)
  | 12 => ("AirIndexModel", "read", "[I", true)
  | 13 => ("AirIndexModel", "snaps", "[I", true)
  | 14 => ("AirIndexModel", "snapMany", "I", false)
  | 15 => ("AirIndexModel", "told", "I", false)
  | 16 => ("AirIndexModel", "lines", "I", false)
  | _ => ("AirIndexModel", "before", "[I", true)
def tyX8 : Nat → FieldType := fun k => match k with
  | 0 => .int
  | 1 => .array .int
  | 2 => .int
  | 3 => .int
  | 4 => .int
  | 5 => .int
  | 6 => .int
  | 7 => .int
  | 8 => .int
  | 9 => .int
  | 10 => .long
  | 11 => .array .int
  | 12 => .array .int
  | 13 => .array .int
  | 14 => .int
  | 15 => .int
  | 16 => .int
  | _ => .array .int
abbrev wsX80 : List Cond := u_ws RX8 TX8 18
theorem nmX8 : ∀ a, a < 18 → ∀ b, b < 18 → a ≠ b → (TX8 a).2.1 ≠ (TX8 b).2.1 := by decide +kernel
theorem tyX8_ok : ∀ k, k < 18 → parseFieldDescriptor (TX8 k).2.2.1 = some (tyX8 k) := by decide +kernel
abbrev cX8_isIn : ByteArray := prog_10_method_2_code
def yX8_isIn : MethodName := ⟨RX8, "isIn", "(III)Z"⟩
abbrev cX8_lays : ByteArray := prog_10_method_3_code
def yX8_lays : MethodName := ⟨RX8, "lays", "(I)V"⟩
abbrev cX8_feed : ByteArray := prog_10_method_4_code
def yX8_feed : MethodName := ⟨RX8, "feed", "(IIIII)I"⟩
abbrev cX8_end : ByteArray := prog_10_method_5_code
def yX8_end : MethodName := ⟨RX8, "end", "(I)Z"⟩
abbrev cX8_tapeAt : ByteArray := prog_10_method_6_code
def yX8_tapeAt : MethodName := ⟨RX8, "tapeAt", "(I)I"⟩
abbrev cX8_isDigit : ByteArray := prog_10_method_7_code
def yX8_isDigit : MethodName := ⟨RX8, "isDigit", "(I)Z"⟩
abbrev cX8_isLetter : ByteArray := prog_10_method_8_code
def yX8_isLetter : MethodName := ⟨RX8, "isLetter", "(I)Z"⟩
abbrev cX8_go : ByteArray := prog_10_method_9_code
def yX8_go : MethodName := ⟨RX8, "go", "()V"⟩
abbrev cX8_two : ByteArray := prog_10_method_10_code
def yX8_two : MethodName := ⟨RX8, "two", "(II)J"⟩
abbrev cX8_four : ByteArray := prog_10_method_11_code
def yX8_four : MethodName := ⟨RX8, "four", "(IIII)J"⟩
abbrev cX8_six : ByteArray := prog_10_method_12_code
def yX8_six : MethodName := ⟨RX8, "six", "(IIIIII)J"⟩
abbrev cX8_isWord : ByteArray := prog_10_method_13_code
def yX8_isWord : MethodName := ⟨RX8, "isWord", "(J)Z"⟩
abbrev cX8_bad : ByteArray := prog_10_method_14_code
def yX8_bad : MethodName := ⟨RX8, "bad", "(I)Z"⟩
abbrev cX8_init : ByteArray := prog_10_method_15_code
def yX8_init : MethodName := ⟨RX8, "<init>", "()V"⟩
abbrev cX8_told : ByteArray := prog_10_method_16_code
def yX8_told : MethodName := ⟨RX8, "told", "(III)Z"⟩
abbrev cX8_readEnd : ByteArray := prog_10_method_17_code
def yX8_readEnd : MethodName := ⟨RX8, "readEnd", "()Z"⟩
abbrev cX8_readBands : ByteArray := prog_10_method_18_code
def yX8_readBands : MethodName := ⟨RX8, "readBands", "()Z"⟩
abbrev cX8_isSubstance : ByteArray := prog_10_method_19_code
def yX8_isSubstance : MethodName := ⟨RX8, "isSubstance", "()Z"⟩
abbrev cX8_isStationWord : ByteArray := prog_10_method_20_code
def yX8_isStationWord : MethodName := ⟨RX8, "isStationWord", "()Z"⟩
abbrev cX8_readPoint : ByteArray := prog_10_method_21_code
def yX8_readPoint : MethodName := ⟨RX8, "readPoint", "(I)Z"⟩
abbrev cX8_readSubstance : ByteArray := prog_10_method_22_code
def yX8_readSubstance : MethodName := ⟨RX8, "readSubstance", "()Z"⟩
abbrev cX8_readStation : ByteArray := prog_10_method_23_code
def yX8_readStation : MethodName := ⟨RX8, "readStation", "()Z"⟩
abbrev cX8_at : ByteArray := prog_10_method_24_code
def yX8_at : MethodName := ⟨RX8, "at", "(III)I"⟩
abbrev cX8_readSeries : ByteArray := prog_10_method_25_code
def yX8_readSeries : MethodName := ⟨RX8, "readSeries", "()Z"⟩
abbrev cX8_readWhole : ByteArray := prog_10_method_26_code
def yX8_readWhole : MethodName := ⟨RX8, "readWhole", "()Z"⟩
abbrev cX8_text : ByteArray := prog_10_method_27_code
def yX8_text : MethodName := ⟨RX8, "text", "()I"⟩
abbrev cX8_fault : ByteArray := prog_10_method_28_code
def yX8_fault : MethodName := ⟨RX8, "fault", "()I"⟩
abbrev cX8_isStation : ByteArray := prog_10_method_29_code
def yX8_isStation : MethodName := ⟨RX8, "isStation", "(I)Z"⟩
abbrev cX8_isSubstance_ : ByteArray := prog_10_method_30_code
def yX8_isSubstance_ : MethodName := ⟨RX8, "isSubstance", "(I)Z"⟩
abbrev cX8_isHour : ByteArray := prog_10_method_31_code
def yX8_isHour : MethodName := ⟨RX8, "isHour", "(I)Z"⟩
abbrev cX8_are : ByteArray := prog_10_method_32_code
def yX8_are : MethodName := ⟨RX8, "are", "(III)Z"⟩
abbrev cX8_its : ByteArray := prog_10_method_33_code
def yX8_its : MethodName := ⟨RX8, "its", "(II)I"⟩
abbrev cX8_readOf : ByteArray := prog_10_method_34_code
def yX8_readOf : MethodName := ⟨RX8, "readOf", "(III)I"⟩
abbrev cX8_meanOf : ByteArray := prog_10_method_35_code
def yX8_meanOf : MethodName := ⟨RX8, "meanOf", "(III)I"⟩
abbrev cX8_scaleOf : ByteArray := prog_10_method_36_code
def yX8_scaleOf : MethodName := ⟨RX8, "scaleOf", "(II)I"⟩
abbrev cX8_subOf : ByteArray := prog_10_method_37_code
def yX8_subOf : MethodName := ⟨RX8, "subOf", "(III)I"⟩
abbrev cX8_rulingOf : ByteArray := prog_10_method_38_code
def yX8_rulingOf : MethodName := ⟨RX8, "rulingOf", "(II)I"⟩
abbrev cX8_indexOf : ByteArray := prog_10_method_39_code
def yX8_indexOf : MethodName := ⟨RX8, "indexOf", "(II)I"⟩
abbrev cX8_bandOf : ByteArray := prog_10_method_40_code
def yX8_bandOf : MethodName := ⟨RX8, "bandOf", "(I)I"⟩
abbrev cX8_readMany : ByteArray := prog_10_method_41_code
def yX8_readMany : MethodName := ⟨RX8, "readMany", "()I"⟩
abbrev cX8_now : ByteArray := prog_10_method_42_code
def yX8_now : MethodName := ⟨RX8, "now", "(I)I"⟩
abbrev cX8_read : ByteArray := prog_10_method_43_code
def yX8_read : MethodName := ⟨RX8, "read", "(III)I"⟩
abbrev cX8_mean : ByteArray := prog_10_method_44_code
def yX8_mean : MethodName := ⟨RX8, "mean", "(III)I"⟩
abbrev cX8_scale : ByteArray := prog_10_method_45_code
def yX8_scale : MethodName := ⟨RX8, "scale", "(II)I"⟩
abbrev cX8_back : ByteArray := prog_10_method_46_code
def yX8_back : MethodName := ⟨RX8, "back", "(II)I"⟩
abbrev cX8_sub : ByteArray := prog_10_method_47_code
def yX8_sub : MethodName := ⟨RX8, "sub", "(III)I"⟩
abbrev cX8_index : ByteArray := prog_10_method_48_code
def yX8_index : MethodName := ⟨RX8, "index", "(III)I"⟩
abbrev cX8_district : ByteArray := prog_10_method_49_code
def yX8_district : MethodName := ⟨RX8, "district", "(III)I"⟩
abbrev cX8_lasts : ByteArray := prog_10_method_50_code
def yX8_lasts : MethodName := ⟨RX8, "lasts", "(III)I"⟩
abbrev cX8_worst : ByteArray := prog_10_method_51_code
def yX8_worst : MethodName := ⟨RX8, "worst", "(III)I"⟩
abbrev cX8_forecast : ByteArray := prog_10_method_52_code
def yX8_forecast : MethodName := ⟨RX8, "forecast", "(III)I"⟩
abbrev cX8_keeps : ByteArray := prog_10_method_53_code
def yX8_keeps : MethodName := ⟨RX8, "keeps", "(III)I"⟩
abbrev cX8_canCorrect : ByteArray := prog_10_method_54_code
def yX8_canCorrect : MethodName := ⟨RX8, "canCorrect", "(IIII)Z"⟩
abbrev cX8_corrects : ByteArray := prog_10_method_55_code
def yX8_corrects : MethodName := ⟨RX8, "corrects", "(IIII)I"⟩
abbrev cX8_touches : ByteArray := prog_10_method_56_code
def yX8_touches : MethodName := ⟨RX8, "touches", "(IIII)I"⟩
abbrev cX8_snap : ByteArray := prog_10_method_57_code
def yX8_snap : MethodName := ⟨RX8, "snap", "()V"⟩
abbrev cX8_correct : ByteArray := prog_10_method_58_code
def yX8_correct : MethodName := ⟨RX8, "correct", "(IIII)I"⟩
abbrev cX8_pass : ByteArray := prog_10_method_59_code
def yX8_pass : MethodName := ⟨RX8, "pass", "(I)I"⟩
abbrev cX8_smooth : ByteArray := prog_10_method_60_code
def yX8_smooth : MethodName := ⟨RX8, "smooth", "(I)I"⟩
abbrev cX8_window : ByteArray := prog_10_method_61_code
def yX8_window : MethodName := ⟨RX8, "window", "(III)Z"⟩
abbrev cX8_undo : ByteArray := prog_10_method_62_code
def yX8_undo : MethodName := ⟨RX8, "undo", "()I"⟩
def RJ6 : String := "java/lang/Integer"
def TJ6 : u_T := fun k => match k with
  | _ => ("", "", "", false)
def tyJ6 : Nat → FieldType := fun k => match k with
  | _ => .int
abbrev wsJ60 : List Cond := u_ws RJ6 TJ6 0
theorem nmJ6 : ∀ a, a < 0 → ∀ b, b < 0 → a ≠ b → (TJ6 a).2.1 ≠ (TJ6 b).2.1 := by decide +kernel
theorem tyJ6_ok : ∀ k, k < 0 → parseFieldDescriptor (TJ6 k).2.2.1 = some (tyJ6 k) := by decide +kernel
abbrev cJ6_bitCount_0f7a4 : ByteArray := prog_11_method_49_code
def yJ6_bitCount_0f7a4 : MethodName := ⟨RJ6, "bitCount", "(I)I"⟩
def RJ9 : String := "java/lang/Math"
def TJ9 : u_T := fun k => match k with
  | _ => ("", "", "", false)
def tyJ9 : Nat → FieldType := fun k => match k with
  | _ => .int
abbrev wsJ90 : List Cond := u_ws RJ9 TJ9 0
theorem nmJ9 : ∀ a, a < 0 → ∀ b, b < 0 → a ≠ b → (TJ9 a).2.1 ≠ (TJ9 b).2.1 := by decide +kernel
theorem tyJ9_ok : ∀ k, k < 0 → parseFieldDescriptor (TJ9 k).2.2.1 = some (tyJ9 k) := by decide +kernel
abbrev cJ9_max_7cf53 : ByteArray := prog_12_method_65_code
def yJ9_max_7cf53 : MethodName := ⟨RJ9, "max", "(II)I"⟩
abbrev cJ9_min_7cf53 : ByteArray := prog_12_method_69_code
def yJ9_min_7cf53 : MethodName := ⟨RJ9, "min", "(II)I"⟩
def RJ0 : String := "java/lang/String"
def TJ0 : u_T := fun k => match k with
  | _ => ("", "", "", false)
def tyJ0 : Nat → FieldType := fun k => match k with
  | _ => .int
abbrev wsJ00 : List Cond := u_ws RJ0 TJ0 0
theorem nmJ0 : ∀ a, a < 0 → ∀ b, b < 0 → a ≠ b → (TJ0 a).2.1 ≠ (TJ0 b).2.1 := by decide +kernel
theorem tyJ0_ok : ∀ k, k < 0 → parseFieldDescriptor (TJ0 k).2.2.1 = some (tyJ0 k) := by decide +kernel
abbrev cJ0_length_8abf5 : ByteArray := prog_13_method_54_code
def yJ0_length_8abf5 : MethodName := ⟨RJ0, "length", "()I"⟩
abbrev cJ0_charAt_5068e : ByteArray := prog_13_method_56_code
def yJ0_charAt_5068e : MethodName := ⟨RJ0, "charAt", "(I)C"⟩
abbrev cJ0_coder_7d493 : ByteArray := prog_13_method_152_code
def yJ0_coder_7d493 : MethodName := ⟨RJ0, "coder", "()B"⟩
abbrev cJ0_isLatin1_aae02 : ByteArray := prog_13_method_154_code
def yJ0_isLatin1_aae02 : MethodName := ⟨RJ0, "isLatin1", "()Z"⟩
abbrev cJ0_checkIndex_df160 : ByteArray := prog_13_method_155_code
def yJ0_checkIndex_df160 : MethodName := ⟨RJ0, "checkIndex", "(II)V"⟩
def RJ1 : String := "java/lang/StringLatin1"
def TJ1 : u_T := fun k => match k with
  | _ => ("", "", "", false)
def tyJ1 : Nat → FieldType := fun k => match k with
  | _ => .int
abbrev wsJ10 : List Cond := u_ws RJ1 TJ1 0
theorem nmJ1 : ∀ a, a < 0 → ∀ b, b < 0 → a ≠ b → (TJ1 a).2.1 ≠ (TJ1 b).2.1 := by decide +kernel
theorem tyJ1_ok : ∀ k, k < 0 → parseFieldDescriptor (TJ1 k).2.2.1 = some (tyJ1 k) := by decide +kernel
abbrev cJ1_charAt_3b067 : ByteArray := prog_14_method_2_code
def yJ1_charAt_3b067 : MethodName := ⟨RJ1, "charAt", "([BI)C"⟩
def RJ2 : String := "java/lang/StringUTF16"
def TJ2 : u_T := fun k => match k with
  | _ => ("", "", "", false)
def tyJ2 : Nat → FieldType := fun k => match k with
  | _ => .int
abbrev wsJ20 : List Cond := u_ws RJ2 TJ2 0
theorem nmJ2 : ∀ a, a < 0 → ∀ b, b < 0 → a ≠ b → (TJ2 a).2.1 ≠ (TJ2 b).2.1 := by decide +kernel
theorem tyJ2_ok : ∀ k, k < 0 → parseFieldDescriptor (TJ2 k).2.2.1 = some (tyJ2 k) := by decide +kernel
abbrev cJ2_getChar_3b067 : ByteArray := prog_15_method_5_code
def yJ2_getChar_3b067 : MethodName := ⟨RJ2, "getChar", "([BI)C"⟩
abbrev cJ2_length_9d52b : ByteArray := prog_15_method_6_code
def yJ2_length_9d52b : MethodName := ⟨RJ2, "length", "([B)I"⟩
abbrev cJ2_charAt_3b067 : ByteArray := prog_15_method_83_code
def yJ2_charAt_3b067 : MethodName := ⟨RJ2, "charAt", "([BI)C"⟩
abbrev cJ2_checkIndex_2214a : ByteArray := prog_15_method_91_code
def yJ2_checkIndex_2214a : MethodName := ⟨RJ2, "checkIndex", "(I[B)V"⟩
def RJ3 : String := "jdk/internal/util/Preconditions"
def TJ3 : u_T := fun k => match k with
  | _ => ("", "", "", false)
def tyJ3 : Nat → FieldType := fun k => match k with
  | _ => .int
abbrev wsJ30 : List Cond := u_ws RJ3 TJ3 0
theorem nmJ3 : ∀ a, a < 0 → ∀ b, b < 0 → a ≠ b → (TJ3 a).2.1 ≠ (TJ3 b).2.1 := by decide +kernel
theorem tyJ3_ok : ∀ k, k < 0 → parseFieldDescriptor (TJ3 k).2.2.1 = some (tyJ3 k) := by decide +kernel
abbrev cJ3_checkIndex_8e157 : ByteArray := prog_16_method_11_code
def yJ3_checkIndex_8e157 : MethodName := ⟨RJ3, "checkIndex", "(IILjava/util/function/BiFunction;)I"⟩
def RL : String := "AirIndexLaw"
abbrev cL_law : ByteArray := code
def yL_law : MethodName := ⟨RL, "law", "([I)Z"⟩
abbrev vwCl : List vw_C := [(RX0, TX0, 6), (RX1, TX1, 2), (RX2, TX2, 8), (RX3, TX3, 5), (RX4, TX4, 2), (RX5, TX5, 6), (RX6, TX6, 5), (RX7, TX7, 5), (RX8, TX8, 18)]
