-- ===== PART A: goes FIRST, ahead of the names: the tables' words, and 'selects' of the private methods out of them =====
/-- a private method of a class that the tables say can be made, by its rows of tables_1 -/
def lw_okq (q : MethodName × Nat) : Prop := (q.1.cls ≠ "java/lang/invoke/MethodHandle" ∧ q.1.cls ≠ "java/lang/invoke/VarHandle") ∧ Cond.instantiable q.1.cls q.2 ∈ tables_1 ∧ Cond.privateMethod q.1 ∈ tables_1 ∧ Cond.instanceMethod q.1 ∈ tables_1
theorem lw_p0 : lw_okq (⟨"PileMaps$Reader", "readEntry", "()Z"⟩, 5) := ⟨⟨by decide +kernel, by decide +kernel⟩, List.mem_of_getElem? (i := 101) (by decide +kernel), List.mem_of_getElem? (i := 180) (by decide +kernel), List.mem_of_getElem? (i := 181) (by decide +kernel)⟩
theorem lw_p1 : lw_okq (⟨"PileMaps$Text", "takeBetween", "(CC)I"⟩, 3) := ⟨⟨by decide +kernel, by decide +kernel⟩, List.mem_of_getElem? (i := 107) (by decide +kernel), List.mem_of_getElem? (i := 188) (by decide +kernel), List.mem_of_getElem? (i := 189) (by decide +kernel)⟩
theorem lw_p2 : lw_okq (⟨"PileMaps", "record", "()V"⟩, 7) := ⟨⟨by decide +kernel, by decide +kernel⟩, List.mem_of_getElem? (i := 14) (by decide +kernel), List.mem_of_getElem? (i := 204) (by decide +kernel), List.mem_of_getElem? (i := 205) (by decide +kernel)⟩
theorem lw_p3 : lw_okq (⟨"PileMaps", "dropOldest", "()V"⟩, 7) := ⟨⟨by decide +kernel, by decide +kernel⟩, List.mem_of_getElem? (i := 14) (by decide +kernel), List.mem_of_getElem? (i := 208) (by decide +kernel), List.mem_of_getElem? (i := 209) (by decide +kernel)⟩
theorem lw_p4 : lw_okq (⟨"PileMaps", "isLayer", "(II)Z"⟩, 7) := ⟨⟨by decide +kernel, by decide +kernel⟩, List.mem_of_getElem? (i := 14) (by decide +kernel), List.mem_of_getElem? (i := 259) (by decide +kernel), List.mem_of_getElem? (i := 260) (by decide +kernel)⟩
theorem lw_p5 : lw_okq (⟨"PileMaps$Pile", "swapWithNext", "(I)V"⟩, 4) := ⟨⟨by decide +kernel, by decide +kernel⟩, List.mem_of_getElem? (i := 29) (by decide +kernel), List.mem_of_getElem? (i := 272) (by decide +kernel), List.mem_of_getElem? (i := 273) (by decide +kernel)⟩
theorem lw_p6 : lw_okq (⟨"PileMaps$Reader", "readExpression", "(LPileMaps$State;[II)Z"⟩, 5) := ⟨⟨by decide +kernel, by decide +kernel⟩, List.mem_of_getElem? (i := 101) (by decide +kernel), List.mem_of_getElem? (i := 309) (by decide +kernel), List.mem_of_getElem? (i := 310) (by decide +kernel)⟩
theorem lw_p7 : lw_okq (⟨"PileMaps$Reader", "readFactor", "(LPileMaps$State;[II)Z"⟩, 5) := ⟨⟨by decide +kernel, by decide +kernel⟩, List.mem_of_getElem? (i := 101) (by decide +kernel), List.mem_of_getElem? (i := 313) (by decide +kernel), List.mem_of_getElem? (i := 314) (by decide +kernel)⟩
theorem lw_p8 : lw_okq (⟨"PileMaps$Reader", "readSigns", "(I[I)Z"⟩, 5) := ⟨⟨by decide +kernel, by decide +kernel⟩, List.mem_of_getElem? (i := 101) (by decide +kernel), List.mem_of_getElem? (i := 319) (by decide +kernel), List.mem_of_getElem? (i := 320) (by decide +kernel)⟩
theorem lw_p9 : lw_okq (⟨"PileMaps", "collectDifferences", "(I)I"⟩, 7) := ⟨⟨by decide +kernel, by decide +kernel⟩, List.mem_of_getElem? (i := 14) (by decide +kernel), List.mem_of_getElem? (i := 518) (by decide +kernel), List.mem_of_getElem? (i := 519) (by decide +kernel)⟩
theorem lw_p10 : lw_okq (⟨"PileMaps", "leastSetOfSize", "(II)I"⟩, 7) := ⟨⟨by decide +kernel, by decide +kernel⟩, List.mem_of_getElem? (i := 14) (by decide +kernel), List.mem_of_getElem? (i := 522) (by decide +kernel), List.mem_of_getElem? (i := 523) (by decide +kernel)⟩
theorem lw_p11 : lw_okq (⟨"PileMaps", "tellsApart", "(II)Z"⟩, 7) := ⟨⟨by decide +kernel, by decide +kernel⟩, List.mem_of_getElem? (i := 14) (by decide +kernel), List.mem_of_getElem? (i := 527) (by decide +kernel), List.mem_of_getElem? (i := 528) (by decide +kernel)⟩
theorem lw_p12 : lw_okq (⟨"PileMaps$Secret", "isBetter", "(II)Z"⟩, 4) := ⟨⟨by decide +kernel, by decide +kernel⟩, List.mem_of_getElem? (i := 63) (by decide +kernel), List.mem_of_getElem? (i := 555) (by decide +kernel), List.mem_of_getElem? (i := 556) (by decide +kernel)⟩
theorem lw_p13 : lw_okq (⟨"PileMaps$Secret", "alikeUpTo", "(III)I"⟩, 4) := ⟨⟨by decide +kernel, by decide +kernel⟩, List.mem_of_getElem? (i := 63) (by decide +kernel), List.mem_of_getElem? (i := 563) (by decide +kernel), List.mem_of_getElem? (i := 564) (by decide +kernel)⟩
theorem lw_p14 : lw_okq (⟨"PileMaps$State", "repeatsLowerMap", "(I)Z"⟩, 3) := ⟨⟨by decide +kernel, by decide +kernel⟩, List.mem_of_getElem? (i := 22) (by decide +kernel), List.mem_of_getElem? (i := 599) (by decide +kernel), List.mem_of_getElem? (i := 600) (by decide +kernel)⟩
theorem lw_p15 : lw_okq (⟨"PileMapsModel", "isLayerText", "()Z"⟩, 20) := ⟨⟨by decide +kernel, by decide +kernel⟩, List.mem_of_getElem? (i := 604) (by decide +kernel), List.mem_of_getElem? (i := 681) (by decide +kernel), List.mem_of_getElem? (i := 682) (by decide +kernel)⟩
def lw_privs_1 : List (MethodName × Nat) := [(⟨"PileMaps$Reader", "readEntry", "()Z"⟩, 5), (⟨"PileMaps$Text", "takeBetween", "(CC)I"⟩, 3), (⟨"PileMaps", "record", "()V"⟩, 7), (⟨"PileMaps", "dropOldest", "()V"⟩, 7), (⟨"PileMaps", "isLayer", "(II)Z"⟩, 7), (⟨"PileMaps$Pile", "swapWithNext", "(I)V"⟩, 4), (⟨"PileMaps$Reader", "readExpression", "(LPileMaps$State;[II)Z"⟩, 5), (⟨"PileMaps$Reader", "readFactor", "(LPileMaps$State;[II)Z"⟩, 5), (⟨"PileMaps$Reader", "readSigns", "(I[I)Z"⟩, 5), (⟨"PileMaps", "collectDifferences", "(I)I"⟩, 7), (⟨"PileMaps", "leastSetOfSize", "(II)I"⟩, 7), (⟨"PileMaps", "tellsApart", "(II)Z"⟩, 7), (⟨"PileMaps$Secret", "isBetter", "(II)Z"⟩, 4), (⟨"PileMaps$Secret", "alikeUpTo", "(III)I"⟩, 4), (⟨"PileMaps$State", "repeatsLowerMap", "(I)Z"⟩, 3), (⟨"PileMapsModel", "isLayerText", "()Z"⟩, 20)]
theorem lw_r1 : ∀ q ∈ lw_privs_1, lw_okq q := List.forall_mem_cons.mpr ⟨lw_p0, List.forall_mem_cons.mpr ⟨lw_p1, List.forall_mem_cons.mpr ⟨lw_p2, List.forall_mem_cons.mpr ⟨lw_p3, List.forall_mem_cons.mpr ⟨lw_p4, List.forall_mem_cons.mpr ⟨lw_p5, List.forall_mem_cons.mpr ⟨lw_p6, List.forall_mem_cons.mpr ⟨lw_p7, List.forall_mem_cons.mpr ⟨lw_p8, List.forall_mem_cons.mpr ⟨lw_p9, List.forall_mem_cons.mpr ⟨lw_p10, List.forall_mem_cons.mpr ⟨lw_p11, List.forall_mem_cons.mpr ⟨lw_p12, List.forall_mem_cons.mpr ⟨lw_p13, List.forall_mem_cons.mpr ⟨lw_p14, List.forall_mem_cons.mpr ⟨lw_p15, fun _ h => absurd h List.not_mem_nil⟩⟩⟩⟩⟩⟩⟩⟩⟩⟩⟩⟩⟩⟩⟩⟩
theorem lw_p16 : lw_okq (⟨"PileMapsModel", "takesKey", "()Z"⟩, 20) := ⟨⟨by decide +kernel, by decide +kernel⟩, List.mem_of_getElem? (i := 604) (by decide +kernel), List.mem_of_getElem? (i := 685) (by decide +kernel), List.mem_of_getElem? (i := 686) (by decide +kernel)⟩
theorem lw_p17 : lw_okq (⟨"PileMapsModel", "isBetween", "(II)Z"⟩, 20) := ⟨⟨by decide +kernel, by decide +kernel⟩, List.mem_of_getElem? (i := 604) (by decide +kernel), List.mem_of_getElem? (i := 689) (by decide +kernel), List.mem_of_getElem? (i := 690) (by decide +kernel)⟩
theorem lw_p18 : lw_okq (⟨"PileMapsModel", "takes", "(I)Z"⟩, 20) := ⟨⟨by decide +kernel, by decide +kernel⟩, List.mem_of_getElem? (i := 604) (by decide +kernel), List.mem_of_getElem? (i := 693) (by decide +kernel), List.mem_of_getElem? (i := 694) (by decide +kernel)⟩
theorem lw_p19 : lw_okq (⟨"PileMapsModel", "isSign", "(I)Z"⟩, 20) := ⟨⟨by decide +kernel, by decide +kernel⟩, List.mem_of_getElem? (i := 604) (by decide +kernel), List.mem_of_getElem? (i := 697) (by decide +kernel), List.mem_of_getElem? (i := 698) (by decide +kernel)⟩
theorem lw_p20 : lw_okq (⟨"PileMapsModel", "record", "()V"⟩, 20) := ⟨⟨by decide +kernel, by decide +kernel⟩, List.mem_of_getElem? (i := 604) (by decide +kernel), List.mem_of_getElem? (i := 701) (by decide +kernel), List.mem_of_getElem? (i := 702) (by decide +kernel)⟩
theorem lw_p21 : lw_okq (⟨"PileMapsModel", "entries", "(III)I"⟩, 20) := ⟨⟨by decide +kernel, by decide +kernel⟩, List.mem_of_getElem? (i := 604) (by decide +kernel), List.mem_of_getElem? (i := 712) (by decide +kernel), List.mem_of_getElem? (i := 713) (by decide +kernel)⟩
theorem lw_p22 : lw_okq (⟨"PileMapsModel", "isOn", "(II)Z"⟩, 20) := ⟨⟨by decide +kernel, by decide +kernel⟩, List.mem_of_getElem? (i := 604) (by decide +kernel), List.mem_of_getElem? (i := 716) (by decide +kernel), List.mem_of_getElem? (i := 717) (by decide +kernel)⟩
theorem lw_p23 : lw_okq (⟨"PileMapsModel", "teller", "(II)I"⟩, 20) := ⟨⟨by decide +kernel, by decide +kernel⟩, List.mem_of_getElem? (i := 604) (by decide +kernel), List.mem_of_getElem? (i := 720) (by decide +kernel), List.mem_of_getElem? (i := 721) (by decide +kernel)⟩
theorem lw_p24 : lw_okq (⟨"PileMapsModel", "noLayer", "(II)Z"⟩, 20) := ⟨⟨by decide +kernel, by decide +kernel⟩, List.mem_of_getElem? (i := 604) (by decide +kernel), List.mem_of_getElem? (i := 728) (by decide +kernel), List.mem_of_getElem? (i := 729) (by decide +kernel)⟩
theorem lw_p25 : lw_okq (⟨"PileMapsModel", "remembers", "(I)V"⟩, 20) := ⟨⟨by decide +kernel, by decide +kernel⟩, List.mem_of_getElem? (i := 604) (by decide +kernel), List.mem_of_getElem? (i := 732) (by decide +kernel), List.mem_of_getElem? (i := 733) (by decide +kernel)⟩
theorem lw_p26 : lw_okq (⟨"PileMapsModel", "value", "(II)I"⟩, 20) := ⟨⟨by decide +kernel, by decide +kernel⟩, List.mem_of_getElem? (i := 604) (by decide +kernel), List.mem_of_getElem? (i := 736) (by decide +kernel), List.mem_of_getElem? (i := 737) (by decide +kernel)⟩
theorem lw_p27 : lw_okq (⟨"PileMapsModel", "changed", "(I)I"⟩, 20) := ⟨⟨by decide +kernel, by decide +kernel⟩, List.mem_of_getElem? (i := 604) (by decide +kernel), List.mem_of_getElem? (i := 740) (by decide +kernel), List.mem_of_getElem? (i := 741) (by decide +kernel)⟩
theorem lw_p28 : lw_okq (⟨"PileMapsModel", "swaps", "(III)V"⟩, 20) := ⟨⟨by decide +kernel, by decide +kernel⟩, List.mem_of_getElem? (i := 604) (by decide +kernel), List.mem_of_getElem? (i := 748) (by decide +kernel), List.mem_of_getElem? (i := 749) (by decide +kernel)⟩
theorem lw_p29 : lw_okq (⟨"PileMapsModel", "becomes", "(I[I)I"⟩, 20) := ⟨⟨by decide +kernel, by decide +kernel⟩, List.mem_of_getElem? (i := 604) (by decide +kernel), List.mem_of_getElem? (i := 763) (by decide +kernel), List.mem_of_getElem? (i := 764) (by decide +kernel)⟩
theorem lw_p30 : lw_okq (⟨"PileMapsModel", "isExpressionText", "()Z"⟩, 20) := ⟨⟨by decide +kernel, by decide +kernel⟩, List.mem_of_getElem? (i := 604) (by decide +kernel), List.mem_of_getElem? (i := 771) (by decide +kernel), List.mem_of_getElem? (i := 772) (by decide +kernel)⟩
theorem lw_p31 : lw_okq (⟨"PileMapsModel", "takesLetter", "()Z"⟩, 20) := ⟨⟨by decide +kernel, by decide +kernel⟩, List.mem_of_getElem? (i := 604) (by decide +kernel), List.mem_of_getElem? (i := 775) (by decide +kernel), List.mem_of_getElem? (i := 776) (by decide +kernel)⟩
def lw_privs_2 : List (MethodName × Nat) := [(⟨"PileMapsModel", "takesKey", "()Z"⟩, 20), (⟨"PileMapsModel", "isBetween", "(II)Z"⟩, 20), (⟨"PileMapsModel", "takes", "(I)Z"⟩, 20), (⟨"PileMapsModel", "isSign", "(I)Z"⟩, 20), (⟨"PileMapsModel", "record", "()V"⟩, 20), (⟨"PileMapsModel", "entries", "(III)I"⟩, 20), (⟨"PileMapsModel", "isOn", "(II)Z"⟩, 20), (⟨"PileMapsModel", "teller", "(II)I"⟩, 20), (⟨"PileMapsModel", "noLayer", "(II)Z"⟩, 20), (⟨"PileMapsModel", "remembers", "(I)V"⟩, 20), (⟨"PileMapsModel", "value", "(II)I"⟩, 20), (⟨"PileMapsModel", "changed", "(I)I"⟩, 20), (⟨"PileMapsModel", "swaps", "(III)V"⟩, 20), (⟨"PileMapsModel", "becomes", "(I[I)I"⟩, 20), (⟨"PileMapsModel", "isExpressionText", "()Z"⟩, 20), (⟨"PileMapsModel", "takesLetter", "()Z"⟩, 20)]
theorem lw_r2 : ∀ q ∈ lw_privs_2, lw_okq q := List.forall_mem_cons.mpr ⟨lw_p16, List.forall_mem_cons.mpr ⟨lw_p17, List.forall_mem_cons.mpr ⟨lw_p18, List.forall_mem_cons.mpr ⟨lw_p19, List.forall_mem_cons.mpr ⟨lw_p20, List.forall_mem_cons.mpr ⟨lw_p21, List.forall_mem_cons.mpr ⟨lw_p22, List.forall_mem_cons.mpr ⟨lw_p23, List.forall_mem_cons.mpr ⟨lw_p24, List.forall_mem_cons.mpr ⟨lw_p25, List.forall_mem_cons.mpr ⟨lw_p26, List.forall_mem_cons.mpr ⟨lw_p27, List.forall_mem_cons.mpr ⟨lw_p28, List.forall_mem_cons.mpr ⟨lw_p29, List.forall_mem_cons.mpr ⟨lw_p30, List.forall_mem_cons.mpr ⟨lw_p31, fun _ h => absurd h List.not_mem_nil⟩⟩⟩⟩⟩⟩⟩⟩⟩⟩⟩⟩⟩⟩⟩⟩
theorem lw_p32 : lw_okq (⟨"PileMapsModel", "takesSigns", "()Z"⟩, 20) := ⟨⟨by decide +kernel, by decide +kernel⟩, List.mem_of_getElem? (i := 604) (by decide +kernel), List.mem_of_getElem? (i := 779) (by decide +kernel), List.mem_of_getElem? (i := 780) (by decide +kernel)⟩
theorem lw_p33 : lw_okq (⟨"PileMapsModel", "inverts", "()V"⟩, 20) := ⟨⟨by decide +kernel, by decide +kernel⟩, List.mem_of_getElem? (i := 604) (by decide +kernel), List.mem_of_getElem? (i := 783) (by decide +kernel), List.mem_of_getElem? (i := 784) (by decide +kernel)⟩
theorem lw_p34 : lw_okq (⟨"PileMapsModel", "settles", "()V"⟩, 20) := ⟨⟨by decide +kernel, by decide +kernel⟩, List.mem_of_getElem? (i := 604) (by decide +kernel), List.mem_of_getElem? (i := 787) (by decide +kernel), List.mem_of_getElem? (i := 788) (by decide +kernel)⟩
theorem lw_p35 : lw_okq (⟨"PileMapsModel", "repeats", "(I)V"⟩, 20) := ⟨⟨by decide +kernel, by decide +kernel⟩, List.mem_of_getElem? (i := 604) (by decide +kernel), List.mem_of_getElem? (i := 791) (by decide +kernel), List.mem_of_getElem? (i := 792) (by decide +kernel)⟩
theorem lw_p36 : lw_okq (⟨"PileMapsModel", "takesSet", "()Z"⟩, 20) := ⟨⟨by decide +kernel, by decide +kernel⟩, List.mem_of_getElem? (i := 604) (by decide +kernel), List.mem_of_getElem? (i := 795) (by decide +kernel), List.mem_of_getElem? (i := 796) (by decide +kernel)⟩
theorem lw_p37 : lw_okq (⟨"PileMapsModel", "underlies", "()V"⟩, 20) := ⟨⟨by decide +kernel, by decide +kernel⟩, List.mem_of_getElem? (i := 604) (by decide +kernel), List.mem_of_getElem? (i := 799) (by decide +kernel), List.mem_of_getElem? (i := 800) (by decide +kernel)⟩
theorem lw_p38 : lw_okq (⟨"PileMapsModel", "joins", "()V"⟩, 20) := ⟨⟨by decide +kernel, by decide +kernel⟩, List.mem_of_getElem? (i := 604) (by decide +kernel), List.mem_of_getElem? (i := 803) (by decide +kernel), List.mem_of_getElem? (i := 804) (by decide +kernel)⟩
theorem lw_p39 : lw_okq (⟨"PileMapsModel", "known", "(II)I"⟩, 20) := ⟨⟨by decide +kernel, by decide +kernel⟩, List.mem_of_getElem? (i := 604) (by decide +kernel), List.mem_of_getElem? (i := 822) (by decide +kernel), List.mem_of_getElem? (i := 823) (by decide +kernel)⟩
theorem lw_p40 : lw_okq (⟨"PileMapsModel", "layers", "()I"⟩, 20) := ⟨⟨by decide +kernel, by decide +kernel⟩, List.mem_of_getElem? (i := 604) (by decide +kernel), List.mem_of_getElem? (i := 842) (by decide +kernel), List.mem_of_getElem? (i := 843) (by decide +kernel)⟩
theorem lw_p41 : lw_okq (⟨"PileMapsModel", "onLayers", "(I)I"⟩, 20) := ⟨⟨by decide +kernel, by decide +kernel⟩, List.mem_of_getElem? (i := 604) (by decide +kernel), List.mem_of_getElem? (i := 862) (by decide +kernel), List.mem_of_getElem? (i := 863) (by decide +kernel)⟩
theorem lw_p42 : lw_okq (⟨"PileMapsModel", "set", "(II)I"⟩, 20) := ⟨⟨by decide +kernel, by decide +kernel⟩, List.mem_of_getElem? (i := 604) (by decide +kernel), List.mem_of_getElem? (i := 866) (by decide +kernel), List.mem_of_getElem? (i := 867) (by decide +kernel)⟩
theorem lw_p43 : lw_okq (⟨"PileMapsModel", "cycle", "(II)I"⟩, 20) := ⟨⟨by decide +kernel, by decide +kernel⟩, List.mem_of_getElem? (i := 604) (by decide +kernel), List.mem_of_getElem? (i := 870) (by decide +kernel), List.mem_of_getElem? (i := 871) (by decide +kernel)⟩
theorem lw_p44 : lw_okq (⟨"PileMapsModel", "returns", "(II)I"⟩, 20) := ⟨⟨by decide +kernel, by decide +kernel⟩, List.mem_of_getElem? (i := 604) (by decide +kernel), List.mem_of_getElem? (i := 874) (by decide +kernel), List.mem_of_getElem? (i := 875) (by decide +kernel)⟩
theorem lw_p45 : lw_okq (⟨"PileMapsModel", "walks", "(III)I"⟩, 20) := ⟨⟨by decide +kernel, by decide +kernel⟩, List.mem_of_getElem? (i := 604) (by decide +kernel), List.mem_of_getElem? (i := 878) (by decide +kernel), List.mem_of_getElem? (i := 879) (by decide +kernel)⟩
theorem lw_p46 : lw_okq (⟨"PileMapsModel", "shadowed", "(I)I"⟩, 20) := ⟨⟨by decide +kernel, by decide +kernel⟩, List.mem_of_getElem? (i := 604) (by decide +kernel), List.mem_of_getElem? (i := 882) (by decide +kernel), List.mem_of_getElem? (i := 883) (by decide +kernel)⟩
theorem lw_p47 : lw_okq (⟨"PileMapsModel", "longest", "(I)I"⟩, 20) := ⟨⟨by decide +kernel, by decide +kernel⟩, List.mem_of_getElem? (i := 604) (by decide +kernel), List.mem_of_getElem? (i := 886) (by decide +kernel), List.mem_of_getElem? (i := 887) (by decide +kernel)⟩
def lw_privs_3 : List (MethodName × Nat) := [(⟨"PileMapsModel", "takesSigns", "()Z"⟩, 20), (⟨"PileMapsModel", "inverts", "()V"⟩, 20), (⟨"PileMapsModel", "settles", "()V"⟩, 20), (⟨"PileMapsModel", "repeats", "(I)V"⟩, 20), (⟨"PileMapsModel", "takesSet", "()Z"⟩, 20), (⟨"PileMapsModel", "underlies", "()V"⟩, 20), (⟨"PileMapsModel", "joins", "()V"⟩, 20), (⟨"PileMapsModel", "known", "(II)I"⟩, 20), (⟨"PileMapsModel", "layers", "()I"⟩, 20), (⟨"PileMapsModel", "onLayers", "(I)I"⟩, 20), (⟨"PileMapsModel", "set", "(II)I"⟩, 20), (⟨"PileMapsModel", "cycle", "(II)I"⟩, 20), (⟨"PileMapsModel", "returns", "(II)I"⟩, 20), (⟨"PileMapsModel", "walks", "(III)I"⟩, 20), (⟨"PileMapsModel", "shadowed", "(I)I"⟩, 20), (⟨"PileMapsModel", "longest", "(I)I"⟩, 20)]
theorem lw_r3 : ∀ q ∈ lw_privs_3, lw_okq q := List.forall_mem_cons.mpr ⟨lw_p32, List.forall_mem_cons.mpr ⟨lw_p33, List.forall_mem_cons.mpr ⟨lw_p34, List.forall_mem_cons.mpr ⟨lw_p35, List.forall_mem_cons.mpr ⟨lw_p36, List.forall_mem_cons.mpr ⟨lw_p37, List.forall_mem_cons.mpr ⟨lw_p38, List.forall_mem_cons.mpr ⟨lw_p39, List.forall_mem_cons.mpr ⟨lw_p40, List.forall_mem_cons.mpr ⟨lw_p41, List.forall_mem_cons.mpr ⟨lw_p42, List.forall_mem_cons.mpr ⟨lw_p43, List.forall_mem_cons.mpr ⟨lw_p44, List.forall_mem_cons.mpr ⟨lw_p45, List.forall_mem_cons.mpr ⟨lw_p46, List.forall_mem_cons.mpr ⟨lw_p47, fun _ h => absurd h List.not_mem_nil⟩⟩⟩⟩⟩⟩⟩⟩⟩⟩⟩⟩⟩⟩⟩⟩
theorem lw_p48 : lw_okq (⟨"PileMapsModel", "apart", "(II)I"⟩, 20) := ⟨⟨by decide +kernel, by decide +kernel⟩, List.mem_of_getElem? (i := 604) (by decide +kernel), List.mem_of_getElem? (i := 915) (by decide +kernel), List.mem_of_getElem? (i := 916) (by decide +kernel)⟩
theorem lw_p49 : lw_okq (⟨"PileMapsModel", "isFound", "()Z"⟩, 20) := ⟨⟨by decide +kernel, by decide +kernel⟩, List.mem_of_getElem? (i := 604) (by decide +kernel), List.mem_of_getElem? (i := 928) (by decide +kernel), List.mem_of_getElem? (i := 929) (by decide +kernel)⟩
theorem lw_p50 : lw_okq (⟨"PileMapsModel", "isSuspect", "(I)Z"⟩, 20) := ⟨⟨by decide +kernel, by decide +kernel⟩, List.mem_of_getElem? (i := 604) (by decide +kernel), List.mem_of_getElem? (i := 932) (by decide +kernel), List.mem_of_getElem? (i := 933) (by decide +kernel)⟩
theorem lw_p51 : lw_okq (⟨"PileMapsModel", "bestKey", "()I"⟩, 20) := ⟨⟨by decide +kernel, by decide +kernel⟩, List.mem_of_getElem? (i := 604) (by decide +kernel), List.mem_of_getElem? (i := 936) (by decide +kernel), List.mem_of_getElem? (i := 937) (by decide +kernel)⟩
theorem lw_p52 : lw_okq (⟨"PileMapsModel", "groups", "(II)I"⟩, 20) := ⟨⟨by decide +kernel, by decide +kernel⟩, List.mem_of_getElem? (i := 604) (by decide +kernel), List.mem_of_getElem? (i := 940) (by decide +kernel), List.mem_of_getElem? (i := 941) (by decide +kernel)⟩
theorem lw_p53 : lw_okq (⟨"PileMapsModel", "allEntries", "(Z)I"⟩, 20) := ⟨⟨by decide +kernel, by decide +kernel⟩, List.mem_of_getElem? (i := 604) (by decide +kernel), List.mem_of_getElem? (i := 952) (by decide +kernel), List.mem_of_getElem? (i := 953) (by decide +kernel)⟩
theorem lw_p54 : lw_okq (⟨"PileMapsModel", "twins", "()I"⟩, 20) := ⟨⟨by decide +kernel, by decide +kernel⟩, List.mem_of_getElem? (i := 604) (by decide +kernel), List.mem_of_getElem? (i := 956) (by decide +kernel), List.mem_of_getElem? (i := 957) (by decide +kernel)⟩
def lw_privs_4 : List (MethodName × Nat) := [(⟨"PileMapsModel", "apart", "(II)I"⟩, 20), (⟨"PileMapsModel", "isFound", "()Z"⟩, 20), (⟨"PileMapsModel", "isSuspect", "(I)Z"⟩, 20), (⟨"PileMapsModel", "bestKey", "()I"⟩, 20), (⟨"PileMapsModel", "groups", "(II)I"⟩, 20), (⟨"PileMapsModel", "allEntries", "(Z)I"⟩, 20), (⟨"PileMapsModel", "twins", "()I"⟩, 20)]
theorem lw_r4 : ∀ q ∈ lw_privs_4, lw_okq q := List.forall_mem_cons.mpr ⟨lw_p48, List.forall_mem_cons.mpr ⟨lw_p49, List.forall_mem_cons.mpr ⟨lw_p50, List.forall_mem_cons.mpr ⟨lw_p51, List.forall_mem_cons.mpr ⟨lw_p52, List.forall_mem_cons.mpr ⟨lw_p53, List.forall_mem_cons.mpr ⟨lw_p54, fun _ h => absurd h List.not_mem_nil⟩⟩⟩⟩⟩⟩⟩
def lw_privs : List (MethodName × Nat) := lw_privs_1 ++ (lw_privs_2 ++ (lw_privs_3 ++ (lw_privs_4)))
def lw_tbl : List Cond := k2_sels lw_privs ++ tables_1
theorem lw_privs_ok : ∀ q ∈ lw_privs, lw_okq q := by
  show ∀ q ∈ lw_privs_1 ++ (lw_privs_2 ++ (lw_privs_3 ++ (lw_privs_4))), lw_okq q
  exact List.forall_mem_append.mpr ⟨lw_r1, List.forall_mem_append.mpr ⟨lw_r2, List.forall_mem_append.mpr ⟨lw_r3, lw_r4⟩⟩⟩
-- ===== end of PART A; then your names; then what follows =====
def RX0 : String := "PileMaps$Pile"
def TX0 : u_T := fun k => match k with
  | 0 => ("PileMaps$Pile", "entries", "[[I", true)
  | 1 => ("PileMaps$Pile", "on", "[Z", true)
  | 2 => ("PileMaps$Pile", "values", "[I", true)
  | _ => ("PileMaps$Pile", "height", "I", false)
def tyX0 : Nat → FieldType := fun k => match k with
  | 0 => .array (.array .int)
  | 1 => .array .boolean
  | 2 => .array .int
  | _ => .int
abbrev wsX00 : List Cond := u_ws RX0 TX0 4
theorem nmX0 : ∀ a, a < 4 → ∀ b, b < 4 → a ≠ b → (TX0 a).2.1 ≠ (TX0 b).2.1 := by decide +kernel
theorem tyX0_ok : ∀ k, k < 4 → parseFieldDescriptor (TX0 k).2.2.1 = some (tyX0 k) := by decide +kernel
abbrev cX0_init : ByteArray := prog_2_method_1_code
def yX0_init : MethodName := ⟨RX0, "<init>", "()V"⟩
abbrev cX0_copyFrom : ByteArray := prog_2_method_2_code
def yX0_copyFrom : MethodName := ⟨RX0, "copyFrom", "(LPileMaps$Pile;)V"⟩
abbrev cX0_settle : ByteArray := prog_2_method_3_code
def yX0_settle : MethodName := ⟨RX0, "settle", "()I"⟩
abbrev cX0_tellingLayer : ByteArray := prog_2_method_4_code
def yX0_tellingLayer : MethodName := ⟨RX0, "tellingLayer", "(I)I"⟩
abbrev cX0_addLayer : ByteArray := prog_2_method_5_code
def yX0_addLayer : MethodName := ⟨RX0, "addLayer", "([I)V"⟩
abbrev cX0_removeTop : ByteArray := prog_2_method_6_code
def yX0_removeTop : MethodName := ⟨RX0, "removeTop", "()I"⟩
abbrev cX0_becomeOneLayer : ByteArray := prog_2_method_7_code
def yX0_becomeOneLayer : MethodName := ⟨RX0, "becomeOneLayer", "([I)I"⟩
abbrev cX0_moveLayer : ByteArray := prog_2_method_8_code
def yX0_moveLayer : MethodName := ⟨RX0, "moveLayer", "(II)V"⟩
abbrev cX0_swapWithNext : ByteArray := prog_2_method_9_code
def yX0_swapWithNext : MethodName := ⟨RX0, "swapWithNext", "(I)V"⟩
abbrev cX0_isFlat : ByteArray := prog_2_method_10_code
def yX0_isFlat : MethodName := ⟨RX0, "isFlat", "()Z"⟩
abbrev cX0_layersOn : ByteArray := prog_2_method_11_code
def yX0_layersOn : MethodName := ⟨RX0, "layersOn", "()I"⟩
abbrev cX0_entriesIn : ByteArray := prog_2_method_12_code
def yX0_entriesIn : MethodName := ⟨RX0, "entriesIn", "(I)I"⟩
abbrev cX0_nowhereIn : ByteArray := prog_2_method_13_code
def yX0_nowhereIn : MethodName := ⟨RX0, "nowhereIn", "(I)I"⟩
abbrev cX0_shadowedIn : ByteArray := prog_2_method_14_code
def yX0_shadowedIn : MethodName := ⟨RX0, "shadowedIn", "(I)I"⟩
abbrev cX0_shadowed : ByteArray := prog_2_method_15_code
def yX0_shadowed : MethodName := ⟨RX0, "shadowed", "()I"⟩
abbrev cX0_allEntries : ByteArray := prog_2_method_16_code
def yX0_allEntries : MethodName := ⟨RX0, "allEntries", "()I"⟩
def RX1 : String := "PileMaps$Reader"
def TX1 : u_T := fun k => match k with
  | 0 => ("PileMaps$Reader", "text", "LPileMaps$Text;", true)
  | 1 => ("PileMaps$Reader", "rows", "[[I", true)
  | 2 => ("PileMaps$Reader", "work", "[I", true)
  | 3 => ("PileMaps$Reader", "result", "[I", true)
  | _ => ("PileMaps$Reader", "target", "I", false)
def tyX1 : Nat → FieldType := fun k => match k with
  | 0 => .object "PileMaps$Text"
  | 1 => .array (.array .int)
  | 2 => .array .int
  | 3 => .array .int
  | _ => .int
abbrev wsX10 : List Cond := u_ws RX1 TX1 5
theorem nmX1 : ∀ a, a < 5 → ∀ b, b < 5 → a ≠ b → (TX1 a).2.1 ≠ (TX1 b).2.1 := by decide +kernel
theorem tyX1_ok : ∀ k, k < 5 → parseFieldDescriptor (TX1 k).2.2.1 = some (tyX1 k) := by decide +kernel
abbrev cX1_init : ByteArray := prog_3_method_1_code
def yX1_init : MethodName := ⟨RX1, "<init>", "()V"⟩
abbrev cX1_readLayer : ByteArray := prog_3_method_2_code
def yX1_readLayer : MethodName := ⟨RX1, "readLayer", "()I"⟩
abbrev cX1_readEntry : ByteArray := prog_3_method_3_code
def yX1_readEntry : MethodName := ⟨RX1, "readEntry", "()Z"⟩
abbrev cX1_readAssignment : ByteArray := prog_3_method_4_code
def yX1_readAssignment : MethodName := ⟨RX1, "readAssignment", "(LPileMaps$State;)I"⟩
abbrev cX1_readExpression : ByteArray := prog_3_method_5_code
def yX1_readExpression : MethodName := ⟨RX1, "readExpression", "(LPileMaps$State;[II)Z"⟩
abbrev cX1_readFactor : ByteArray := prog_3_method_6_code
def yX1_readFactor : MethodName := ⟨RX1, "readFactor", "(LPileMaps$State;[II)Z"⟩
abbrev cX1_readSigns : ByteArray := prog_3_method_7_code
def yX1_readSigns : MethodName := ⟨RX1, "readSigns", "(I[I)Z"⟩
def RX2 : String := "PileMaps$Row"
def TX2 : u_T := fun k => match k with
  | _ => ("", "", "", false)
def tyX2 : Nat → FieldType := fun k => match k with
  | _ => .int
abbrev wsX20 : List Cond := u_ws RX2 TX2 0
theorem nmX2 : ∀ a, a < 0 → ∀ b, b < 0 → a ≠ b → (TX2 a).2.1 ≠ (TX2 b).2.1 := by decide +kernel
theorem tyX2_ok : ∀ k, k < 0 → parseFieldDescriptor (TX2 k).2.2.1 = some (tyX2 k) := by decide +kernel
abbrev cX2_copy : ByteArray := prog_4_method_2_code
def yX2_copy : MethodName := ⟨RX2, "copy", "([I[I)V"⟩
abbrev cX2_step : ByteArray := prog_4_method_3_code
def yX2_step : MethodName := ⟨RX2, "step", "([II)I"⟩
abbrev cX2_walk : ByteArray := prog_4_method_4_code
def yX2_walk : MethodName := ⟨RX2, "walk", "([III)I"⟩
abbrev cX2_walkFar : ByteArray := prog_4_method_5_code
def yX2_walkFar : MethodName := ⟨RX2, "walkFar", "([III)I"⟩
abbrev cX2_cycleOf : ByteArray := prog_4_method_6_code
def yX2_cycleOf : MethodName := ⟨RX2, "cycleOf", "([II)I"⟩
abbrev cX2_stepsToHole : ByteArray := prog_4_method_7_code
def yX2_stepsToHole : MethodName := ⟨RX2, "stepsToHole", "([II)I"⟩
abbrev cX2_stepsToSecondMeeting : ByteArray := prog_4_method_8_code
def yX2_stepsToSecondMeeting : MethodName := ⟨RX2, "stepsToSecondMeeting", "([II)I"⟩
abbrev cX2_cycleMet : ByteArray := prog_4_method_9_code
def yX2_cycleMet : MethodName := ⟨RX2, "cycleMet", "([II)I"⟩
abbrev cX2_holes : ByteArray := prog_4_method_10_code
def yX2_holes : MethodName := ⟨RX2, "holes", "([I)I"⟩
abbrev cX2_image : ByteArray := prog_4_method_11_code
def yX2_image : MethodName := ⟨RX2, "image", "([I)I"⟩
abbrev cX2_isOneToOne : ByteArray := prog_4_method_12_code
def yX2_isOneToOne : MethodName := ⟨RX2, "isOneToOne", "([I)Z"⟩
abbrev cX2_fixed : ByteArray := prog_4_method_13_code
def yX2_fixed : MethodName := ⟨RX2, "fixed", "([I)I"⟩
abbrev cX2_cyclic : ByteArray := prog_4_method_14_code
def yX2_cyclic : MethodName := ⟨RX2, "cyclic", "([I)I"⟩
abbrev cX2_longestCycle : ByteArray := prog_4_method_15_code
def yX2_longestCycle : MethodName := ⟨RX2, "longestCycle", "([I)I"⟩
abbrev cX2_difference : ByteArray := prog_4_method_16_code
def yX2_difference : MethodName := ⟨RX2, "difference", "([I[I)I"⟩
abbrev cX2_overlay : ByteArray := prog_4_method_17_code
def yX2_overlay : MethodName := ⟨RX2, "overlay", "([I[I)V"⟩
abbrev cX2_compose : ByteArray := prog_4_method_18_code
def yX2_compose : MethodName := ⟨RX2, "compose", "([I[I)V"⟩
abbrev cX2_restrict : ByteArray := prog_4_method_19_code
def yX2_restrict : MethodName := ⟨RX2, "restrict", "([II)V"⟩
abbrev cX2_power : ByteArray := prog_4_method_20_code
def yX2_power : MethodName := ⟨RX2, "power", "([II[I)V"⟩
abbrev cX2_inverse : ByteArray := prog_4_method_21_code
def yX2_inverse : MethodName := ⟨RX2, "inverse", "([II[I)V"⟩
def RX3 : String := "PileMaps$Secret"
def TX3 : u_T := fun k => match k with
  | 0 => ("PileMaps$Secret", "known", "[[I", true)
  | 1 => ("PileMaps$Secret", "place", "I", false)
  | 2 => ("PileMaps$Secret", "suspects", "I", false)
  | _ => ("PileMaps$Secret", "asked", "I", false)
def tyX3 : Nat → FieldType := fun k => match k with
  | 0 => .array (.array .int)
  | 1 => .int
  | 2 => .int
  | _ => .int
abbrev wsX30 : List Cond := u_ws RX3 TX3 4
theorem nmX3 : ∀ a, a < 4 → ∀ b, b < 4 → a ≠ b → (TX3 a).2.1 ≠ (TX3 b).2.1 := by decide +kernel
theorem tyX3_ok : ∀ k, k < 4 → parseFieldDescriptor (TX3 k).2.2.1 = some (tyX3 k) := by decide +kernel
abbrev cX3_init : ByteArray := prog_5_method_1_code
def yX3_init : MethodName := ⟨RX3, "<init>", "()V"⟩
abbrev cX3_copyFrom : ByteArray := prog_5_method_2_code
def yX3_copyFrom : MethodName := ⟨RX3, "copyFrom", "(LPileMaps$Secret;)V"⟩
abbrev cX3_start : ByteArray := prog_5_method_3_code
def yX3_start : MethodName := ⟨RX3, "start", "(II[LPileMaps$Pile;)V"⟩
abbrev cX3_isRunning : ByteArray := prog_5_method_4_code
def yX3_isRunning : MethodName := ⟨RX3, "isRunning", "()Z"⟩
abbrev cX3_isSuspect : ByteArray := prog_5_method_5_code
def yX3_isSuspect : MethodName := ⟨RX3, "isSuspect", "(I)Z"⟩
abbrev cX3_answer : ByteArray := prog_5_method_6_code
def yX3_answer : MethodName := ⟨RX3, "answer", "(I)I"⟩
abbrev cX3_isFound : ByteArray := prog_5_method_7_code
def yX3_isFound : MethodName := ⟨RX3, "isFound", "()Z"⟩
abbrev cX3_alikeUpTo : ByteArray := prog_5_method_8_code
def yX3_alikeUpTo : MethodName := ⟨RX3, "alikeUpTo", "(III)I"⟩
abbrev cX3_groups : ByteArray := prog_5_method_9_code
def yX3_groups : MethodName := ⟨RX3, "groups", "(I)I"⟩
abbrev cX3_greatestGroup : ByteArray := prog_5_method_10_code
def yX3_greatestGroup : MethodName := ⟨RX3, "greatestGroup", "(I)I"⟩
abbrev cX3_bestKey : ByteArray := prog_5_method_11_code
def yX3_bestKey : MethodName := ⟨RX3, "bestKey", "()I"⟩
abbrev cX3_isBetter : ByteArray := prog_5_method_12_code
def yX3_isBetter : MethodName := ⟨RX3, "isBetter", "(II)Z"⟩
def RX4 : String := "PileMaps$State"
def TX4 : u_T := fun k => match k with
  | 0 => ("PileMaps$State", "piles", "[LPileMaps$Pile;", true)
  | 1 => ("PileMaps$State", "secret", "LPileMaps$Secret;", true)
  | _ => ("PileMaps$State", "rule", "I", false)
def tyX4 : Nat → FieldType := fun k => match k with
  | 0 => .array (.object "PileMaps$Pile")
  | 1 => .object "PileMaps$Secret"
  | _ => .int
abbrev wsX40 : List Cond := u_ws RX4 TX4 3
theorem nmX4 : ∀ a, a < 3 → ∀ b, b < 3 → a ≠ b → (TX4 a).2.1 ≠ (TX4 b).2.1 := by decide +kernel
theorem tyX4_ok : ∀ k, k < 3 → parseFieldDescriptor (TX4 k).2.2.1 = some (tyX4 k) := by decide +kernel
abbrev cX4_init : ByteArray := prog_6_method_1_code
def yX4_init : MethodName := ⟨RX4, "<init>", "()V"⟩
abbrev cX4_copyFrom : ByteArray := prog_6_method_2_code
def yX4_copyFrom : MethodName := ⟨RX4, "copyFrom", "(LPileMaps$State;)V"⟩
abbrev cX4_layers : ByteArray := prog_6_method_3_code
def yX4_layers : MethodName := ⟨RX4, "layers", "()I"⟩
abbrev cX4_entriesOfAll : ByteArray := prog_6_method_4_code
def yX4_entriesOfAll : MethodName := ⟨RX4, "entriesOfAll", "()I"⟩
abbrev cX4_shadowedOfAll : ByteArray := prog_6_method_5_code
def yX4_shadowedOfAll : MethodName := ⟨RX4, "shadowedOfAll", "()I"⟩
abbrev cX4_repeatedMaps : ByteArray := prog_6_method_6_code
def yX4_repeatedMaps : MethodName := ⟨RX4, "repeatedMaps", "()I"⟩
abbrev cX4_repeatsLowerMap : ByteArray := prog_6_method_7_code
def yX4_repeatsLowerMap : MethodName := ⟨RX4, "repeatsLowerMap", "(I)Z"⟩
def RX5 : String := "PileMaps$Text"
def TX5 : u_T := fun k => match k with
  | 0 => ("PileMaps$Text", "signs", "[C", true)
  | 1 => ("PileMaps$Text", "length", "I", false)
  | _ => ("PileMaps$Text", "at", "I", false)
def tyX5 : Nat → FieldType := fun k => match k with
  | 0 => .array .char
  | 1 => .int
  | _ => .int
abbrev wsX50 : List Cond := u_ws RX5 TX5 3
theorem nmX5 : ∀ a, a < 3 → ∀ b, b < 3 → a ≠ b → (TX5 a).2.1 ≠ (TX5 b).2.1 := by decide +kernel
theorem tyX5_ok : ∀ k, k < 3 → parseFieldDescriptor (TX5 k).2.2.1 = some (tyX5 k) := by decide +kernel
abbrev cX5_init : ByteArray := prog_7_method_1_code
def yX5_init : MethodName := ⟨RX5, "<init>", "()V"⟩
abbrev cX5_add : ByteArray := prog_7_method_2_code
def yX5_add : MethodName := ⟨RX5, "add", "(C)Z"⟩
abbrev cX5_isAtEnd : ByteArray := prog_7_method_3_code
def yX5_isAtEnd : MethodName := ⟨RX5, "isAtEnd", "()Z"⟩
abbrev cX5_take : ByteArray := prog_7_method_4_code
def yX5_take : MethodName := ⟨RX5, "take", "(C)Z"⟩
abbrev cX5_takeBetween : ByteArray := prog_7_method_5_code
def yX5_takeBetween : MethodName := ⟨RX5, "takeBetween", "(CC)I"⟩
abbrev cX5_takeMap : ByteArray := prog_7_method_6_code
def yX5_takeMap : MethodName := ⟨RX5, "takeMap", "()I"⟩
abbrev cX5_takeDigit : ByteArray := prog_7_method_7_code
def yX5_takeDigit : MethodName := ⟨RX5, "takeDigit", "()I"⟩
abbrev cX5_takeKey : ByteArray := prog_7_method_8_code
def yX5_takeKey : MethodName := ⟨RX5, "takeKey", "()I"⟩
abbrev cX5_takeKeySet : ByteArray := prog_7_method_9_code
def yX5_takeKeySet : MethodName := ⟨RX5, "takeKeySet", "()I"⟩
def RX6 : String := "PileMaps"
def TX6 : u_T := fun k => match k with
  | 0 => ("PileMaps", "now", "LPileMaps$State;", true)
  | 1 => ("PileMaps", "past", "[LPileMaps$State;", true)
  | 2 => ("PileMaps", "kept", "LPileMaps$State;", true)
  | 3 => ("PileMaps", "reader", "LPileMaps$Reader;", true)
  | 4 => ("PileMaps", "differences", "[I", true)
  | 5 => ("PileMaps", "pastCount", "I", false)
  | _ => ("PileMaps", "hasKept", "Z", false)
def tyX6 : Nat → FieldType := fun k => match k with
  | 0 => .object "PileMaps$State"
  | 1 => .array (.object "PileMaps$State")
  | 2 => .object "PileMaps$State"
  | 3 => .object "PileMaps$Reader"
  | 4 => .array .int
  | 5 => .int
  | _ => .boolean
abbrev wsX60 : List Cond := u_ws RX6 TX6 7
theorem nmX6 : ∀ a, a < 7 → ∀ b, b < 7 → a ≠ b → (TX6 a).2.1 ≠ (TX6 b).2.1 := by decide +kernel
theorem tyX6_ok : ∀ k, k < 7 → parseFieldDescriptor (TX6 k).2.2.1 = some (tyX6 k) := by decide +kernel
abbrev cX6_init : ByteArray := prog_1_method_1_code
def yX6_init : MethodName := ⟨RX6, "<init>", "()V"⟩
abbrev cX6_push : ByteArray := prog_1_method_2_code
def yX6_push : MethodName := ⟨RX6, "push", "(I)I"⟩
abbrev cX6_pop : ByteArray := prog_1_method_3_code
def yX6_pop : MethodName := ⟨RX6, "pop", "(I)I"⟩
abbrev cX6_turn : ByteArray := prog_1_method_4_code
def yX6_turn : MethodName := ⟨RX6, "turn", "(IIZ)I"⟩
abbrev cX6_lift : ByteArray := prog_1_method_5_code
def yX6_lift : MethodName := ⟨RX6, "lift", "(III)I"⟩
abbrev cX6_setEntry : ByteArray := prog_1_method_6_code
def yX6_setEntry : MethodName := ⟨RX6, "setEntry", "(IIII)I"⟩
abbrev cX6_flatten : ByteArray := prog_1_method_7_code
def yX6_flatten : MethodName := ⟨RX6, "flatten", "(I)I"⟩
abbrev cX6_assign : ByteArray := prog_1_method_8_code
def yX6_assign : MethodName := ⟨RX6, "assign", "()I"⟩
abbrev cX6_setRule : ByteArray := prog_1_method_9_code
def yX6_setRule : MethodName := ⟨RX6, "setRule", "(I)I"⟩
abbrev cX6_hide : ByteArray := prog_1_method_10_code
def yX6_hide : MethodName := ⟨RX6, "hide", "(II)I"⟩
abbrev cX6_ask : ByteArray := prog_1_method_11_code
def yX6_ask : MethodName := ⟨RX6, "ask", "(I)I"⟩
abbrev cX6_type : ByteArray := prog_1_method_12_code
def yX6_type : MethodName := ⟨RX6, "type", "(C)I"⟩
abbrev cX6_clearText : ByteArray := prog_1_method_13_code
def yX6_clearText : MethodName := ⟨RX6, "clearText", "()I"⟩
abbrev cX6_undo : ByteArray := prog_1_method_14_code
def yX6_undo : MethodName := ⟨RX6, "undo", "()I"⟩
abbrev cX6_keep : ByteArray := prog_1_method_15_code
def yX6_keep : MethodName := ⟨RX6, "keep", "()I"⟩
abbrev cX6_restore : ByteArray := prog_1_method_16_code
def yX6_restore : MethodName := ⟨RX6, "restore", "()I"⟩
abbrev cX6_get : ByteArray := prog_1_method_17_code
def yX6_get : MethodName := ⟨RX6, "get", "(II)I"⟩
abbrev cX6_tells : ByteArray := prog_1_method_18_code
def yX6_tells : MethodName := ⟨RX6, "tells", "(II)I"⟩
abbrev cX6_map : ByteArray := prog_1_method_19_code
def yX6_map : MethodName := ⟨RX6, "map", "(II)I"⟩
abbrev cX6_layer : ByteArray := prog_1_method_20_code
def yX6_layer : MethodName := ⟨RX6, "layer", "(III)I"⟩
abbrev cX6_entry : ByteArray := prog_1_method_21_code
def yX6_entry : MethodName := ⟨RX6, "entry", "(III)I"⟩
abbrev cX6_follow : ByteArray := prog_1_method_22_code
def yX6_follow : MethodName := ⟨RX6, "follow", "(III)I"⟩
abbrev cX6_after : ByteArray := prog_1_method_23_code
def yX6_after : MethodName := ⟨RX6, "after", "(III)I"⟩
abbrev cX6_gives : ByteArray := prog_1_method_24_code
def yX6_gives : MethodName := ⟨RX6, "gives", "(I)I"⟩
abbrev cX6_differ : ByteArray := prog_1_method_25_code
def yX6_differ : MethodName := ⟨RX6, "differ", "(II)I"⟩
abbrev cX6_probes : ByteArray := prog_1_method_26_code
def yX6_probes : MethodName := ⟨RX6, "probes", "(I)I"⟩
abbrev cX6_hidden : ByteArray := prog_1_method_27_code
def yX6_hidden : MethodName := ⟨RX6, "hidden", "(I)I"⟩
abbrev cX6_split : ByteArray := prog_1_method_28_code
def yX6_split : MethodName := ⟨RX6, "split", "(II)I"⟩
abbrev cX6_count : ByteArray := prog_1_method_29_code
def yX6_count : MethodName := ⟨RX6, "count", "(I)I"⟩
abbrev cX6_isKey : ByteArray := prog_1_method_30_code
def yX6_isKey : MethodName := ⟨RX6, "isKey", "(I)Z"⟩
abbrev cX6_isMap : ByteArray := prog_1_method_31_code
def yX6_isMap : MethodName := ⟨RX6, "isMap", "(I)Z"⟩
abbrev cX6_isLayer : ByteArray := prog_1_method_32_code
def yX6_isLayer : MethodName := ⟨RX6, "isLayer", "(II)Z"⟩
abbrev cX6_orNone : ByteArray := prog_1_method_33_code
def yX6_orNone : MethodName := ⟨RX6, "orNone", "(I)I"⟩
abbrev cX6_aboutBestKey : ByteArray := prog_1_method_34_code
def yX6_aboutBestKey : MethodName := ⟨RX6, "aboutBestKey", "(LPileMaps$Secret;I)I"⟩
abbrev cX6_record : ByteArray := prog_1_method_35_code
def yX6_record : MethodName := ⟨RX6, "record", "()V"⟩
abbrev cX6_dropOldest : ByteArray := prog_1_method_36_code
def yX6_dropOldest : MethodName := ⟨RX6, "dropOldest", "()V"⟩
abbrev cX6_collectDifferences : ByteArray := prog_1_method_37_code
def yX6_collectDifferences : MethodName := ⟨RX6, "collectDifferences", "(I)I"⟩
abbrev cX6_leastSetOfSize : ByteArray := prog_1_method_38_code
def yX6_leastSetOfSize : MethodName := ⟨RX6, "leastSetOfSize", "(II)I"⟩
abbrev cX6_tellsApart : ByteArray := prog_1_method_39_code
def yX6_tellsApart : MethodName := ⟨RX6, "tellsApart", "(II)Z"⟩
abbrev cX6_nextSetOfSameSize : ByteArray := prog_1_method_40_code
def yX6_nextSetOfSameSize : MethodName := ⟨RX6, "nextSetOfSameSize", "(I)I"⟩
def RX7 : String := "PileMapsModel"
def TX7 : u_T := fun k => match k with
  | 0 => ("PileMapsModel", "now", "[I", true)
  | 1 => ("PileMapsModel", "history", "[I", true)
  | 2 => ("PileMapsModel", "kept", "I", false)
  | 3 => ("PileMapsModel", "slot", "[I", true)
  | 4 => ("PileMapsModel", "isFilled", "Z", false)
  | 5 => ("PileMapsModel", "before", "[I", true)
  | 6 => ("PileMapsModel", "read", "[I", true)
  | 7 => ("PileMapsModel", "typed", "I", false)
  | 8 => ("PileMapsModel", "text", "[C", true)
  | 9 => ("PileMapsModel", "at", "I", false)
  | 10 => ("PileMapsModel", "key", "I", false)
  | 11 => ("PileMapsModel", "target", "I", false)
  | 12 => ("PileMapsModel", "current", "[I", true)
  | 13 => ("PileMapsModel", "over", "[I", true)
  | 14 => ("PileMapsModel", "hasOver", "[Z", true)
  | 15 => ("PileMapsModel", "term", "[I", true)
  | 16 => ("PileMapsModel", "hasTerm", "[Z", true)
  | 17 => ("PileMapsModel", "depth", "I", false)
  | 18 => ("PileMapsModel", "spare", "[I", true)
  | _ => ("PileMapsModel", "pairs", "[I", true)
def tyX7 : Nat → FieldType := fun k => match k with
  | 0 => .array .int
  | 1 => .array .int
  | 2 => .int
  | 3 => .array .int
  | 4 => .boolean
  | 5 => .array .int
  | 6 => .array .int
  | 7 => .int
  | 8 => .array .char
  | 9 => .int
  | 10 => .int
  | 11 => .int
  | 12 => .array .int
  | 13 => .array .int
  | 14 => .array .boolean
  | 15 => .array .int
  | 16 => .array .boolean
  | 17 => .int
  | 18 => .array .int
  | _ => .array .int
abbrev wsX70 : List Cond := u_ws RX7 TX7 20
theorem nmX7 : ∀ a, a < 20 → ∀ b, b < 20 → a ≠ b → (TX7 a).2.1 ≠ (TX7 b).2.1 := by decide +kernel
theorem tyX7_ok : ∀ k, k < 20 → parseFieldDescriptor (TX7 k).2.2.1 = some (tyX7 k) := by decide +kernel
abbrev cX7_init : ByteArray := prog_9_method_1_code
def yX7_init : MethodName := ⟨RX7, "<init>", "()V"⟩
abbrev cX7_in : ByteArray := prog_9_method_2_code
def yX7_in : MethodName := ⟨RX7, "in", "(III)Z"⟩
abbrev cX7_noMap : ByteArray := prog_9_method_3_code
def yX7_noMap : MethodName := ⟨RX7, "noMap", "(I)Z"⟩
abbrev cX7_noKey : ByteArray := prog_9_method_4_code
def yX7_noKey : MethodName := ⟨RX7, "noKey", "(I)Z"⟩
abbrev cX7_noLayer : ByteArray := prog_9_method_5_code
def yX7_noLayer : MethodName := ⟨RX7, "noLayer", "(II)Z"⟩
abbrev cX7_cell : ByteArray := prog_9_method_6_code
def yX7_cell : MethodName := ⟨RX7, "cell", "(III)I"⟩
abbrev cX7_isOn : ByteArray := prog_9_method_7_code
def yX7_isOn : MethodName := ⟨RX7, "isOn", "(II)Z"⟩
abbrev cX7_record : ByteArray := prog_9_method_8_code
def yX7_record : MethodName := ⟨RX7, "record", "()V"⟩
abbrev cX7_bits : ByteArray := prog_9_method_9_code
def yX7_bits : MethodName := ⟨RX7, "bits", "(I)I"⟩
abbrev cX7_teller : ByteArray := prog_9_method_10_code
def yX7_teller : MethodName := ⟨RX7, "teller", "(II)I"⟩
abbrev cX7_value : ByteArray := prog_9_method_11_code
def yX7_value : MethodName := ⟨RX7, "value", "(II)I"⟩
abbrev cX7_remembers : ByteArray := prog_9_method_12_code
def yX7_remembers : MethodName := ⟨RX7, "remembers", "(I)V"⟩
abbrev cX7_changed : ByteArray := prog_9_method_13_code
def yX7_changed : MethodName := ⟨RX7, "changed", "(I)I"⟩
abbrev cX7_entries : ByteArray := prog_9_method_14_code
def yX7_entries : MethodName := ⟨RX7, "entries", "(III)I"⟩
abbrev cX7_shadowed : ByteArray := prog_9_method_15_code
def yX7_shadowed : MethodName := ⟨RX7, "shadowed", "(I)I"⟩
abbrev cX7_becomes : ByteArray := prog_9_method_16_code
def yX7_becomes : MethodName := ⟨RX7, "becomes", "(I[I)I"⟩
abbrev cX7_push : ByteArray := prog_9_method_17_code
def yX7_push : MethodName := ⟨RX7, "push", "(I)I"⟩
abbrev cX7_pop : ByteArray := prog_9_method_18_code
def yX7_pop : MethodName := ⟨RX7, "pop", "(I)I"⟩
abbrev cX7_turn : ByteArray := prog_9_method_19_code
def yX7_turn : MethodName := ⟨RX7, "turn", "(IIZ)I"⟩
abbrev cX7_swaps : ByteArray := prog_9_method_20_code
def yX7_swaps : MethodName := ⟨RX7, "swaps", "(III)V"⟩
abbrev cX7_lift : ByteArray := prog_9_method_21_code
def yX7_lift : MethodName := ⟨RX7, "lift", "(III)I"⟩
abbrev cX7_setEntry : ByteArray := prog_9_method_22_code
def yX7_setEntry : MethodName := ⟨RX7, "setEntry", "(IIII)I"⟩
abbrev cX7_flatten : ByteArray := prog_9_method_23_code
def yX7_flatten : MethodName := ⟨RX7, "flatten", "(I)I"⟩
abbrev cX7_assign : ByteArray := prog_9_method_24_code
def yX7_assign : MethodName := ⟨RX7, "assign", "()I"⟩
abbrev cX7_setRule : ByteArray := prog_9_method_25_code
def yX7_setRule : MethodName := ⟨RX7, "setRule", "(I)I"⟩
abbrev cX7_known : ByteArray := prog_9_method_26_code
def yX7_known : MethodName := ⟨RX7, "known", "(II)I"⟩
abbrev cX7_isSuspect : ByteArray := prog_9_method_27_code
def yX7_isSuspect : MethodName := ⟨RX7, "isSuspect", "(I)Z"⟩
abbrev cX7_hide : ByteArray := prog_9_method_28_code
def yX7_hide : MethodName := ⟨RX7, "hide", "(II)I"⟩
abbrev cX7_ask : ByteArray := prog_9_method_29_code
def yX7_ask : MethodName := ⟨RX7, "ask", "(I)I"⟩
abbrev cX7_isFound : ByteArray := prog_9_method_30_code
def yX7_isFound : MethodName := ⟨RX7, "isFound", "()Z"⟩
abbrev cX7_groups : ByteArray := prog_9_method_31_code
def yX7_groups : MethodName := ⟨RX7, "groups", "(II)I"⟩
abbrev cX7_bestKey : ByteArray := prog_9_method_32_code
def yX7_bestKey : MethodName := ⟨RX7, "bestKey", "()I"⟩
abbrev cX7_type : ByteArray := prog_9_method_33_code
def yX7_type : MethodName := ⟨RX7, "type", "(C)I"⟩
abbrev cX7_clearText : ByteArray := prog_9_method_34_code
def yX7_clearText : MethodName := ⟨RX7, "clearText", "()I"⟩
abbrev cX7_isSign : ByteArray := prog_9_method_35_code
def yX7_isSign : MethodName := ⟨RX7, "isSign", "(I)Z"⟩
abbrev cX7_takes : ByteArray := prog_9_method_36_code
def yX7_takes : MethodName := ⟨RX7, "takes", "(I)Z"⟩
abbrev cX7_isBetween : ByteArray := prog_9_method_37_code
def yX7_isBetween : MethodName := ⟨RX7, "isBetween", "(II)Z"⟩
abbrev cX7_takesKey : ByteArray := prog_9_method_38_code
def yX7_takesKey : MethodName := ⟨RX7, "takesKey", "()Z"⟩
abbrev cX7_isLayerText : ByteArray := prog_9_method_39_code
def yX7_isLayerText : MethodName := ⟨RX7, "isLayerText", "()Z"⟩
abbrev cX7_inverts : ByteArray := prog_9_method_40_code
def yX7_inverts : MethodName := ⟨RX7, "inverts", "()V"⟩
abbrev cX7_settles : ByteArray := prog_9_method_41_code
def yX7_settles : MethodName := ⟨RX7, "settles", "()V"⟩
abbrev cX7_repeats : ByteArray := prog_9_method_42_code
def yX7_repeats : MethodName := ⟨RX7, "repeats", "(I)V"⟩
abbrev cX7_joins : ByteArray := prog_9_method_43_code
def yX7_joins : MethodName := ⟨RX7, "joins", "()V"⟩
abbrev cX7_underlies : ByteArray := prog_9_method_44_code
def yX7_underlies : MethodName := ⟨RX7, "underlies", "()V"⟩
abbrev cX7_takesSet : ByteArray := prog_9_method_45_code
def yX7_takesSet : MethodName := ⟨RX7, "takesSet", "()Z"⟩
abbrev cX7_takesSigns : ByteArray := prog_9_method_46_code
def yX7_takesSigns : MethodName := ⟨RX7, "takesSigns", "()Z"⟩
abbrev cX7_takesLetter : ByteArray := prog_9_method_47_code
def yX7_takesLetter : MethodName := ⟨RX7, "takesLetter", "()Z"⟩
abbrev cX7_isExpressionText : ByteArray := prog_9_method_48_code
def yX7_isExpressionText : MethodName := ⟨RX7, "isExpressionText", "()Z"⟩
abbrev cX7_layers : ByteArray := prog_9_method_49_code
def yX7_layers : MethodName := ⟨RX7, "layers", "()I"⟩
abbrev cX7_undo : ByteArray := prog_9_method_50_code
def yX7_undo : MethodName := ⟨RX7, "undo", "()I"⟩
abbrev cX7_keep : ByteArray := prog_9_method_51_code
def yX7_keep : MethodName := ⟨RX7, "keep", "()I"⟩
abbrev cX7_restore : ByteArray := prog_9_method_52_code
def yX7_restore : MethodName := ⟨RX7, "restore", "()I"⟩
abbrev cX7_get : ByteArray := prog_9_method_53_code
def yX7_get : MethodName := ⟨RX7, "get", "(II)I"⟩
abbrev cX7_tells : ByteArray := prog_9_method_54_code
def yX7_tells : MethodName := ⟨RX7, "tells", "(II)I"⟩
abbrev cX7_returns : ByteArray := prog_9_method_55_code
def yX7_returns : MethodName := ⟨RX7, "returns", "(II)I"⟩
abbrev cX7_walks : ByteArray := prog_9_method_56_code
def yX7_walks : MethodName := ⟨RX7, "walks", "(III)I"⟩
abbrev cX7_cycle : ByteArray := prog_9_method_57_code
def yX7_cycle : MethodName := ⟨RX7, "cycle", "(II)I"⟩
abbrev cX7_set : ByteArray := prog_9_method_58_code
def yX7_set : MethodName := ⟨RX7, "set", "(II)I"⟩
abbrev cX7_onLayers : ByteArray := prog_9_method_59_code
def yX7_onLayers : MethodName := ⟨RX7, "onLayers", "(I)I"⟩
abbrev cX7_longest : ByteArray := prog_9_method_60_code
def yX7_longest : MethodName := ⟨RX7, "longest", "(I)I"⟩
abbrev cX7_map : ByteArray := prog_9_method_61_code
def yX7_map : MethodName := ⟨RX7, "map", "(II)I"⟩
abbrev cX7_layer : ByteArray := prog_9_method_62_code
def yX7_layer : MethodName := ⟨RX7, "layer", "(III)I"⟩
abbrev cX7_entry : ByteArray := prog_9_method_63_code
def yX7_entry : MethodName := ⟨RX7, "entry", "(III)I"⟩
abbrev cX7_follow : ByteArray := prog_9_method_64_code
def yX7_follow : MethodName := ⟨RX7, "follow", "(III)I"⟩
abbrev cX7_after : ByteArray := prog_9_method_65_code
def yX7_after : MethodName := ⟨RX7, "after", "(III)I"⟩
abbrev cX7_gives : ByteArray := prog_9_method_66_code
def yX7_gives : MethodName := ⟨RX7, "gives", "(I)I"⟩
abbrev cX7_apart : ByteArray := prog_9_method_67_code
def yX7_apart : MethodName := ⟨RX7, "apart", "(II)I"⟩
abbrev cX7_differ : ByteArray := prog_9_method_68_code
def yX7_differ : MethodName := ⟨RX7, "differ", "(II)I"⟩
abbrev cX7_probes : ByteArray := prog_9_method_69_code
def yX7_probes : MethodName := ⟨RX7, "probes", "(I)I"⟩
abbrev cX7_hidden : ByteArray := prog_9_method_70_code
def yX7_hidden : MethodName := ⟨RX7, "hidden", "(I)I"⟩
abbrev cX7_split : ByteArray := prog_9_method_71_code
def yX7_split : MethodName := ⟨RX7, "split", "(II)I"⟩
abbrev cX7_allEntries : ByteArray := prog_9_method_72_code
def yX7_allEntries : MethodName := ⟨RX7, "allEntries", "(Z)I"⟩
abbrev cX7_twins : ByteArray := prog_9_method_73_code
def yX7_twins : MethodName := ⟨RX7, "twins", "()I"⟩
abbrev cX7_count : ByteArray := prog_9_method_74_code
def yX7_count : MethodName := ⟨RX7, "count", "(I)I"⟩
def RL : String := "PileMapsLaw"
abbrev cL_law : ByteArray := code
def yL_law : MethodName := ⟨RL, "law", "([I)Z"⟩
abbrev vwCl : List vw_C := [(RX0, TX0, 4), (RX1, TX1, 5), (RX3, TX3, 4), (RX4, TX4, 3), (RX5, TX5, 3), (RX6, TX6, 7), (RX7, TX7, 20)]
