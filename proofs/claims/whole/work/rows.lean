section
-- ===== PART A: goes FIRST, ahead of the names: the tables' words, and 'selects' of the private methods out of them =====
/-- a private method of a class that the tables say can be made, by its rows of tables_1 -/
def lw_okq (q : MethodName × Nat) : Prop := (q.1.cls ≠ "java/lang/invoke/MethodHandle" ∧ q.1.cls ≠ "java/lang/invoke/VarHandle") ∧ Cond.instantiable q.1.cls q.2 ∈ tables_1 ∧ Cond.privateMethod q.1 ∈ tables_1 ∧ Cond.instanceMethod q.1 ∈ tables_1
theorem lw_p0 : lw_okq (⟨"PileMaps$Reader", "readEntry", "()Z"⟩, 5) := ⟨⟨by decide +kernel, by decide +kernel⟩, List.mem_of_getElem? (i := 101) (by decide +kernel), List.mem_of_getElem? (i := 180) (by decide +kernel), List.mem_of_getElem? (i := 181) (by decide +kernel)⟩
theorem lw_p1 : lw_okq (⟨"PileMaps$Text", "takeBetween", "(CC)I"⟩, 3) := ⟨⟨by decide +kernel, by decide +kernel⟩, List.mem_of_getElem? (i := 107) (by decide +kernel), List.mem_of_getElem? (i := 188) (by decide +kernel), List.mem_of_getElem? (i := 189) (by decide +kernel)⟩
theorem lw_p2 : lw_okq (⟨"PileMaps", "record", "()V"⟩, 7) := ⟨⟨by decide +kernel, by decide +kernel⟩, List.mem_of_getElem? (i := 14) (by decide +kernel), List.mem_of_getElem? (i := 204) (by decide +kernel), List.mem_of_getElem? (i := 205) (by decide +kernel)⟩
theorem lw_p3 : lw_okq (⟨"PileMaps", "dropOldest", "()V"⟩, 7) := ⟨⟨by decide +kernel, by decide +kernel⟩, List.mem_of_getElem? (i := 14) (by decide +kernel), List.mem_of_getElem? (i := 208) (by decide +kernel), List.mem_of_getElem? (i := 209) (by decide +kernel)⟩
theorem lw_p4 : lw_okq (⟨"PileMaps", "isLayer", "(II)Z"⟩, 7) := ⟨⟨by decide +kernel, by decide +kernel⟩, List.mem_of_getElem? (i := 14) (by decide +kernel), List.mem_of_getElem? (i := 259) (by decide +kernel), List.mem_of_getElem? (i := 260) (by decide +kernel)⟩
theorem lw_p5 : lw_okq (⟨"PileMaps$Pile", "swapWithNext", "(I)V"⟩, 4) := ⟨⟨by decide +kernel, by decide +kernel⟩, List.mem_of_getElem? (i := 29) (by decide +kernel), List.mem_of_getElem? (i := 272) (by decide +kernel), List.mem_of_getElem? (i := 273) (by decide +kernel)⟩
theorem lw_p6 : lw_okq (⟨"PileMaps$Reader", "readExpression", "(LPileMaps$State;[II)Z"⟩, 5) := ⟨⟨by decide +kernel, by decide +kernel⟩, List.mem_of_getElem? (i := 101) (by decide +kernel), List.mem_of_getElem? (i := 309) (by decide +kernel), List.mem_of_getElem? (i := 310) (by decide +kernel)⟩
theorem lw_p7 : lw_okq (⟨"PileMaps$Reader", "readFactor", "(LPileMaps$State;[II)Z"⟩, 5) := ⟨⟨by decide +kernel, by decide +kernel⟩, List.mem_of_getElem? (i := 101) (by decide +kernel), List.mem_of_getElem? (i := 313) (by decide +kernel), List.mem_of_getElem? (i := 314) (by decide +kernel)⟩
theorem lw_p8 : lw_okq (⟨"PileMaps$Reader", "readSigns", "(I[I)Z"⟩, 5) := ⟨⟨by decide +kernel, by decide +kernel⟩, List.mem_of_getElem? (i := 101) (by decide +kernel), List.mem_of_getElem? (i := 319) (by decide +kernel), List.mem_of_getElem? (i := 320) (by decide +kernel)⟩
theorem lw_p9 : lw_okq (⟨"PileMaps", "collectDifferences", "(I)I"⟩, 7) := ⟨⟨by decide +kernel, by decide +kernel⟩, List.mem_of_getElem? (i := 14) (by decide +kernel), List.mem_of_getElem? (i := 518) (by decide +kernel), List.mem_of_getElem? (i := 519) (by decide +kernel)⟩
theorem lw_p10 : lw_okq (⟨"PileMaps", "leastSetOfSize", "(II)I"⟩, 7) := ⟨⟨by decide +kernel, by decide +kernel⟩, List.mem_of_getElem? (i := 14) (by decide +kernel), List.mem_of_getElem? (i := 522) (by decide +kernel), List.mem_of_getElem? (i := 523) (by decide +kernel)⟩
theorem lw_p11 : lw_okq (⟨"PileMaps", "tellsApart", "(II)Z"⟩, 7) := ⟨⟨by decide +kernel, by decide +kernel⟩, List.mem_of_getElem? (i := 14) (by decide +kernel), List.mem_of_getElem? (i := 527) (by decide +kernel), List.mem_of_getElem? (i := 528) (by decide +kernel)⟩
theorem lw_p12 : lw_okq (⟨"PileMaps$Secret", "isBetter", "(II)Z"⟩, 4) := ⟨⟨by decide +kernel, by decide +kernel⟩, List.mem_of_getElem? (i := 63) (by decide +kernel), List.mem_of_getElem? (i := 555) (by decide +kernel), List.mem_of_getElem? (i := 556) (by decide +kernel)⟩
theorem lw_p13 : lw_okq (⟨"PileMaps$Secret", "alikeUpTo", "(III)I"⟩, 4) := ⟨⟨by decide +kernel, by decide +kernel⟩, List.mem_of_getElem? (i := 63) (by decide +kernel), List.mem_of_getElem? (i := 563) (by decide +kernel), List.mem_of_getElem? (i := 564) (by decide +kernel)⟩
theorem lw_p14 : lw_okq (⟨"PileMaps$State", "repeatsLowerMap", "(I)Z"⟩, 3) := ⟨⟨by decide +kernel, by decide +kernel⟩, List.mem_of_getElem? (i := 22) (by decide +kernel), List.mem_of_getElem? (i := 599) (by decide +kernel), List.mem_of_getElem? (i := 600) (by decide +kernel)⟩
theorem lw_p15 : lw_okq (⟨"PileMapsModel", "isLayerText", "()Z"⟩, 20) := ⟨⟨by decide +kernel, by decide +kernel⟩, List.mem_of_getElem? (i := 604) (by decide +kernel), List.mem_of_getElem? (i := 681) (by decide +kernel), List.mem_of_getElem? (i := 682) (by decide +kernel)⟩
def lw_privs_1 : List (MethodName × Nat) := [(⟨"PileMaps$Reader", "readEntry", "()Z"⟩, 5), (⟨"PileMaps$Text", "takeBetween", "(CC)I"⟩, 3), (⟨"PileMaps", "record", "()V"⟩, 7), (⟨"PileMaps", "dropOldest", "()V"⟩, 7), (⟨"PileMaps", "isLayer", "(II)Z"⟩, 7), (⟨"PileMaps$Pile", "swapWithNext", "(I)V"⟩, 4), (⟨"PileMaps$Reader", "readExpression", "(LPileMaps$State;[II)Z"⟩, 5), (⟨"PileMaps$Reader", "readFactor", "(LPileMaps$State;[II)Z"⟩, 5), (⟨"PileMaps$Reader", "readSigns", "(I[I)Z"⟩, 5), (⟨"PileMaps", "collectDifferences", "(I)I"⟩, 7), (⟨"PileMaps", "leastSetOfSize", "(II)I"⟩, 7), (⟨"PileMaps", "tellsApart", "(II)Z"⟩, 7), (⟨"PileMaps$Secret", "isBetter", "(II)Z"⟩, 4), (⟨"PileMaps$Secret", "alikeUpTo", "(III)I"⟩, 4), (⟨"PileMaps$State", "repeatsLowerMap", "(I)Z"⟩, 3), (⟨"PileMapsModel", "isLayerText", "()Z"⟩, 20)]
theorem lw_r1 : ∀ q ∈ lw_privs_1, lw_okq q := List.forall_mem_cons.mpr ⟨lw_p0, List.forall_mem_cons.mpr ⟨lw_p1, List.forall_mem_cons.mpr ⟨lw_p2, List.forall_mem_cons.mpr ⟨lw_p3, List.forall_mem_cons.mpr ⟨lw_p4, List.forall_mem_cons.mpr ⟨lw_p5, List.forall_mem_cons.mpr ⟨lw_p6, List.forall_mem_cons.mpr ⟨lw_p7, List.forall_mem_cons.mpr ⟨lw_p8, List.forall_mem_cons.mpr ⟨lw_p9, List.forall_mem_cons.mpr ⟨lw_p10, List.forall_mem_cons.mpr ⟨lw_p11, List.forall_mem_cons.mpr ⟨lw_p12, List.forall_mem_cons.mpr ⟨lw_p13, List.forall_mem_cons.mpr ⟨lw_p14, List.forall_mem_cons.mpr ⟨lw_p15, fun _ h => absurd h List.not_mem_nil⟩⟩⟩⟩⟩⟩⟩⟩⟩⟩⟩⟩⟩⟩⟩⟩
theorem lw_p16 : lw_okq (⟨"PileMapsModel", "takesKey", "()Z"⟩, 20) := ⟨⟨by decide +kernel, by decide +kernel⟩, List.mem_of_getElem? (i := 604) (by decide +kernel), List.mem_of_getElem? (i := 685) (by decide +kernel), List.mem_of_getElem? (i := 686) (by decide +kernel)⟩
theorem lw_p17 : lw_okq (⟨"PileMapsModel", "isBetween", "(II)Z"⟩, 20) := ⟨⟨by decide +kernel, by decide +kernel⟩, List.mem_of_getElem? (i := 604) (by decide +kernel), List.mem_of_getElem? (i := 689) (by decide +kernel), List.mem_of_getElem? (i := 690) (by decide +kernel)⟩
theorem lw_p18 : lw_okq (⟨"PileMapsModel", "takes", "(I)Z"⟩, 20) := ⟨⟨by decide +kernel, by decide +kernel⟩, List.mem_of_getElem? (i := 604) (by decide +kernel), List.mem_of_getElem? (i := 693) (by decide +kernel), List.mem_of_getElem? (i := 694) (by decide +kernel)⟩
theorem lw_p19 : lw_okq (⟨"PileMapsModel", "isSign", "(I)Z"⟩, 20) := ⟨⟨by decide +kernel, by decide +kernel⟩, List.mem_of_getElem? (i := 604) (by decide +kernel), List.mem_of_getElem? (i := 697) (by decide +kernel), List.mem_of_getElem? (i := 698) (by decide +kernel)⟩
theorem lw_p20 : lw_okq (⟨"PileMapsModel", "record", "()V"⟩, 20) := ⟨⟨by decide +kernel, by decide +kernel⟩, List.mem_of_getElem? (i := 604) (by decide +kernel), List.mem_of_getElem? (i := 701) (by decide +kernel), List.mem_of_getElem? (i := 702) (by decide +kernel)⟩
theorem lw_p21 : lw_okq (⟨"PileMapsModel", "entries", "(III)I"⟩, 20) := ⟨⟨by decide +kernel, by decide +kernel⟩, List.mem_of_getElem? (i := 604) (by decide +kernel), List.mem_of_getElem? (i := 712) (by decide +kernel), List.mem_of_getElem? (i := 713) (by decide +kernel)⟩
theorem lw_p22 : lw_okq (⟨"PileMapsModel", "isOn", "(II)Z"⟩, 20) := ⟨⟨by decide +kernel, by decide +kernel⟩, List.mem_of_getElem? (i := 604) (by decide +kernel), List.mem_of_getElem? (i := 716) (by decide +kernel), List.mem_of_getElem? (i := 717) (by decide +kernel)⟩
theorem lw_p23 : lw_okq (⟨"PileMapsModel", "teller", "(II)I"⟩, 20) := ⟨⟨by decide +kernel, by decide +kernel⟩, List.mem_of_getElem? (i := 604) (by decide +kernel), List.mem_of_getElem? (i := 720) (by decide +kernel), List.mem_of_getElem? (i := 721) (by decide +kernel)⟩
theorem lw_p24 : lw_okq (⟨"PileMapsModel", "noLayer", "(II)Z"⟩, 20) := ⟨⟨by decide +kernel, by decide +kernel⟩, List.mem_of_getElem? (i := 604) (by decide +kernel), List.mem_of_getElem? (i := 728) (by decide +kernel), List.mem_of_getElem? (i := 729) (by decide +kernel)⟩
theorem lw_p25 : lw_okq (⟨"PileMapsModel", "remembers", "(I)V"⟩, 20) := ⟨⟨by decide +kernel, by decide +kernel⟩, List.mem_of_getElem? (i := 604) (by decide +kernel), List.mem_of_getElem? (i := 732) (by decide +kernel), List.mem_of_getElem? (i := 733) (by decide +kernel)⟩
theorem lw_p26 : lw_okq (⟨"PileMapsModel", "value", "(II)I"⟩, 20) := ⟨⟨by decide +kernel, by decide +kernel⟩, List.mem_of_getElem? (i := 604) (by decide +kernel), List.mem_of_getElem? (i := 736) (by decide +kernel), List.mem_of_getElem? (i := 737) (by decide +kernel)⟩
theorem lw_p27 : lw_okq (⟨"PileMapsModel", "changed", "(I)I"⟩, 20) := ⟨⟨by decide +kernel, by decide +kernel⟩, List.mem_of_getElem? (i := 604) (by decide +kernel), List.mem_of_getElem? (i := 740) (by decide +kernel), List.mem_of_getElem? (i := 741) (by decide +kernel)⟩
theorem lw_p28 : lw_okq (⟨"PileMapsModel", "swaps", "(III)V"⟩, 20) := ⟨⟨by decide +kernel, by decide +kernel⟩, List.mem_of_getElem? (i := 604) (by decide +kernel), List.mem_of_getElem? (i := 748) (by decide +kernel), List.mem_of_getElem? (i := 749) (by decide +kernel)⟩
theorem lw_p29 : lw_okq (⟨"PileMapsModel", "becomes", "(I[I)I"⟩, 20) := ⟨⟨by decide +kernel, by decide +kernel⟩, List.mem_of_getElem? (i := 604) (by decide +kernel), List.mem_of_getElem? (i := 763) (by decide +kernel), List.mem_of_getElem? (i := 764) (by decide +kernel)⟩
theorem lw_p30 : lw_okq (⟨"PileMapsModel", "isExpressionText", "()Z"⟩, 20) := ⟨⟨by decide +kernel, by decide +kernel⟩, List.mem_of_getElem? (i := 604) (by decide +kernel), List.mem_of_getElem? (i := 771) (by decide +kernel), List.mem_of_getElem? (i := 772) (by decide +kernel)⟩
theorem lw_p31 : lw_okq (⟨"PileMapsModel", "takesLetter", "()Z"⟩, 20) := ⟨⟨by decide +kernel, by decide +kernel⟩, List.mem_of_getElem? (i := 604) (by decide +kernel), List.mem_of_getElem? (i := 775) (by decide +kernel), List.mem_of_getElem? (i := 776) (by decide +kernel)⟩
def lw_privs_2 : List (MethodName × Nat) := [(⟨"PileMapsModel", "takesKey", "()Z"⟩, 20), (⟨"PileMapsModel", "isBetween", "(II)Z"⟩, 20), (⟨"PileMapsModel", "takes", "(I)Z"⟩, 20), (⟨"PileMapsModel", "isSign", "(I)Z"⟩, 20), (⟨"PileMapsModel", "record", "()V"⟩, 20), (⟨"PileMapsModel", "entries", "(III)I"⟩, 20), (⟨"PileMapsModel", "isOn", "(II)Z"⟩, 20), (⟨"PileMapsModel", "teller", "(II)I"⟩, 20), (⟨"PileMapsModel", "noLayer", "(II)Z"⟩, 20), (⟨"PileMapsModel", "remembers", "(I)V"⟩, 20), (⟨"PileMapsModel", "value", "(II)I"⟩, 20), (⟨"PileMapsModel", "changed", "(I)I"⟩, 20), (⟨"PileMapsModel", "swaps", "(III)V"⟩, 20), (⟨"PileMapsModel", "becomes", "(I[I)I"⟩, 20), (⟨"PileMapsModel", "isExpressionText", "()Z"⟩, 20), (⟨"PileMapsModel", "takesLetter", "()Z"⟩, 20)]
theorem lw_r2 : ∀ q ∈ lw_privs_2, lw_okq q := List.forall_mem_cons.mpr ⟨lw_p16, List.forall_mem_cons.mpr ⟨lw_p17, List.forall_mem_cons.mpr ⟨lw_p18, List.forall_mem_cons.mpr ⟨lw_p19, List.forall_mem_cons.mpr ⟨lw_p20, List.forall_mem_cons.mpr ⟨lw_p21, List.forall_mem_cons.mpr ⟨lw_p22, List.forall_mem_cons.mpr ⟨lw_p23, List.forall_mem_cons.mpr ⟨lw_p24, List.forall_mem_cons.mpr ⟨lw_p25, List.forall_mem_cons.mpr ⟨lw_p26, List.forall_mem_cons.mpr ⟨lw_p27, List.forall_mem_cons.mpr ⟨lw_p28, List.forall_mem_cons.mpr ⟨lw_p29, List.forall_mem_cons.mpr ⟨lw_p30, List.forall_mem_cons.mpr ⟨lw_p31, fun _ h => absurd h List.not_mem_nil⟩⟩⟩⟩⟩⟩⟩⟩⟩⟩⟩⟩⟩⟩⟩⟩
theorem lw_p32 : lw_okq (⟨"PileMapsModel", "takesSigns", "()Z"⟩, 20) := ⟨⟨by decide +kernel, by decide +kernel⟩, List.mem_of_getElem? (i := 604) (by decide +kernel), List.mem_of_getElem? (i := 779) (by decide +kernel), List.mem_of_getElem? (i := 780) (by decide +kernel)⟩
theorem lw_p33 : lw_okq (⟨"PileMapsModel", "inverts", "()V"⟩, 20) := ⟨⟨by decide +kernel, by decide +kernel⟩, List.mem_of_getElem? (i := 604) (by decide +kernel), List.mem_of_getElem? (i := 783) (by decide +kernel), List.mem_of_getElem? (i := 784) (by decide +kernel)⟩
theorem lw_p34 : lw_okq (⟨"PileMapsModel", "settles", "()V"⟩, 20) := ⟨⟨by decide +kernel, by decide +kernel⟩, List.mem_of_getElem? (i := 604) (by decide +kernel), List.mem_of_getElem? (i := 787) (by decide +kernel), List.mem_of_getElem? (i := 788) (by decide +kernel)⟩
theorem lw_p35 : lw_okq (⟨"PileMapsModel", "repeats", "(I)V"⟩, 20) := ⟨⟨by decide +kernel, by decide +kernel⟩, List.mem_of_getElem? (i := 604) (by decide +kernel), List.mem_of_getElem? (i := 791) (by decide +kernel), List.mem_of_getElem? (i := 792) (by decide +kernel)⟩
theorem lw_p36 : lw_okq (⟨"PileMapsModel", "takesSet", "()Z"⟩, 20) := ⟨⟨by decide +kernel, by decide +kernel⟩, List.mem_of_getElem? (i := 604) (by decide +kernel), List.mem_of_getElem? (i := 795) (by decide +kernel), List.mem_of_getElem? (i := 796) (by decide +kernel)⟩
theorem lw_p37 : lw_okq (⟨"PileMapsModel", "underlies", "()V"⟩, 20) := ⟨⟨by decide +kernel, by decide +kernel⟩, List.mem_of_getElem? (i := 604) (by decide +kernel), List.mem_of_getElem? (i := 799) (by decide +kernel), List.mem_of_getElem? (i := 800) (by decide +kernel)⟩
theorem lw_p38 : lw_okq (⟨"PileMapsModel", "joins", "()V"⟩, 20) := ⟨⟨by decide +kernel, by decide +kernel⟩, List.mem_of_getElem? (i := 604) (by decide +kernel), List.mem_of_getElem? (i := 803) (by decide +kernel), List.mem_of_getElem? (i := 804) (by decide +kernel)⟩
theorem lw_p39 : lw_okq (⟨"PileMapsModel", "known", "(II)I"⟩, 20) := ⟨⟨by decide +kernel, by decide +kernel⟩, List.mem_of_getElem? (i := 604) (by decide +kernel), List.mem_of_getElem? (i := 822) (by decide +kernel), List.mem_of_getElem? (i := 823) (by decide +kernel)⟩
theorem lw_p40 : lw_okq (⟨"PileMapsModel", "layers", "()I"⟩, 20) := ⟨⟨by decide +kernel, by decide +kernel⟩, List.mem_of_getElem? (i := 604) (by decide +kernel), List.mem_of_getElem? (i := 842) (by decide +kernel), List.mem_of_getElem? (i := 843) (by decide +kernel)⟩
theorem lw_p41 : lw_okq (⟨"PileMapsModel", "onLayers", "(I)I"⟩, 20) := ⟨⟨by decide +kernel, by decide +kernel⟩, List.mem_of_getElem? (i := 604) (by decide +kernel), List.mem_of_getElem? (i := 862) (by decide +kernel), List.mem_of_getElem? (i := 863) (by decide +kernel)⟩
theorem lw_p42 : lw_okq (⟨"PileMapsModel", "set", "(II)I"⟩, 20) := ⟨⟨by decide +kernel, by decide +kernel⟩, List.mem_of_getElem? (i := 604) (by decide +kernel), List.mem_of_getElem? (i := 866) (by decide +kernel), List.mem_of_getElem? (i := 867) (by decide +kernel)⟩
theorem lw_p43 : lw_okq (⟨"PileMapsModel", "cycle", "(II)I"⟩, 20) := ⟨⟨by decide +kernel, by decide +kernel⟩, List.mem_of_getElem? (i := 604) (by decide +kernel), List.mem_of_getElem? (i := 870) (by decide +kernel), List.mem_of_getElem? (i := 871) (by decide +kernel)⟩
theorem lw_p44 : lw_okq (⟨"PileMapsModel", "returns", "(II)I"⟩, 20) := ⟨⟨by decide +kernel, by decide +kernel⟩, List.mem_of_getElem? (i := 604) (by decide +kernel), List.mem_of_getElem? (i := 874) (by decide +kernel), List.mem_of_getElem? (i := 875) (by decide +kernel)⟩
theorem lw_p45 : lw_okq (⟨"PileMapsModel", "walks", "(III)I"⟩, 20) := ⟨⟨by decide +kernel, by decide +kernel⟩, List.mem_of_getElem? (i := 604) (by decide +kernel), List.mem_of_getElem? (i := 878) (by decide +kernel), List.mem_of_getElem? (i := 879) (by decide +kernel)⟩
theorem lw_p46 : lw_okq (⟨"PileMapsModel", "shadowed", "(I)I"⟩, 20) := ⟨⟨by decide +kernel, by decide +kernel⟩, List.mem_of_getElem? (i := 604) (by decide +kernel), List.mem_of_getElem? (i := 882) (by decide +kernel), List.mem_of_getElem? (i := 883) (by decide +kernel)⟩
theorem lw_p47 : lw_okq (⟨"PileMapsModel", "longest", "(I)I"⟩, 20) := ⟨⟨by decide +kernel, by decide +kernel⟩, List.mem_of_getElem? (i := 604) (by decide +kernel), List.mem_of_getElem? (i := 886) (by decide +kernel), List.mem_of_getElem? (i := 887) (by decide +kernel)⟩
def lw_privs_3 : List (MethodName × Nat) := [(⟨"PileMapsModel", "takesSigns", "()Z"⟩, 20), (⟨"PileMapsModel", "inverts", "()V"⟩, 20), (⟨"PileMapsModel", "settles", "()V"⟩, 20), (⟨"PileMapsModel", "repeats", "(I)V"⟩, 20), (⟨"PileMapsModel", "takesSet", "()Z"⟩, 20), (⟨"PileMapsModel", "underlies", "()V"⟩, 20), (⟨"PileMapsModel", "joins", "()V"⟩, 20), (⟨"PileMapsModel", "known", "(II)I"⟩, 20), (⟨"PileMapsModel", "layers", "()I"⟩, 20), (⟨"PileMapsModel", "onLayers", "(I)I"⟩, 20), (⟨"PileMapsModel", "set", "(II)I"⟩, 20), (⟨"PileMapsModel", "cycle", "(II)I"⟩, 20), (⟨"PileMapsModel", "returns", "(II)I"⟩, 20), (⟨"PileMapsModel", "walks", "(III)I"⟩, 20), (⟨"PileMapsModel", "shadowed", "(I)I"⟩, 20), (⟨"PileMapsModel", "longest", "(I)I"⟩, 20)]
theorem lw_r3 : ∀ q ∈ lw_privs_3, lw_okq q := List.forall_mem_cons.mpr ⟨lw_p32, List.forall_mem_cons.mpr ⟨lw_p33, List.forall_mem_cons.mpr ⟨lw_p34, List.forall_mem_cons.mpr ⟨lw_p35, List.forall_mem_cons.mpr ⟨lw_p36, List.forall_mem_cons.mpr ⟨lw_p37, List.forall_mem_cons.mpr ⟨lw_p38, List.forall_mem_cons.mpr ⟨lw_p39, List.forall_mem_cons.mpr ⟨lw_p40, List.forall_mem_cons.mpr ⟨lw_p41, List.forall_mem_cons.mpr ⟨lw_p42, List.forall_mem_cons.mpr ⟨lw_p43, List.forall_mem_cons.mpr ⟨lw_p44, List.forall_mem_cons.mpr ⟨lw_p45, List.forall_mem_cons.mpr ⟨lw_p46, List.forall_mem_cons.mpr ⟨lw_p47, fun _ h => absurd h List.not_mem_nil⟩⟩⟩⟩⟩⟩⟩⟩⟩⟩⟩⟩⟩⟩⟩⟩
theorem lw_p48 : lw_okq (⟨"PileMapsModel", "apart", "(II)I"⟩, 20) := ⟨⟨by decide +kernel, by decide +kernel⟩, List.mem_of_getElem? (i := 604) (by decide +kernel), List.mem_of_getElem? (i := 915) (by decide +kernel), List.mem_of_getElem? (i := 916) (by decide +kernel)⟩
theorem lw_p49 : lw_okq (⟨"PileMapsModel", "isFound", "()Z"⟩, 20) := ⟨⟨by decide +kernel, by decide +kernel⟩, List.mem_of_getElem? (i := 604) (by decide +kernel), List.mem_of_getElem? (i := 928) (by decide +kernel), List.mem_of_getElem? (i := 929) (by decide +kernel)⟩
theorem lw_p50 : lw_okq (⟨"PileMapsModel", "isSuspect", "(I)Z"⟩, 20) := ⟨⟨by decide +kernel, by decide +kernel⟩, List.mem_of_getElem? (i := 604) (by decide +kernel), List.mem_of_getElem? (i := 932) (by decide +kernel), List.mem_of_getElem? (i := 933) (by decide +kernel)⟩
theorem lw_p51 : lw_okq (⟨"PileMapsModel", "bestKey", "()I"⟩, 20) := ⟨⟨by decide +kernel, by decide +kernel⟩, List.mem_of_getElem? (i := 604) (by decide +kernel), List.mem_of_getElem? (i := 936) (by decide +kernel), List.mem_of_getElem? (i := 937) (by decide +kernel)⟩
theorem lw_p52 : lw_okq (⟨"PileMapsModel", "groups", "(II)I"⟩, 20) := ⟨⟨by decide +kernel, by decide +kernel⟩, List.mem_of_getElem? (i := 604) (by decide +kernel), List.mem_of_getElem? (i := 940) (by decide +kernel), List.mem_of_getElem? (i := 941) (by decide +kernel)⟩
theorem lw_p53 : lw_okq (⟨"PileMapsModel", "allEntries", "(Z)I"⟩, 20) := ⟨⟨by decide +kernel, by decide +kernel⟩, List.mem_of_getElem? (i := 604) (by decide +kernel), List.mem_of_getElem? (i := 952) (by decide +kernel), List.mem_of_getElem? (i := 953) (by decide +kernel)⟩
theorem lw_p54 : lw_okq (⟨"PileMapsModel", "twins", "()I"⟩, 20) := ⟨⟨by decide +kernel, by decide +kernel⟩, List.mem_of_getElem? (i := 604) (by decide +kernel), List.mem_of_getElem? (i := 956) (by decide +kernel), List.mem_of_getElem? (i := 957) (by decide +kernel)⟩
def lw_privs_4 : List (MethodName × Nat) := [(⟨"PileMapsModel", "apart", "(II)I"⟩, 20), (⟨"PileMapsModel", "isFound", "()Z"⟩, 20), (⟨"PileMapsModel", "isSuspect", "(I)Z"⟩, 20), (⟨"PileMapsModel", "bestKey", "()I"⟩, 20), (⟨"PileMapsModel", "groups", "(II)I"⟩, 20), (⟨"PileMapsModel", "allEntries", "(Z)I"⟩, 20), (⟨"PileMapsModel", "twins", "()I"⟩, 20)]
theorem lw_r4 : ∀ q ∈ lw_privs_4, lw_okq q := List.forall_mem_cons.mpr ⟨lw_p48, List.forall_mem_cons.mpr ⟨lw_p49, List.forall_mem_cons.mpr ⟨lw_p50, List.forall_mem_cons.mpr ⟨lw_p51, List.forall_mem_cons.mpr ⟨lw_p52, List.forall_mem_cons.mpr ⟨lw_p53, List.forall_mem_cons.mpr ⟨lw_p54, fun _ h => absurd h List.not_mem_nil⟩⟩⟩⟩⟩⟩⟩
def lw_privs : List (MethodName × Nat) := lw_privs_1 ++ (lw_privs_2 ++ (lw_privs_3 ++ (lw_privs_4)))
def lw_tbl : List Cond := k2_sels lw_privs ++ tables_1
theorem lw_privs_ok : ∀ q ∈ lw_privs, lw_okq q := by
  show ∀ q ∈ lw_privs_1 ++ (lw_privs_2 ++ (lw_privs_3 ++ (lw_privs_4))), lw_okq q
  exact List.forall_mem_append.mpr ⟨lw_r1, List.forall_mem_append.mpr ⟨lw_r2, List.forall_mem_append.mpr ⟨lw_r3, lw_r4⟩⟩⟩
-- ===== end of PART A; then your names; then what follows =====
def RX0 : String := "PileMaps$Pile"
def TX0 : u_T := fun k => match k with
  | 0 => ("PileMaps$Pile", "entries", "[[I", true)
  | 1 => ("PileMaps$Pile", "on", "[Z", true)
  | 2 => ("PileMaps$Pile", "values", "[I", true)
  | _ => ("PileMaps$Pile", "height", "I", false)
def tyX0 : Nat → FieldType := fun k => match k with
  | 0 => .array (.array .int)
  | 1 => .array .boolean
  | 2 => .array .int
  | _ => .int
abbrev wsX00 : List Cond := u_ws RX0 TX0 4
theorem nmX0 : ∀ a, a < 4 → ∀ b, b < 4 → a ≠ b → (TX0 a).2.1 ≠ (TX0 b).2.1 := by decide +kernel
theorem tyX0_ok : ∀ k, k < 4 → parseFieldDescriptor (TX0 k).2.2.1 = some (tyX0 k) := by decide +kernel
abbrev cX0_init : ByteArray := prog_2_method_1_code
def yX0_init : MethodName := ⟨RX0, "<init>", "()V"⟩
abbrev cX0_copyFrom : ByteArray := prog_2_method_2_code
def yX0_copyFrom : MethodName := ⟨RX0, "copyFrom", "(LPileMaps$Pile;)V"⟩
abbrev cX0_settle : ByteArray := prog_2_method_3_code
def yX0_settle : MethodName := ⟨RX0, "settle", "()I"⟩
abbrev cX0_tellingLayer : ByteArray := prog_2_method_4_code
def yX0_tellingLayer : MethodName := ⟨RX0, "tellingLayer", "(I)I"⟩
abbrev cX0_addLayer : ByteArray := prog_2_method_5_code
def yX0_addLayer : MethodName := ⟨RX0, "addLayer", "([I)V"⟩
abbrev cX0_removeTop : ByteArray := prog_2_method_6_code
def yX0_removeTop : MethodName := ⟨RX0, "removeTop", "()I"⟩
abbrev cX0_becomeOneLayer : ByteArray := prog_2_method_7_code
def yX0_becomeOneLayer : MethodName := ⟨RX0, "becomeOneLayer", "([I)I"⟩
abbrev cX0_moveLayer : ByteArray := prog_2_method_8_code
def yX0_moveLayer : MethodName := ⟨RX0, "moveLayer", "(II)V"⟩
abbrev cX0_swapWithNext : ByteArray := prog_2_method_9_code
def yX0_swapWithNext : MethodName := ⟨RX0, "swapWithNext", "(I)V"⟩
abbrev cX0_isFlat : ByteArray := prog_2_method_10_code
def yX0_isFlat : MethodName := ⟨RX0, "isFlat", "()Z"⟩
abbrev cX0_layersOn : ByteArray := prog_2_method_11_code
def yX0_layersOn : MethodName := ⟨RX0, "layersOn", "()I"⟩
abbrev cX0_entriesIn : ByteArray := prog_2_method_12_code
def yX0_entriesIn : MethodName := ⟨RX0, "entriesIn", "(I)I"⟩
abbrev cX0_nowhereIn : ByteArray := prog_2_method_13_code
def yX0_nowhereIn : MethodName := ⟨RX0, "nowhereIn", "(I)I"⟩
abbrev cX0_shadowedIn : ByteArray := prog_2_method_14_code
def yX0_shadowedIn : MethodName := ⟨RX0, "shadowedIn", "(I)I"⟩
abbrev cX0_shadowed : ByteArray := prog_2_method_15_code
def yX0_shadowed : MethodName := ⟨RX0, "shadowed", "()I"⟩
abbrev cX0_allEntries : ByteArray := prog_2_method_16_code
def yX0_allEntries : MethodName := ⟨RX0, "allEntries", "()I"⟩
def RX1 : String := "PileMaps$Reader"
def TX1 : u_T := fun k => match k with
  | 0 => ("PileMaps$Reader", "text", "LPileMaps$Text;", true)
  | 1 => ("PileMaps$Reader", "rows", "[[I", true)
  | 2 => ("PileMaps$Reader", "work", "[I", true)
  | 3 => ("PileMaps$Reader", "result", "[I", true)
  | _ => ("PileMaps$Reader", "target", "I", false)
def tyX1 : Nat → FieldType := fun k => match k with
  | 0 => .object "PileMaps$Text"
  | 1 => .array (.array .int)
  | 2 => .array .int
  | 3 => .array .int
  | _ => .int
abbrev wsX10 : List Cond := u_ws RX1 TX1 5
theorem nmX1 : ∀ a, a < 5 → ∀ b, b < 5 → a ≠ b → (TX1 a).2.1 ≠ (TX1 b).2.1 := by decide +kernel
theorem tyX1_ok : ∀ k, k < 5 → parseFieldDescriptor (TX1 k).2.2.1 = some (tyX1 k) := by decide +kernel
abbrev cX1_init : ByteArray := prog_3_method_1_code
def yX1_init : MethodName := ⟨RX1, "<init>", "()V"⟩
abbrev cX1_readLayer : ByteArray := prog_3_method_2_code
def yX1_readLayer : MethodName := ⟨RX1, "readLayer", "()I"⟩
abbrev cX1_readEntry : ByteArray := prog_3_method_3_code
def yX1_readEntry : MethodName := ⟨RX1, "readEntry", "()Z"⟩
abbrev cX1_readAssignment : ByteArray := prog_3_method_4_code
def yX1_readAssignment : MethodName := ⟨RX1, "readAssignment", "(LPileMaps$State;)I"⟩
abbrev cX1_readExpression : ByteArray := prog_3_method_5_code
def yX1_readExpression : MethodName := ⟨RX1, "readExpression", "(LPileMaps$State;[II)Z"⟩
abbrev cX1_readFactor : ByteArray := prog_3_method_6_code
def yX1_readFactor : MethodName := ⟨RX1, "readFactor", "(LPileMaps$State;[II)Z"⟩
abbrev cX1_readSigns : ByteArray := prog_3_method_7_code
def yX1_readSigns : MethodName := ⟨RX1, "readSigns", "(I[I)Z"⟩
def RX2 : String := "PileMaps$Row"
def TX2 : u_T := fun k => match k with
  | _ => ("", "", "", false)
def tyX2 : Nat → FieldType := fun k => match k with
  | _ => .int
abbrev wsX20 : List Cond := u_ws RX2 TX2 0
theorem nmX2 : ∀ a, a < 0 → ∀ b, b < 0 → a ≠ b → (TX2 a).2.1 ≠ (TX2 b).2.1 := by decide +kernel
theorem tyX2_ok : ∀ k, k < 0 → parseFieldDescriptor (TX2 k).2.2.1 = some (tyX2 k) := by decide +kernel
abbrev cX2_copy : ByteArray := prog_4_method_2_code
def yX2_copy : MethodName := ⟨RX2, "copy", "([I[I)V"⟩
abbrev cX2_step : ByteArray := prog_4_method_3_code
def yX2_step : MethodName := ⟨RX2, "step", "([II)I"⟩
abbrev cX2_walk : ByteArray := prog_4_method_4_code
def yX2_walk : MethodName := ⟨RX2, "walk", "([III)I"⟩
abbrev cX2_walkFar : ByteArray := prog_4_method_5_code
def yX2_walkFar : MethodName := ⟨RX2, "walkFar", "([III)I"⟩
abbrev cX2_cycleOf : ByteArray := prog_4_method_6_code
def yX2_cycleOf : MethodName := ⟨RX2, "cycleOf", "([II)I"⟩
abbrev cX2_stepsToHole : ByteArray := prog_4_method_7_code
def yX2_stepsToHole : MethodName := ⟨RX2, "stepsToHole", "([II)I"⟩
abbrev cX2_stepsToSecondMeeting : ByteArray := prog_4_method_8_code
def yX2_stepsToSecondMeeting : MethodName := ⟨RX2, "stepsToSecondMeeting", "([II)I"⟩
abbrev cX2_cycleMet : ByteArray := prog_4_method_9_code
def yX2_cycleMet : MethodName := ⟨RX2, "cycleMet", "([II)I"⟩
abbrev cX2_holes : ByteArray := prog_4_method_10_code
def yX2_holes : MethodName := ⟨RX2, "holes", "([I)I"⟩
abbrev cX2_image : ByteArray := prog_4_method_11_code
def yX2_image : MethodName := ⟨RX2, "image", "([I)I"⟩
abbrev cX2_isOneToOne : ByteArray := prog_4_method_12_code
def yX2_isOneToOne : MethodName := ⟨RX2, "isOneToOne", "([I)Z"⟩
abbrev cX2_fixed : ByteArray := prog_4_method_13_code
def yX2_fixed : MethodName := ⟨RX2, "fixed", "([I)I"⟩
abbrev cX2_cyclic : ByteArray := prog_4_method_14_code
def yX2_cyclic : MethodName := ⟨RX2, "cyclic", "([I)I"⟩
abbrev cX2_longestCycle : ByteArray := prog_4_method_15_code
def yX2_longestCycle : MethodName := ⟨RX2, "longestCycle", "([I)I"⟩
abbrev cX2_difference : ByteArray := prog_4_method_16_code
def yX2_difference : MethodName := ⟨RX2, "difference", "([I[I)I"⟩
abbrev cX2_overlay : ByteArray := prog_4_method_17_code
def yX2_overlay : MethodName := ⟨RX2, "overlay", "([I[I)V"⟩
abbrev cX2_compose : ByteArray := prog_4_method_18_code
def yX2_compose : MethodName := ⟨RX2, "compose", "([I[I)V"⟩
abbrev cX2_restrict : ByteArray := prog_4_method_19_code
def yX2_restrict : MethodName := ⟨RX2, "restrict", "([II)V"⟩
abbrev cX2_power : ByteArray := prog_4_method_20_code
def yX2_power : MethodName := ⟨RX2, "power", "([II[I)V"⟩
abbrev cX2_inverse : ByteArray := prog_4_method_21_code
def yX2_inverse : MethodName := ⟨RX2, "inverse", "([II[I)V"⟩
def RX3 : String := "PileMaps$Secret"
def TX3 : u_T := fun k => match k with
  | 0 => ("PileMaps$Secret", "known", "[[I", true)
  | 1 => ("PileMaps$Secret", "place", "I", false)
  | 2 => ("PileMaps$Secret", "suspects", "I", false)
  | _ => ("PileMaps$Secret", "asked", "I", false)
def tyX3 : Nat → FieldType := fun k => match k with
  | 0 => .array (.array .int)
  | 1 => .int
  | 2 => .int
  | _ => .int
abbrev wsX30 : List Cond := u_ws RX3 TX3 4
theorem nmX3 : ∀ a, a < 4 → ∀ b, b < 4 → a ≠ b → (TX3 a).2.1 ≠ (TX3 b).2.1 := by decide +kernel
theorem tyX3_ok : ∀ k, k < 4 → parseFieldDescriptor (TX3 k).2.2.1 = some (tyX3 k) := by decide +kernel
abbrev cX3_init : ByteArray := prog_5_method_1_code
def yX3_init : MethodName := ⟨RX3, "<init>", "()V"⟩
abbrev cX3_copyFrom : ByteArray := prog_5_method_2_code
def yX3_copyFrom : MethodName := ⟨RX3, "copyFrom", "(LPileMaps$Secret;)V"⟩
abbrev cX3_start : ByteArray := prog_5_method_3_code
def yX3_start : MethodName := ⟨RX3, "start", "(II[LPileMaps$Pile;)V"⟩
abbrev cX3_isRunning : ByteArray := prog_5_method_4_code
def yX3_isRunning : MethodName := ⟨RX3, "isRunning", "()Z"⟩
abbrev cX3_isSuspect : ByteArray := prog_5_method_5_code
def yX3_isSuspect : MethodName := ⟨RX3, "isSuspect", "(I)Z"⟩
abbrev cX3_answer : ByteArray := prog_5_method_6_code
def yX3_answer : MethodName := ⟨RX3, "answer", "(I)I"⟩
abbrev cX3_isFound : ByteArray := prog_5_method_7_code
def yX3_isFound : MethodName := ⟨RX3, "isFound", "()Z"⟩
abbrev cX3_alikeUpTo : ByteArray := prog_5_method_8_code
def yX3_alikeUpTo : MethodName := ⟨RX3, "alikeUpTo", "(III)I"⟩
abbrev cX3_groups : ByteArray := prog_5_method_9_code
def yX3_groups : MethodName := ⟨RX3, "groups", "(I)I"⟩
abbrev cX3_greatestGroup : ByteArray := prog_5_method_10_code
def yX3_greatestGroup : MethodName := ⟨RX3, "greatestGroup", "(I)I"⟩
abbrev cX3_bestKey : ByteArray := prog_5_method_11_code
def yX3_bestKey : MethodName := ⟨RX3, "bestKey", "()I"⟩
abbrev cX3_isBetter : ByteArray := prog_5_method_12_code
def yX3_isBetter : MethodName := ⟨RX3, "isBetter", "(II)Z"⟩
def RX4 : String := "PileMaps$State"
def TX4 : u_T := fun k => match k with
  | 0 => ("PileMaps$State", "piles", "[LPileMaps$Pile;", true)
  | 1 => ("PileMaps$State", "secret", "LPileMaps$Secret;", true)
  | _ => ("PileMaps$State", "rule", "I", false)
def tyX4 : Nat → FieldType := fun k => match k with
  | 0 => .array (.object "PileMaps$Pile")
  | 1 => .object "PileMaps$Secret"
  | _ => .int
abbrev wsX40 : List Cond := u_ws RX4 TX4 3
theorem nmX4 : ∀ a, a < 3 → ∀ b, b < 3 → a ≠ b → (TX4 a).2.1 ≠ (TX4 b).2.1 := by decide +kernel
theorem tyX4_ok : ∀ k, k < 3 → parseFieldDescriptor (TX4 k).2.2.1 = some (tyX4 k) := by decide +kernel
abbrev cX4_init : ByteArray := prog_6_method_1_code
def yX4_init : MethodName := ⟨RX4, "<init>", "()V"⟩
abbrev cX4_copyFrom : ByteArray := prog_6_method_2_code
def yX4_copyFrom : MethodName := ⟨RX4, "copyFrom", "(LPileMaps$State;)V"⟩
abbrev cX4_layers : ByteArray := prog_6_method_3_code
def yX4_layers : MethodName := ⟨RX4, "layers", "()I"⟩
abbrev cX4_entriesOfAll : ByteArray := prog_6_method_4_code
def yX4_entriesOfAll : MethodName := ⟨RX4, "entriesOfAll", "()I"⟩
abbrev cX4_shadowedOfAll : ByteArray := prog_6_method_5_code
def yX4_shadowedOfAll : MethodName := ⟨RX4, "shadowedOfAll", "()I"⟩
abbrev cX4_repeatedMaps : ByteArray := prog_6_method_6_code
def yX4_repeatedMaps : MethodName := ⟨RX4, "repeatedMaps", "()I"⟩
abbrev cX4_repeatsLowerMap : ByteArray := prog_6_method_7_code
def yX4_repeatsLowerMap : MethodName := ⟨RX4, "repeatsLowerMap", "(I)Z"⟩
def RX5 : String := "PileMaps$Text"
def TX5 : u_T := fun k => match k with
  | 0 => ("PileMaps$Text", "signs", "[C", true)
  | 1 => ("PileMaps$Text", "length", "I", false)
  | _ => ("PileMaps$Text", "at", "I", false)
def tyX5 : Nat → FieldType := fun k => match k with
  | 0 => .array .char
  | 1 => .int
  | _ => .int
abbrev wsX50 : List Cond := u_ws RX5 TX5 3
theorem nmX5 : ∀ a, a < 3 → ∀ b, b < 3 → a ≠ b → (TX5 a).2.1 ≠ (TX5 b).2.1 := by decide +kernel
theorem tyX5_ok : ∀ k, k < 3 → parseFieldDescriptor (TX5 k).2.2.1 = some (tyX5 k) := by decide +kernel
abbrev cX5_init : ByteArray := prog_7_method_1_code
def yX5_init : MethodName := ⟨RX5, "<init>", "()V"⟩
abbrev cX5_add : ByteArray := prog_7_method_2_code
def yX5_add : MethodName := ⟨RX5, "add", "(C)Z"⟩
abbrev cX5_isAtEnd : ByteArray := prog_7_method_3_code
def yX5_isAtEnd : MethodName := ⟨RX5, "isAtEnd", "()Z"⟩
abbrev cX5_take : ByteArray := prog_7_method_4_code
def yX5_take : MethodName := ⟨RX5, "take", "(C)Z"⟩
abbrev cX5_takeBetween : ByteArray := prog_7_method_5_code
def yX5_takeBetween : MethodName := ⟨RX5, "takeBetween", "(CC)I"⟩
abbrev cX5_takeMap : ByteArray := prog_7_method_6_code
def yX5_takeMap : MethodName := ⟨RX5, "takeMap", "()I"⟩
abbrev cX5_takeDigit : ByteArray := prog_7_method_7_code
def yX5_takeDigit : MethodName := ⟨RX5, "takeDigit", "()I"⟩
abbrev cX5_takeKey : ByteArray := prog_7_method_8_code
def yX5_takeKey : MethodName := ⟨RX5, "takeKey", "()I"⟩
abbrev cX5_takeKeySet : ByteArray := prog_7_method_9_code
def yX5_takeKeySet : MethodName := ⟨RX5, "takeKeySet", "()I"⟩
def RX6 : String := "PileMaps"
def TX6 : u_T := fun k => match k with
  | 0 => ("PileMaps", "now", "LPileMaps$State;", true)
  | 1 => ("PileMaps", "past", "[LPileMaps$State;", true)
  | 2 => ("PileMaps", "kept", "LPileMaps$State;", true)
  | 3 => ("PileMaps", "reader", "LPileMaps$Reader;", true)
  | 4 => ("PileMaps", "differences", "[I", true)
  | 5 => ("PileMaps", "pastCount", "I", false)
  | _ => ("PileMaps", "hasKept", "Z", false)
def tyX6 : Nat → FieldType := fun k => match k with
  | 0 => .object "PileMaps$State"
  | 1 => .array (.object "PileMaps$State")
  | 2 => .object "PileMaps$State"
  | 3 => .object "PileMaps$Reader"
  | 4 => .array .int
  | 5 => .int
  | _ => .boolean
abbrev wsX60 : List Cond := u_ws RX6 TX6 7
theorem nmX6 : ∀ a, a < 7 → ∀ b, b < 7 → a ≠ b → (TX6 a).2.1 ≠ (TX6 b).2.1 := by decide +kernel
theorem tyX6_ok : ∀ k, k < 7 → parseFieldDescriptor (TX6 k).2.2.1 = some (tyX6 k) := by decide +kernel
abbrev cX6_init : ByteArray := prog_1_method_1_code
def yX6_init : MethodName := ⟨RX6, "<init>", "()V"⟩
abbrev cX6_push : ByteArray := prog_1_method_2_code
def yX6_push : MethodName := ⟨RX6, "push", "(I)I"⟩
abbrev cX6_pop : ByteArray := prog_1_method_3_code
def yX6_pop : MethodName := ⟨RX6, "pop", "(I)I"⟩
abbrev cX6_turn : ByteArray := prog_1_method_4_code
def yX6_turn : MethodName := ⟨RX6, "turn", "(IIZ)I"⟩
abbrev cX6_lift : ByteArray := prog_1_method_5_code
def yX6_lift : MethodName := ⟨RX6, "lift", "(III)I"⟩
abbrev cX6_setEntry : ByteArray := prog_1_method_6_code
def yX6_setEntry : MethodName := ⟨RX6, "setEntry", "(IIII)I"⟩
abbrev cX6_flatten : ByteArray := prog_1_method_7_code
def yX6_flatten : MethodName := ⟨RX6, "flatten", "(I)I"⟩
abbrev cX6_assign : ByteArray := prog_1_method_8_code
def yX6_assign : MethodName := ⟨RX6, "assign", "()I"⟩
abbrev cX6_setRule : ByteArray := prog_1_method_9_code
def yX6_setRule : MethodName := ⟨RX6, "setRule", "(I)I"⟩
abbrev cX6_hide : ByteArray := prog_1_method_10_code
def yX6_hide : MethodName := ⟨RX6, "hide", "(II)I"⟩
abbrev cX6_ask : ByteArray := prog_1_method_11_code
def yX6_ask : MethodName := ⟨RX6, "ask", "(I)I"⟩
abbrev cX6_type : ByteArray := prog_1_method_12_code
def yX6_type : MethodName := ⟨RX6, "type", "(C)I"⟩
abbrev cX6_clearText : ByteArray := prog_1_method_13_code
def yX6_clearText : MethodName := ⟨RX6, "clearText", "()I"⟩
abbrev cX6_undo : ByteArray := prog_1_method_14_code
def yX6_undo : MethodName := ⟨RX6, "undo", "()I"⟩
abbrev cX6_keep : ByteArray := prog_1_method_15_code
def yX6_keep : MethodName := ⟨RX6, "keep", "()I"⟩
abbrev cX6_restore : ByteArray := prog_1_method_16_code
def yX6_restore : MethodName := ⟨RX6, "restore", "()I"⟩
abbrev cX6_get : ByteArray := prog_1_method_17_code
def yX6_get : MethodName := ⟨RX6, "get", "(II)I"⟩
abbrev cX6_tells : ByteArray := prog_1_method_18_code
def yX6_tells : MethodName := ⟨RX6, "tells", "(II)I"⟩
abbrev cX6_map : ByteArray := prog_1_method_19_code
def yX6_map : MethodName := ⟨RX6, "map", "(II)I"⟩
abbrev cX6_layer : ByteArray := prog_1_method_20_code
def yX6_layer : MethodName := ⟨RX6, "layer", "(III)I"⟩
abbrev cX6_entry : ByteArray := prog_1_method_21_code
def yX6_entry : MethodName := ⟨RX6, "entry", "(III)I"⟩
abbrev cX6_follow : ByteArray := prog_1_method_22_code
def yX6_follow : MethodName := ⟨RX6, "follow", "(III)I"⟩
abbrev cX6_after : ByteArray := prog_1_method_23_code
def yX6_after : MethodName := ⟨RX6, "after", "(III)I"⟩
abbrev cX6_gives : ByteArray := prog_1_method_24_code
def yX6_gives : MethodName := ⟨RX6, "gives", "(I)I"⟩
abbrev cX6_differ : ByteArray := prog_1_method_25_code
def yX6_differ : MethodName := ⟨RX6, "differ", "(II)I"⟩
abbrev cX6_probes : ByteArray := prog_1_method_26_code
def yX6_probes : MethodName := ⟨RX6, "probes", "(I)I"⟩
abbrev cX6_hidden : ByteArray := prog_1_method_27_code
def yX6_hidden : MethodName := ⟨RX6, "hidden", "(I)I"⟩
abbrev cX6_split : ByteArray := prog_1_method_28_code
def yX6_split : MethodName := ⟨RX6, "split", "(II)I"⟩
abbrev cX6_count : ByteArray := prog_1_method_29_code
def yX6_count : MethodName := ⟨RX6, "count", "(I)I"⟩
abbrev cX6_isKey : ByteArray := prog_1_method_30_code
def yX6_isKey : MethodName := ⟨RX6, "isKey", "(I)Z"⟩
abbrev cX6_isMap : ByteArray := prog_1_method_31_code
def yX6_isMap : MethodName := ⟨RX6, "isMap", "(I)Z"⟩
abbrev cX6_isLayer : ByteArray := prog_1_method_32_code
def yX6_isLayer : MethodName := ⟨RX6, "isLayer", "(II)Z"⟩
abbrev cX6_orNone : ByteArray := prog_1_method_33_code
def yX6_orNone : MethodName := ⟨RX6, "orNone", "(I)I"⟩
abbrev cX6_aboutBestKey : ByteArray := prog_1_method_34_code
def yX6_aboutBestKey : MethodName := ⟨RX6, "aboutBestKey", "(LPileMaps$Secret;I)I"⟩
abbrev cX6_record : ByteArray := prog_1_method_35_code
def yX6_record : MethodName := ⟨RX6, "record", "()V"⟩
abbrev cX6_dropOldest : ByteArray := prog_1_method_36_code
def yX6_dropOldest : MethodName := ⟨RX6, "dropOldest", "()V"⟩
abbrev cX6_collectDifferences : ByteArray := prog_1_method_37_code
def yX6_collectDifferences : MethodName := ⟨RX6, "collectDifferences", "(I)I"⟩
abbrev cX6_leastSetOfSize : ByteArray := prog_1_method_38_code
def yX6_leastSetOfSize : MethodName := ⟨RX6, "leastSetOfSize", "(II)I"⟩
abbrev cX6_tellsApart : ByteArray := prog_1_method_39_code
def yX6_tellsApart : MethodName := ⟨RX6, "tellsApart", "(II)Z"⟩
abbrev cX6_nextSetOfSameSize : ByteArray := prog_1_method_40_code
def yX6_nextSetOfSameSize : MethodName := ⟨RX6, "nextSetOfSameSize", "(I)I"⟩
def RX7 : String := "PileMapsModel"
def TX7 : u_T := fun k => match k with
  | 0 => ("PileMapsModel", "now", "[I", true)
  | 1 => ("PileMapsModel", "history", "[I", true)
  | 2 => ("PileMapsModel", "kept", "I", false)
  | 3 => ("PileMapsModel", "slot", "[I", true)
  | 4 => ("PileMapsModel", "isFilled", "Z", false)
  | 5 => ("PileMapsModel", "before", "[I", true)
  | 6 => ("PileMapsModel", "read", "[I", true)
  | 7 => ("PileMapsModel", "typed", "I", false)
  | 8 => ("PileMapsModel", "text", "[C", true)
  | 9 => ("PileMapsModel", "at", "I", false)
  | 10 => ("PileMapsModel", "key", "I", false)
  | 11 => ("PileMapsModel", "target", "I", false)
  | 12 => ("PileMapsModel", "current", "[I", true)
  | 13 => ("PileMapsModel", "over", "[I", true)
  | 14 => ("PileMapsModel", "hasOver", "[Z", true)
  | 15 => ("PileMapsModel", "term", "[I", true)
  | 16 => ("PileMapsModel", "hasTerm", "[Z", true)
  | 17 => ("PileMapsModel", "depth", "I", false)
  | 18 => ("PileMapsModel", "spare", "[I", true)
  | _ => ("PileMapsModel", "pairs", "[I", true)
def tyX7 : Nat → FieldType := fun k => match k with
  | 0 => .array .int
  | 1 => .array .int
  | 2 => .int
  | 3 => .array .int
  | 4 => .boolean
  | 5 => .array .int
  | 6 => .array .int
  | 7 => .int
  | 8 => .array .char
  | 9 => .int
  | 10 => .int
  | 11 => .int
  | 12 => .array .int
  | 13 => .array .int
  | 14 => .array .boolean
  | 15 => .array .int
  | 16 => .array .boolean
  | 17 => .int
  | 18 => .array .int
  | _ => .array .int
abbrev wsX70 : List Cond := u_ws RX7 TX7 20
theorem nmX7 : ∀ a, a < 20 → ∀ b, b < 20 → a ≠ b → (TX7 a).2.1 ≠ (TX7 b).2.1 := by decide +kernel
theorem tyX7_ok : ∀ k, k < 20 → parseFieldDescriptor (TX7 k).2.2.1 = some (tyX7 k) := by decide +kernel
abbrev cX7_init : ByteArray := prog_9_method_1_code
def yX7_init : MethodName := ⟨RX7, "<init>", "()V"⟩
abbrev cX7_in : ByteArray := prog_9_method_2_code
def yX7_in : MethodName := ⟨RX7, "in", "(III)Z"⟩
abbrev cX7_noMap : ByteArray := prog_9_method_3_code
def yX7_noMap : MethodName := ⟨RX7, "noMap", "(I)Z"⟩
abbrev cX7_noKey : ByteArray := prog_9_method_4_code
def yX7_noKey : MethodName := ⟨RX7, "noKey", "(I)Z"⟩
abbrev cX7_noLayer : ByteArray := prog_9_method_5_code
def yX7_noLayer : MethodName := ⟨RX7, "noLayer", "(II)Z"⟩
abbrev cX7_cell : ByteArray := prog_9_method_6_code
def yX7_cell : MethodName := ⟨RX7, "cell", "(III)I"⟩
abbrev cX7_isOn : ByteArray := prog_9_method_7_code
def yX7_isOn : MethodName := ⟨RX7, "isOn", "(II)Z"⟩
abbrev cX7_record : ByteArray := prog_9_method_8_code
def yX7_record : MethodName := ⟨RX7, "record", "()V"⟩
abbrev cX7_bits : ByteArray := prog_9_method_9_code
def yX7_bits : MethodName := ⟨RX7, "bits", "(I)I"⟩
abbrev cX7_teller : ByteArray := prog_9_method_10_code
def yX7_teller : MethodName := ⟨RX7, "teller", "(II)I"⟩
abbrev cX7_value : ByteArray := prog_9_method_11_code
def yX7_value : MethodName := ⟨RX7, "value", "(II)I"⟩
abbrev cX7_remembers : ByteArray := prog_9_method_12_code
def yX7_remembers : MethodName := ⟨RX7, "remembers", "(I)V"⟩
abbrev cX7_changed : ByteArray := prog_9_method_13_code
def yX7_changed : MethodName := ⟨RX7, "changed", "(I)I"⟩
abbrev cX7_entries : ByteArray := prog_9_method_14_code
def yX7_entries : MethodName := ⟨RX7, "entries", "(III)I"⟩
abbrev cX7_shadowed : ByteArray := prog_9_method_15_code
def yX7_shadowed : MethodName := ⟨RX7, "shadowed", "(I)I"⟩
abbrev cX7_becomes : ByteArray := prog_9_method_16_code
def yX7_becomes : MethodName := ⟨RX7, "becomes", "(I[I)I"⟩
abbrev cX7_push : ByteArray := prog_9_method_17_code
def yX7_push : MethodName := ⟨RX7, "push", "(I)I"⟩
abbrev cX7_pop : ByteArray := prog_9_method_18_code
def yX7_pop : MethodName := ⟨RX7, "pop", "(I)I"⟩
abbrev cX7_turn : ByteArray := prog_9_method_19_code
def yX7_turn : MethodName := ⟨RX7, "turn", "(IIZ)I"⟩
abbrev cX7_swaps : ByteArray := prog_9_method_20_code
def yX7_swaps : MethodName := ⟨RX7, "swaps", "(III)V"⟩
abbrev cX7_lift : ByteArray := prog_9_method_21_code
def yX7_lift : MethodName := ⟨RX7, "lift", "(III)I"⟩
abbrev cX7_setEntry : ByteArray := prog_9_method_22_code
def yX7_setEntry : MethodName := ⟨RX7, "setEntry", "(IIII)I"⟩
abbrev cX7_flatten : ByteArray := prog_9_method_23_code
def yX7_flatten : MethodName := ⟨RX7, "flatten", "(I)I"⟩
abbrev cX7_assign : ByteArray := prog_9_method_24_code
def yX7_assign : MethodName := ⟨RX7, "assign", "()I"⟩
abbrev cX7_setRule : ByteArray := prog_9_method_25_code
def yX7_setRule : MethodName := ⟨RX7, "setRule", "(I)I"⟩
abbrev cX7_known : ByteArray := prog_9_method_26_code
def yX7_known : MethodName := ⟨RX7, "known", "(II)I"⟩
abbrev cX7_isSuspect : ByteArray := prog_9_method_27_code
def yX7_isSuspect : MethodName := ⟨RX7, "isSuspect", "(I)Z"⟩
abbrev cX7_hide : ByteArray := prog_9_method_28_code
def yX7_hide : MethodName := ⟨RX7, "hide", "(II)I"⟩
abbrev cX7_ask : ByteArray := prog_9_method_29_code
def yX7_ask : MethodName := ⟨RX7, "ask", "(I)I"⟩
abbrev cX7_isFound : ByteArray := prog_9_method_30_code
def yX7_isFound : MethodName := ⟨RX7, "isFound", "()Z"⟩
abbrev cX7_groups : ByteArray := prog_9_method_31_code
def yX7_groups : MethodName := ⟨RX7, "groups", "(II)I"⟩
abbrev cX7_bestKey : ByteArray := prog_9_method_32_code
def yX7_bestKey : MethodName := ⟨RX7, "bestKey", "()I"⟩
abbrev cX7_type : ByteArray := prog_9_method_33_code
def yX7_type : MethodName := ⟨RX7, "type", "(C)I"⟩
abbrev cX7_clearText : ByteArray := prog_9_method_34_code
def yX7_clearText : MethodName := ⟨RX7, "clearText", "()I"⟩
abbrev cX7_isSign : ByteArray := prog_9_method_35_code
def yX7_isSign : MethodName := ⟨RX7, "isSign", "(I)Z"⟩
abbrev cX7_takes : ByteArray := prog_9_method_36_code
def yX7_takes : MethodName := ⟨RX7, "takes", "(I)Z"⟩
abbrev cX7_isBetween : ByteArray := prog_9_method_37_code
def yX7_isBetween : MethodName := ⟨RX7, "isBetween", "(II)Z"⟩
abbrev cX7_takesKey : ByteArray := prog_9_method_38_code
def yX7_takesKey : MethodName := ⟨RX7, "takesKey", "()Z"⟩
abbrev cX7_isLayerText : ByteArray := prog_9_method_39_code
def yX7_isLayerText : MethodName := ⟨RX7, "isLayerText", "()Z"⟩
abbrev cX7_inverts : ByteArray := prog_9_method_40_code
def yX7_inverts : MethodName := ⟨RX7, "inverts", "()V"⟩
abbrev cX7_settles : ByteArray := prog_9_method_41_code
def yX7_settles : MethodName := ⟨RX7, "settles", "()V"⟩
abbrev cX7_repeats : ByteArray := prog_9_method_42_code
def yX7_repeats : MethodName := ⟨RX7, "repeats", "(I)V"⟩
abbrev cX7_joins : ByteArray := prog_9_method_43_code
def yX7_joins : MethodName := ⟨RX7, "joins", "()V"⟩
abbrev cX7_underlies : ByteArray := prog_9_method_44_code
def yX7_underlies : MethodName := ⟨RX7, "underlies", "()V"⟩
abbrev cX7_takesSet : ByteArray := prog_9_method_45_code
def yX7_takesSet : MethodName := ⟨RX7, "takesSet", "()Z"⟩
abbrev cX7_takesSigns : ByteArray := prog_9_method_46_code
def yX7_takesSigns : MethodName := ⟨RX7, "takesSigns", "()Z"⟩
abbrev cX7_takesLetter : ByteArray := prog_9_method_47_code
def yX7_takesLetter : MethodName := ⟨RX7, "takesLetter", "()Z"⟩
abbrev cX7_isExpressionText : ByteArray := prog_9_method_48_code
def yX7_isExpressionText : MethodName := ⟨RX7, "isExpressionText", "()Z"⟩
abbrev cX7_layers : ByteArray := prog_9_method_49_code
def yX7_layers : MethodName := ⟨RX7, "layers", "()I"⟩
abbrev cX7_undo : ByteArray := prog_9_method_50_code
def yX7_undo : MethodName := ⟨RX7, "undo", "()I"⟩
abbrev cX7_keep : ByteArray := prog_9_method_51_code
def yX7_keep : MethodName := ⟨RX7, "keep", "()I"⟩
abbrev cX7_restore : ByteArray := prog_9_method_52_code
def yX7_restore : MethodName := ⟨RX7, "restore", "()I"⟩
abbrev cX7_get : ByteArray := prog_9_method_53_code
def yX7_get : MethodName := ⟨RX7, "get", "(II)I"⟩
abbrev cX7_tells : ByteArray := prog_9_method_54_code
def yX7_tells : MethodName := ⟨RX7, "tells", "(II)I"⟩
abbrev cX7_returns : ByteArray := prog_9_method_55_code
def yX7_returns : MethodName := ⟨RX7, "returns", "(II)I"⟩
abbrev cX7_walks : ByteArray := prog_9_method_56_code
def yX7_walks : MethodName := ⟨RX7, "walks", "(III)I"⟩
abbrev cX7_cycle : ByteArray := prog_9_method_57_code
def yX7_cycle : MethodName := ⟨RX7, "cycle", "(II)I"⟩
abbrev cX7_set : ByteArray := prog_9_method_58_code
def yX7_set : MethodName := ⟨RX7, "set", "(II)I"⟩
abbrev cX7_onLayers : ByteArray := prog_9_method_59_code
def yX7_onLayers : MethodName := ⟨RX7, "onLayers", "(I)I"⟩
abbrev cX7_longest : ByteArray := prog_9_method_60_code
def yX7_longest : MethodName := ⟨RX7, "longest", "(I)I"⟩
abbrev cX7_map : ByteArray := prog_9_method_61_code
def yX7_map : MethodName := ⟨RX7, "map", "(II)I"⟩
abbrev cX7_layer : ByteArray := prog_9_method_62_code
def yX7_layer : MethodName := ⟨RX7, "layer", "(III)I"⟩
abbrev cX7_entry : ByteArray := prog_9_method_63_code
def yX7_entry : MethodName := ⟨RX7, "entry", "(III)I"⟩
abbrev cX7_follow : ByteArray := prog_9_method_64_code
def yX7_follow : MethodName := ⟨RX7, "follow", "(III)I"⟩
abbrev cX7_after : ByteArray := prog_9_method_65_code
def yX7_after : MethodName := ⟨RX7, "after", "(III)I"⟩
abbrev cX7_gives : ByteArray := prog_9_method_66_code
def yX7_gives : MethodName := ⟨RX7, "gives", "(I)I"⟩
abbrev cX7_apart : ByteArray := prog_9_method_67_code
def yX7_apart : MethodName := ⟨RX7, "apart", "(II)I"⟩
abbrev cX7_differ : ByteArray := prog_9_method_68_code
def yX7_differ : MethodName := ⟨RX7, "differ", "(II)I"⟩
abbrev cX7_probes : ByteArray := prog_9_method_69_code
def yX7_probes : MethodName := ⟨RX7, "probes", "(I)I"⟩
abbrev cX7_hidden : ByteArray := prog_9_method_70_code
def yX7_hidden : MethodName := ⟨RX7, "hidden", "(I)I"⟩
abbrev cX7_split : ByteArray := prog_9_method_71_code
def yX7_split : MethodName := ⟨RX7, "split", "(II)I"⟩
abbrev cX7_allEntries : ByteArray := prog_9_method_72_code
def yX7_allEntries : MethodName := ⟨RX7, "allEntries", "(Z)I"⟩
abbrev cX7_twins : ByteArray := prog_9_method_73_code
def yX7_twins : MethodName := ⟨RX7, "twins", "()I"⟩
abbrev cX7_count : ByteArray := prog_9_method_74_code
def yX7_count : MethodName := ⟨RX7, "count", "(I)I"⟩
def RL : String := "PileMapsLaw"
abbrev cL_law : ByteArray := code
def yL_law : MethodName := ⟨RL, "law", "([I)Z"⟩
abbrev vwCl : List vw_C := [(RX0, TX0, 4), (RX1, TX1, 5), (RX3, TX3, 4), (RX4, TX4, 3), (RX5, TX5, 3), (RX6, TX6, 7), (RX7, TX7, 20)]
end
section
theorem dX0_init_0 : decode cX0_init 0 = .ok (.aload_n 0, 1) := by decide +kernel
theorem dX0_init_1 : decode cX0_init 1 = .ok (.invokespecial 3, 3) := by decide +kernel
theorem dX0_init_4 : decode cX0_init 4 = .ok (.aload_n 0, 1) := by decide +kernel
theorem dX0_init_5 : decode cX0_init 5 = .ok (.iconst 4, 1) := by decide +kernel
theorem dX0_init_6 : decode cX0_init 6 = .ok (.bipush 16, 2) := by decide +kernel
theorem dX0_init_8 : decode cX0_init 8 = .ok (.multianewarray 9 2, 4) := by decide +kernel
theorem dX0_init_12 : decode cX0_init 12 = .ok (.putfield 11, 3) := by decide +kernel
theorem dX0_init_15 : decode cX0_init 15 = .ok (.aload_n 0, 1) := by decide +kernel
theorem dX0_init_16 : decode cX0_init 16 = .ok (.iconst 4, 1) := by decide +kernel
theorem dX0_init_17 : decode cX0_init 17 = .ok (.newarray .boolean, 2) := by decide +kernel
theorem dX0_init_19 : decode cX0_init 19 = .ok (.putfield 16, 3) := by decide +kernel
theorem dX0_init_22 : decode cX0_init 22 = .ok (.aload_n 0, 1) := by decide +kernel
theorem dX0_init_23 : decode cX0_init 23 = .ok (.bipush 16, 2) := by decide +kernel
theorem dX0_init_25 : decode cX0_init 25 = .ok (.newarray .int, 2) := by decide +kernel
theorem dX0_init_27 : decode cX0_init 27 = .ok (.putfield 20, 3) := by decide +kernel
theorem dX0_init_30 : decode cX0_init 30 = .ok (.aload_n 0, 1) := by decide +kernel
theorem dX0_init_31 : decode cX0_init 31 = .ok (.iconst 0, 1) := by decide +kernel
theorem dX0_init_32 : decode cX0_init 32 = .ok (.putfield 24, 3) := by decide +kernel
theorem dX0_init_35 : decode cX0_init 35 = .ok (.aload_n 0, 1) := by decide +kernel
theorem dX0_init_36 : decode cX0_init 36 = .ok (.getfield 20, 3) := by decide +kernel
theorem dX0_init_39 : decode cX0_init 39 = .ok (.bipush 16, 2) := by decide +kernel
theorem dX0_init_41 : decode cX0_init 41 = .ok (.invokestatic 28, 3) := by decide +kernel
theorem dX0_init_44 : decode cX0_init 44 = .ok (.return_, 1) := by decide +kernel
theorem dX0_copyFrom_0 : decode cX0_copyFrom 0 = .ok (.iconst 0, 1) := by decide +kernel
theorem dX0_copyFrom_1 : decode cX0_copyFrom 1 = .ok (.istore_n 2, 1) := by decide +kernel
theorem dX0_copyFrom_2 : decode cX0_copyFrom 2 = .ok (.iload_n 2, 1) := by decide +kernel
theorem dX0_copyFrom_3 : decode cX0_copyFrom 3 = .ok (.iconst 4, 1) := by decide +kernel
theorem dX0_copyFrom_4 : decode cX0_copyFrom 4 = .ok (.if_icmp .ge 36, 3) := by decide +kernel
theorem dX0_copyFrom_7 : decode cX0_copyFrom 7 = .ok (.aload_n 1, 1) := by decide +kernel
theorem dX0_copyFrom_8 : decode cX0_copyFrom 8 = .ok (.getfield 11, 3) := by decide +kernel
theorem dX0_copyFrom_11 : decode cX0_copyFrom 11 = .ok (.iload_n 2, 1) := by decide +kernel
theorem dX0_copyFrom_12 : decode cX0_copyFrom 12 = .ok (.aaload, 1) := by decide +kernel
theorem dX0_copyFrom_13 : decode cX0_copyFrom 13 = .ok (.aload_n 0, 1) := by decide +kernel
theorem dX0_copyFrom_14 : decode cX0_copyFrom 14 = .ok (.getfield 11, 3) := by decide +kernel
theorem dX0_copyFrom_17 : decode cX0_copyFrom 17 = .ok (.iload_n 2, 1) := by decide +kernel
theorem dX0_copyFrom_18 : decode cX0_copyFrom 18 = .ok (.aaload, 1) := by decide +kernel
theorem dX0_copyFrom_19 : decode cX0_copyFrom 19 = .ok (.invokestatic 34, 3) := by decide +kernel
theorem dX0_copyFrom_22 : decode cX0_copyFrom 22 = .ok (.aload_n 0, 1) := by decide +kernel
theorem dX0_copyFrom_23 : decode cX0_copyFrom 23 = .ok (.getfield 16, 3) := by decide +kernel
theorem dX0_copyFrom_26 : decode cX0_copyFrom 26 = .ok (.iload_n 2, 1) := by decide +kernel
theorem dX0_copyFrom_27 : decode cX0_copyFrom 27 = .ok (.aload_n 1, 1) := by decide +kernel
theorem dX0_copyFrom_28 : decode cX0_copyFrom 28 = .ok (.getfield 16, 3) := by decide +kernel
theorem dX0_copyFrom_31 : decode cX0_copyFrom 31 = .ok (.iload_n 2, 1) := by decide +kernel
theorem dX0_copyFrom_32 : decode cX0_copyFrom 32 = .ok (.baload, 1) := by decide +kernel
theorem dX0_copyFrom_33 : decode cX0_copyFrom 33 = .ok (.bastore, 1) := by decide +kernel
theorem dX0_copyFrom_34 : decode cX0_copyFrom 34 = .ok (.iinc 2 1, 3) := by decide +kernel
theorem dX0_copyFrom_37 : decode cX0_copyFrom 37 = .ok (.goto (-35), 3) := by decide +kernel
theorem dX0_copyFrom_40 : decode cX0_copyFrom 40 = .ok (.aload_n 1, 1) := by decide +kernel
theorem dX0_copyFrom_41 : decode cX0_copyFrom 41 = .ok (.getfield 20, 3) := by decide +kernel
theorem dX0_copyFrom_44 : decode cX0_copyFrom 44 = .ok (.aload_n 0, 1) := by decide +kernel
theorem dX0_copyFrom_45 : decode cX0_copyFrom 45 = .ok (.getfield 20, 3) := by decide +kernel
theorem dX0_copyFrom_48 : decode cX0_copyFrom 48 = .ok (.invokestatic 34, 3) := by decide +kernel
theorem dX0_copyFrom_51 : decode cX0_copyFrom 51 = .ok (.aload_n 0, 1) := by decide +kernel
theorem dX0_copyFrom_52 : decode cX0_copyFrom 52 = .ok (.aload_n 1, 1) := by decide +kernel
theorem dX0_copyFrom_53 : decode cX0_copyFrom 53 = .ok (.getfield 24, 3) := by decide +kernel
theorem dX0_copyFrom_56 : decode cX0_copyFrom 56 = .ok (.putfield 24, 3) := by decide +kernel
theorem dX0_copyFrom_59 : decode cX0_copyFrom 59 = .ok (.return_, 1) := by decide +kernel
theorem dX0_settle_0 : decode cX0_settle 0 = .ok (.iconst 0, 1) := by decide +kernel
theorem dX0_settle_1 : decode cX0_settle 1 = .ok (.istore_n 1, 1) := by decide +kernel
theorem dX0_settle_2 : decode cX0_settle 2 = .ok (.iconst 0, 1) := by decide +kernel
theorem dX0_settle_3 : decode cX0_settle 3 = .ok (.istore_n 2, 1) := by decide +kernel
theorem dX0_settle_4 : decode cX0_settle 4 = .ok (.iload_n 2, 1) := by decide +kernel
theorem dX0_settle_5 : decode cX0_settle 5 = .ok (.bipush 16, 2) := by decide +kernel
theorem dX0_settle_7 : decode cX0_settle 7 = .ok (.if_icmp .ge 57, 3) := by decide +kernel
theorem dX0_settle_10 : decode cX0_settle 10 = .ok (.aload_n 0, 1) := by decide +kernel
theorem dX0_settle_11 : decode cX0_settle 11 = .ok (.iload_n 2, 1) := by decide +kernel
theorem dX0_settle_12 : decode cX0_settle 12 = .ok (.invokevirtual 40, 3) := by decide +kernel
theorem dX0_settle_15 : decode cX0_settle 15 = .ok (.istore_n 3, 1) := by decide +kernel
theorem dX0_settle_16 : decode cX0_settle 16 = .ok (.iload_n 3, 1) := by decide +kernel
theorem dX0_settle_17 : decode cX0_settle 17 = .ok (.iconst (-1), 1) := by decide +kernel
theorem dX0_settle_18 : decode cX0_settle 18 = .ok (.if_icmp .ne 8, 3) := by decide +kernel
theorem dX0_settle_21 : decode cX0_settle 21 = .ok (.bipush 16, 2) := by decide +kernel
theorem dX0_settle_23 : decode cX0_settle 23 = .ok (.goto 11, 3) := by decide +kernel
theorem dX0_settle_26 : decode cX0_settle 26 = .ok (.aload_n 0, 1) := by decide +kernel
theorem dX0_settle_27 : decode cX0_settle 27 = .ok (.getfield 11, 3) := by decide +kernel
theorem dX0_settle_30 : decode cX0_settle 30 = .ok (.iload_n 3, 1) := by decide +kernel
theorem dX0_settle_31 : decode cX0_settle 31 = .ok (.aaload, 1) := by decide +kernel
theorem dX0_settle_32 : decode cX0_settle 32 = .ok (.iload_n 2, 1) := by decide +kernel
theorem dX0_settle_33 : decode cX0_settle 33 = .ok (.iaload, 1) := by decide +kernel
theorem dX0_settle_34 : decode cX0_settle 34 = .ok (.istore 4, 2) := by decide +kernel
theorem dX0_settle_36 : decode cX0_settle 36 = .ok (.aload_n 0, 1) := by decide +kernel
theorem dX0_settle_37 : decode cX0_settle 37 = .ok (.getfield 20, 3) := by decide +kernel
theorem dX0_settle_40 : decode cX0_settle 40 = .ok (.iload_n 2, 1) := by decide +kernel
theorem dX0_settle_41 : decode cX0_settle 41 = .ok (.iaload, 1) := by decide +kernel
theorem dX0_settle_42 : decode cX0_settle 42 = .ok (.iload 4, 2) := by decide +kernel
theorem dX0_settle_44 : decode cX0_settle 44 = .ok (.if_icmp .eq 6, 3) := by decide +kernel
theorem dX0_settle_47 : decode cX0_settle 47 = .ok (.iinc 1 1, 3) := by decide +kernel
theorem dX0_settle_50 : decode cX0_settle 50 = .ok (.aload_n 0, 1) := by decide +kernel
theorem dX0_settle_51 : decode cX0_settle 51 = .ok (.getfield 20, 3) := by decide +kernel
theorem dX0_settle_54 : decode cX0_settle 54 = .ok (.iload_n 2, 1) := by decide +kernel
theorem dX0_settle_55 : decode cX0_settle 55 = .ok (.iload 4, 2) := by decide +kernel
theorem dX0_settle_57 : decode cX0_settle 57 = .ok (.iastore, 1) := by decide +kernel
theorem dX0_settle_58 : decode cX0_settle 58 = .ok (.iinc 2 1, 3) := by decide +kernel
theorem dX0_settle_61 : decode cX0_settle 61 = .ok (.goto (-57), 3) := by decide +kernel
theorem dX0_settle_64 : decode cX0_settle 64 = .ok (.iload_n 1, 1) := by decide +kernel
theorem dX0_settle_65 : decode cX0_settle 65 = .ok (.ireturn, 1) := by decide +kernel
theorem dX0_tellingLayer_0 : decode cX0_tellingLayer 0 = .ok (.iconst 3, 1) := by decide +kernel
theorem dX0_tellingLayer_1 : decode cX0_tellingLayer 1 = .ok (.istore_n 2, 1) := by decide +kernel
theorem dX0_tellingLayer_2 : decode cX0_tellingLayer 2 = .ok (.iload_n 2, 1) := by decide +kernel
theorem dX0_tellingLayer_3 : decode cX0_tellingLayer 3 = .ok (.ifCond .lt 41, 3) := by decide +kernel
theorem dX0_tellingLayer_6 : decode cX0_tellingLayer 6 = .ok (.iload_n 2, 1) := by decide +kernel
theorem dX0_tellingLayer_7 : decode cX0_tellingLayer 7 = .ok (.aload_n 0, 1) := by decide +kernel
theorem dX0_tellingLayer_8 : decode cX0_tellingLayer 8 = .ok (.getfield 24, 3) := by decide +kernel
theorem dX0_tellingLayer_11 : decode cX0_tellingLayer 11 = .ok (.if_icmp .ge 27, 3) := by decide +kernel
theorem dX0_tellingLayer_14 : decode cX0_tellingLayer 14 = .ok (.aload_n 0, 1) := by decide +kernel
theorem dX0_tellingLayer_15 : decode cX0_tellingLayer 15 = .ok (.getfield 16, 3) := by decide +kernel
theorem dX0_tellingLayer_18 : decode cX0_tellingLayer 18 = .ok (.iload_n 2, 1) := by decide +kernel
theorem dX0_tellingLayer_19 : decode cX0_tellingLayer 19 = .ok (.baload, 1) := by decide +kernel
theorem dX0_tellingLayer_20 : decode cX0_tellingLayer 20 = .ok (.ifCond .eq 18, 3) := by decide +kernel
theorem dX0_tellingLayer_23 : decode cX0_tellingLayer 23 = .ok (.aload_n 0, 1) := by decide +kernel
theorem dX0_tellingLayer_24 : decode cX0_tellingLayer 24 = .ok (.getfield 11, 3) := by decide +kernel
theorem dX0_tellingLayer_27 : decode cX0_tellingLayer 27 = .ok (.iload_n 2, 1) := by decide +kernel
theorem dX0_tellingLayer_28 : decode cX0_tellingLayer 28 = .ok (.aaload, 1) := by decide +kernel
theorem dX0_tellingLayer_29 : decode cX0_tellingLayer 29 = .ok (.iload_n 1, 1) := by decide +kernel
theorem dX0_tellingLayer_30 : decode cX0_tellingLayer 30 = .ok (.iaload, 1) := by decide +kernel
theorem dX0_tellingLayer_31 : decode cX0_tellingLayer 31 = .ok (.bipush 17, 2) := by decide +kernel
theorem dX0_tellingLayer_33 : decode cX0_tellingLayer 33 = .ok (.if_icmp .eq 5, 3) := by decide +kernel
theorem dX0_tellingLayer_36 : decode cX0_tellingLayer 36 = .ok (.iload_n 2, 1) := by decide +kernel
theorem dX0_tellingLayer_37 : decode cX0_tellingLayer 37 = .ok (.ireturn, 1) := by decide +kernel
theorem dX0_tellingLayer_38 : decode cX0_tellingLayer 38 = .ok (.iinc 2 (-1), 3) := by decide +kernel
theorem dX0_tellingLayer_41 : decode cX0_tellingLayer 41 = .ok (.goto (-39), 3) := by decide +kernel
theorem dX0_tellingLayer_44 : decode cX0_tellingLayer 44 = .ok (.iconst (-1), 1) := by decide +kernel
theorem dX0_tellingLayer_45 : decode cX0_tellingLayer 45 = .ok (.ireturn, 1) := by decide +kernel
theorem dX0_addLayer_0 : decode cX0_addLayer 0 = .ok (.aload_n 0, 1) := by decide +kernel
theorem dX0_addLayer_1 : decode cX0_addLayer 1 = .ok (.getfield 24, 3) := by decide +kernel
theorem dX0_addLayer_4 : decode cX0_addLayer 4 = .ok (.iconst 4, 1) := by decide +kernel
theorem dX0_addLayer_5 : decode cX0_addLayer 5 = .ok (.if_icmp .lt 4, 3) := by decide +kernel
theorem dX0_addLayer_8 : decode cX0_addLayer 8 = .ok (.return_, 1) := by decide +kernel
theorem dX0_addLayer_9 : decode cX0_addLayer 9 = .ok (.aload_n 1, 1) := by decide +kernel
theorem dX0_addLayer_10 : decode cX0_addLayer 10 = .ok (.aload_n 0, 1) := by decide +kernel
theorem dX0_addLayer_11 : decode cX0_addLayer 11 = .ok (.getfield 11, 3) := by decide +kernel
theorem dX0_addLayer_14 : decode cX0_addLayer 14 = .ok (.aload_n 0, 1) := by decide +kernel
theorem dX0_addLayer_15 : decode cX0_addLayer 15 = .ok (.getfield 24, 3) := by decide +kernel
theorem dX0_addLayer_18 : decode cX0_addLayer 18 = .ok (.aaload, 1) := by decide +kernel
theorem dX0_addLayer_19 : decode cX0_addLayer 19 = .ok (.invokestatic 34, 3) := by decide +kernel
theorem dX0_addLayer_22 : decode cX0_addLayer 22 = .ok (.aload_n 0, 1) := by decide +kernel
theorem dX0_addLayer_23 : decode cX0_addLayer 23 = .ok (.getfield 16, 3) := by decide +kernel
theorem dX0_addLayer_26 : decode cX0_addLayer 26 = .ok (.aload_n 0, 1) := by decide +kernel
theorem dX0_addLayer_27 : decode cX0_addLayer 27 = .ok (.getfield 24, 3) := by decide +kernel
theorem dX0_addLayer_30 : decode cX0_addLayer 30 = .ok (.iconst 1, 1) := by decide +kernel
theorem dX0_addLayer_31 : decode cX0_addLayer 31 = .ok (.bastore, 1) := by decide +kernel
theorem dX0_addLayer_32 : decode cX0_addLayer 32 = .ok (.aload_n 0, 1) := by decide +kernel
theorem dX0_addLayer_33 : decode cX0_addLayer 33 = .ok (.dup, 1) := by decide +kernel
theorem dX0_addLayer_34 : decode cX0_addLayer 34 = .ok (.getfield 24, 3) := by decide +kernel
theorem dX0_addLayer_37 : decode cX0_addLayer 37 = .ok (.iconst 1, 1) := by decide +kernel
theorem dX0_addLayer_38 : decode cX0_addLayer 38 = .ok (.iadd, 1) := by decide +kernel
theorem dX0_addLayer_39 : decode cX0_addLayer 39 = .ok (.putfield 24, 3) := by decide +kernel
theorem dX0_addLayer_42 : decode cX0_addLayer 42 = .ok (.aload_n 0, 1) := by decide +kernel
theorem dX0_addLayer_43 : decode cX0_addLayer 43 = .ok (.invokevirtual 44, 3) := by decide +kernel
theorem dX0_addLayer_46 : decode cX0_addLayer 46 = .ok (.pop, 1) := by decide +kernel
theorem dX0_addLayer_47 : decode cX0_addLayer 47 = .ok (.return_, 1) := by decide +kernel
theorem dX0_removeTop_0 : decode cX0_removeTop 0 = .ok (.aload_n 0, 1) := by decide +kernel
theorem dX0_removeTop_1 : decode cX0_removeTop 1 = .ok (.getfield 24, 3) := by decide +kernel
theorem dX0_removeTop_4 : decode cX0_removeTop 4 = .ok (.ifCond .gt 5, 3) := by decide +kernel
theorem dX0_removeTop_7 : decode cX0_removeTop 7 = .ok (.iconst 0, 1) := by decide +kernel
theorem dX0_removeTop_8 : decode cX0_removeTop 8 = .ok (.ireturn, 1) := by decide +kernel
theorem dX0_removeTop_9 : decode cX0_removeTop 9 = .ok (.aload_n 0, 1) := by decide +kernel
theorem dX0_removeTop_10 : decode cX0_removeTop 10 = .ok (.dup, 1) := by decide +kernel
theorem dX0_removeTop_11 : decode cX0_removeTop 11 = .ok (.getfield 24, 3) := by decide +kernel
theorem dX0_removeTop_14 : decode cX0_removeTop 14 = .ok (.iconst 1, 1) := by decide +kernel
theorem dX0_removeTop_15 : decode cX0_removeTop 15 = .ok (.isub, 1) := by decide +kernel
theorem dX0_removeTop_16 : decode cX0_removeTop 16 = .ok (.putfield 24, 3) := by decide +kernel
theorem dX0_removeTop_19 : decode cX0_removeTop 19 = .ok (.aload_n 0, 1) := by decide +kernel
theorem dX0_removeTop_20 : decode cX0_removeTop 20 = .ok (.invokevirtual 44, 3) := by decide +kernel
theorem dX0_removeTop_23 : decode cX0_removeTop 23 = .ok (.pop, 1) := by decide +kernel
theorem dX0_removeTop_24 : decode cX0_removeTop 24 = .ok (.aload_n 0, 1) := by decide +kernel
theorem dX0_removeTop_25 : decode cX0_removeTop 25 = .ok (.aload_n 0, 1) := by decide +kernel
theorem dX0_removeTop_26 : decode cX0_removeTop 26 = .ok (.getfield 24, 3) := by decide +kernel
theorem dX0_removeTop_29 : decode cX0_removeTop 29 = .ok (.invokevirtual 48, 3) := by decide +kernel
theorem dX0_removeTop_32 : decode cX0_removeTop 32 = .ok (.ireturn, 1) := by decide +kernel
theorem dX0_becomeOneLayer_0 : decode cX0_becomeOneLayer 0 = .ok (.iconst 0, 1) := by decide +kernel
theorem dX0_becomeOneLayer_1 : decode cX0_becomeOneLayer 1 = .ok (.istore_n 2, 1) := by decide +kernel
theorem dX0_becomeOneLayer_2 : decode cX0_becomeOneLayer 2 = .ok (.iload_n 2, 1) := by decide +kernel
theorem dX0_becomeOneLayer_3 : decode cX0_becomeOneLayer 3 = .ok (.bipush 16, 2) := by decide +kernel
theorem dX0_becomeOneLayer_5 : decode cX0_becomeOneLayer 5 = .ok (.if_icmp .ge 33, 3) := by decide +kernel
theorem dX0_becomeOneLayer_8 : decode cX0_becomeOneLayer 8 = .ok (.aload_n 0, 1) := by decide +kernel
theorem dX0_becomeOneLayer_9 : decode cX0_becomeOneLayer 9 = .ok (.getfield 11, 3) := by decide +kernel
theorem dX0_becomeOneLayer_12 : decode cX0_becomeOneLayer 12 = .ok (.iconst 0, 1) := by decide +kernel
theorem dX0_becomeOneLayer_13 : decode cX0_becomeOneLayer 13 = .ok (.aaload, 1) := by decide +kernel
theorem dX0_becomeOneLayer_14 : decode cX0_becomeOneLayer 14 = .ok (.iload_n 2, 1) := by decide +kernel
theorem dX0_becomeOneLayer_15 : decode cX0_becomeOneLayer 15 = .ok (.aload_n 1, 1) := by decide +kernel
theorem dX0_becomeOneLayer_16 : decode cX0_becomeOneLayer 16 = .ok (.iload_n 2, 1) := by decide +kernel
theorem dX0_becomeOneLayer_17 : decode cX0_becomeOneLayer 17 = .ok (.iaload, 1) := by decide +kernel
theorem dX0_becomeOneLayer_18 : decode cX0_becomeOneLayer 18 = .ok (.bipush 16, 2) := by decide +kernel
theorem dX0_becomeOneLayer_20 : decode cX0_becomeOneLayer 20 = .ok (.if_icmp .ne 8, 3) := by decide +kernel
theorem dX0_becomeOneLayer_23 : decode cX0_becomeOneLayer 23 = .ok (.bipush 17, 2) := by decide +kernel
theorem dX0_becomeOneLayer_25 : decode cX0_becomeOneLayer 25 = .ok (.goto 6, 3) := by decide +kernel
theorem dX0_becomeOneLayer_28 : decode cX0_becomeOneLayer 28 = .ok (.aload_n 1, 1) := by decide +kernel
theorem dX0_becomeOneLayer_29 : decode cX0_becomeOneLayer 29 = .ok (.iload_n 2, 1) := by decide +kernel
theorem dX0_becomeOneLayer_30 : decode cX0_becomeOneLayer 30 = .ok (.iaload, 1) := by decide +kernel
theorem dX0_becomeOneLayer_31 : decode cX0_becomeOneLayer 31 = .ok (.iastore, 1) := by decide +kernel
theorem dX0_becomeOneLayer_32 : decode cX0_becomeOneLayer 32 = .ok (.iinc 2 1, 3) := by decide +kernel
theorem dX0_becomeOneLayer_35 : decode cX0_becomeOneLayer 35 = .ok (.goto (-33), 3) := by decide +kernel
theorem dX0_becomeOneLayer_38 : decode cX0_becomeOneLayer 38 = .ok (.aload_n 0, 1) := by decide +kernel
theorem dX0_becomeOneLayer_39 : decode cX0_becomeOneLayer 39 = .ok (.getfield 16, 3) := by decide +kernel
theorem dX0_becomeOneLayer_42 : decode cX0_becomeOneLayer 42 = .ok (.iconst 0, 1) := by decide +kernel
theorem dX0_becomeOneLayer_43 : decode cX0_becomeOneLayer 43 = .ok (.iconst 1, 1) := by decide +kernel
theorem dX0_becomeOneLayer_44 : decode cX0_becomeOneLayer 44 = .ok (.bastore, 1) := by decide +kernel
theorem dX0_becomeOneLayer_45 : decode cX0_becomeOneLayer 45 = .ok (.aload_n 0, 1) := by decide +kernel
theorem dX0_becomeOneLayer_46 : decode cX0_becomeOneLayer 46 = .ok (.iconst 1, 1) := by decide +kernel
theorem dX0_becomeOneLayer_47 : decode cX0_becomeOneLayer 47 = .ok (.putfield 24, 3) := by decide +kernel
theorem dX0_becomeOneLayer_50 : decode cX0_becomeOneLayer 50 = .ok (.aload_n 0, 1) := by decide +kernel
theorem dX0_becomeOneLayer_51 : decode cX0_becomeOneLayer 51 = .ok (.invokevirtual 44, 3) := by decide +kernel
theorem dX0_becomeOneLayer_54 : decode cX0_becomeOneLayer 54 = .ok (.pop, 1) := by decide +kernel
theorem dX0_becomeOneLayer_55 : decode cX0_becomeOneLayer 55 = .ok (.aload_n 0, 1) := by decide +kernel
theorem dX0_becomeOneLayer_56 : decode cX0_becomeOneLayer 56 = .ok (.iconst 0, 1) := by decide +kernel
theorem dX0_becomeOneLayer_57 : decode cX0_becomeOneLayer 57 = .ok (.invokevirtual 48, 3) := by decide +kernel
theorem dX0_becomeOneLayer_60 : decode cX0_becomeOneLayer 60 = .ok (.ireturn, 1) := by decide +kernel
theorem dX0_moveLayer_0 : decode cX0_moveLayer 0 = .ok (.iload_n 1, 1) := by decide +kernel
theorem dX0_moveLayer_1 : decode cX0_moveLayer 1 = .ok (.istore_n 3, 1) := by decide +kernel
theorem dX0_moveLayer_2 : decode cX0_moveLayer 2 = .ok (.iload_n 3, 1) := by decide +kernel
theorem dX0_moveLayer_3 : decode cX0_moveLayer 3 = .ok (.iload_n 2, 1) := by decide +kernel
theorem dX0_moveLayer_4 : decode cX0_moveLayer 4 = .ok (.if_icmp .ge 14, 3) := by decide +kernel
theorem dX0_moveLayer_7 : decode cX0_moveLayer 7 = .ok (.aload_n 0, 1) := by decide +kernel
theorem dX0_moveLayer_8 : decode cX0_moveLayer 8 = .ok (.iload_n 3, 1) := by decide +kernel
theorem dX0_moveLayer_9 : decode cX0_moveLayer 9 = .ok (.invokevirtual 51, 3) := by decide +kernel
theorem dX0_moveLayer_12 : decode cX0_moveLayer 12 = .ok (.iinc 3 1, 3) := by decide +kernel
theorem dX0_moveLayer_15 : decode cX0_moveLayer 15 = .ok (.goto (-13), 3) := by decide +kernel
theorem dX0_moveLayer_18 : decode cX0_moveLayer 18 = .ok (.iload_n 1, 1) := by decide +kernel
theorem dX0_moveLayer_19 : decode cX0_moveLayer 19 = .ok (.istore_n 3, 1) := by decide +kernel
theorem dX0_moveLayer_20 : decode cX0_moveLayer 20 = .ok (.iload_n 3, 1) := by decide +kernel
theorem dX0_moveLayer_21 : decode cX0_moveLayer 21 = .ok (.iload_n 2, 1) := by decide +kernel
theorem dX0_moveLayer_22 : decode cX0_moveLayer 22 = .ok (.if_icmp .le 16, 3) := by decide +kernel
theorem dX0_moveLayer_25 : decode cX0_moveLayer 25 = .ok (.aload_n 0, 1) := by decide +kernel
theorem dX0_moveLayer_26 : decode cX0_moveLayer 26 = .ok (.iload_n 3, 1) := by decide +kernel
theorem dX0_moveLayer_27 : decode cX0_moveLayer 27 = .ok (.iconst 1, 1) := by decide +kernel
theorem dX0_moveLayer_28 : decode cX0_moveLayer 28 = .ok (.isub, 1) := by decide +kernel
theorem dX0_moveLayer_29 : decode cX0_moveLayer 29 = .ok (.invokevirtual 51, 3) := by decide +kernel
theorem dX0_moveLayer_32 : decode cX0_moveLayer 32 = .ok (.iinc 3 (-1), 3) := by decide +kernel
theorem dX0_moveLayer_35 : decode cX0_moveLayer 35 = .ok (.goto (-15), 3) := by decide +kernel
theorem dX0_moveLayer_38 : decode cX0_moveLayer 38 = .ok (.return_, 1) := by decide +kernel
theorem dX0_swapWithNext_0 : decode cX0_swapWithNext 0 = .ok (.iload_n 1, 1) := by decide +kernel
theorem dX0_swapWithNext_1 : decode cX0_swapWithNext 1 = .ok (.ifCond .lt 10, 3) := by decide +kernel
theorem dX0_swapWithNext_4 : decode cX0_swapWithNext 4 = .ok (.iload_n 1, 1) := by decide +kernel
theorem dX0_swapWithNext_5 : decode cX0_swapWithNext 5 = .ok (.iconst 1, 1) := by decide +kernel
theorem dX0_swapWithNext_6 : decode cX0_swapWithNext 6 = .ok (.iadd, 1) := by decide +kernel
theorem dX0_swapWithNext_7 : decode cX0_swapWithNext 7 = .ok (.iconst 4, 1) := by decide +kernel
theorem dX0_swapWithNext_8 : decode cX0_swapWithNext 8 = .ok (.if_icmp .lt 4, 3) := by decide +kernel
theorem dX0_swapWithNext_11 : decode cX0_swapWithNext 11 = .ok (.return_, 1) := by decide +kernel
theorem dX0_swapWithNext_12 : decode cX0_swapWithNext 12 = .ok (.iconst 0, 1) := by decide +kernel
theorem dX0_swapWithNext_13 : decode cX0_swapWithNext 13 = .ok (.istore_n 2, 1) := by decide +kernel
theorem dX0_swapWithNext_14 : decode cX0_swapWithNext 14 = .ok (.iload_n 2, 1) := by decide +kernel
theorem dX0_swapWithNext_15 : decode cX0_swapWithNext 15 = .ok (.bipush 16, 2) := by decide +kernel
theorem dX0_swapWithNext_17 : decode cX0_swapWithNext 17 = .ok (.if_icmp .ge 47, 3) := by decide +kernel
theorem dX0_swapWithNext_20 : decode cX0_swapWithNext 20 = .ok (.aload_n 0, 1) := by decide +kernel
theorem dX0_swapWithNext_21 : decode cX0_swapWithNext 21 = .ok (.getfield 11, 3) := by decide +kernel
theorem dX0_swapWithNext_24 : decode cX0_swapWithNext 24 = .ok (.iload_n 1, 1) := by decide +kernel
theorem dX0_swapWithNext_25 : decode cX0_swapWithNext 25 = .ok (.aaload, 1) := by decide +kernel
theorem dX0_swapWithNext_26 : decode cX0_swapWithNext 26 = .ok (.iload_n 2, 1) := by decide +kernel
theorem dX0_swapWithNext_27 : decode cX0_swapWithNext 27 = .ok (.iaload, 1) := by decide +kernel
theorem dX0_swapWithNext_28 : decode cX0_swapWithNext 28 = .ok (.istore_n 3, 1) := by decide +kernel
theorem dX0_swapWithNext_29 : decode cX0_swapWithNext 29 = .ok (.aload_n 0, 1) := by decide +kernel
theorem dX0_swapWithNext_30 : decode cX0_swapWithNext 30 = .ok (.getfield 11, 3) := by decide +kernel
theorem dX0_swapWithNext_33 : decode cX0_swapWithNext 33 = .ok (.iload_n 1, 1) := by decide +kernel
theorem dX0_swapWithNext_34 : decode cX0_swapWithNext 34 = .ok (.aaload, 1) := by decide +kernel
theorem dX0_swapWithNext_35 : decode cX0_swapWithNext 35 = .ok (.iload_n 2, 1) := by decide +kernel
theorem dX0_swapWithNext_36 : decode cX0_swapWithNext 36 = .ok (.aload_n 0, 1) := by decide +kernel
theorem dX0_swapWithNext_37 : decode cX0_swapWithNext 37 = .ok (.getfield 11, 3) := by decide +kernel
theorem dX0_swapWithNext_40 : decode cX0_swapWithNext 40 = .ok (.iload_n 1, 1) := by decide +kernel
theorem dX0_swapWithNext_41 : decode cX0_swapWithNext 41 = .ok (.iconst 1, 1) := by decide +kernel
theorem dX0_swapWithNext_42 : decode cX0_swapWithNext 42 = .ok (.iadd, 1) := by decide +kernel
theorem dX0_swapWithNext_43 : decode cX0_swapWithNext 43 = .ok (.aaload, 1) := by decide +kernel
theorem dX0_swapWithNext_44 : decode cX0_swapWithNext 44 = .ok (.iload_n 2, 1) := by decide +kernel
theorem dX0_swapWithNext_45 : decode cX0_swapWithNext 45 = .ok (.iaload, 1) := by decide +kernel
theorem dX0_swapWithNext_46 : decode cX0_swapWithNext 46 = .ok (.iastore, 1) := by decide +kernel
theorem dX0_swapWithNext_47 : decode cX0_swapWithNext 47 = .ok (.aload_n 0, 1) := by decide +kernel
theorem dX0_swapWithNext_48 : decode cX0_swapWithNext 48 = .ok (.getfield 11, 3) := by decide +kernel
theorem dX0_swapWithNext_51 : decode cX0_swapWithNext 51 = .ok (.iload_n 1, 1) := by decide +kernel
theorem dX0_swapWithNext_52 : decode cX0_swapWithNext 52 = .ok (.iconst 1, 1) := by decide +kernel
theorem dX0_swapWithNext_53 : decode cX0_swapWithNext 53 = .ok (.iadd, 1) := by decide +kernel
theorem dX0_swapWithNext_54 : decode cX0_swapWithNext 54 = .ok (.aaload, 1) := by decide +kernel
theorem dX0_swapWithNext_55 : decode cX0_swapWithNext 55 = .ok (.iload_n 2, 1) := by decide +kernel
theorem dX0_swapWithNext_56 : decode cX0_swapWithNext 56 = .ok (.iload_n 3, 1) := by decide +kernel
theorem dX0_swapWithNext_57 : decode cX0_swapWithNext 57 = .ok (.iastore, 1) := by decide +kernel
theorem dX0_swapWithNext_58 : decode cX0_swapWithNext 58 = .ok (.iinc 2 1, 3) := by decide +kernel
theorem dX0_swapWithNext_61 : decode cX0_swapWithNext 61 = .ok (.goto (-47), 3) := by decide +kernel
theorem dX0_swapWithNext_64 : decode cX0_swapWithNext 64 = .ok (.aload_n 0, 1) := by decide +kernel
theorem dX0_swapWithNext_65 : decode cX0_swapWithNext 65 = .ok (.getfield 16, 3) := by decide +kernel
theorem dX0_swapWithNext_68 : decode cX0_swapWithNext 68 = .ok (.iload_n 1, 1) := by decide +kernel
theorem dX0_swapWithNext_69 : decode cX0_swapWithNext 69 = .ok (.baload, 1) := by decide +kernel
theorem dX0_swapWithNext_70 : decode cX0_swapWithNext 70 = .ok (.istore_n 2, 1) := by decide +kernel
theorem dX0_swapWithNext_71 : decode cX0_swapWithNext 71 = .ok (.aload_n 0, 1) := by decide +kernel
theorem dX0_swapWithNext_72 : decode cX0_swapWithNext 72 = .ok (.getfield 16, 3) := by decide +kernel
theorem dX0_swapWithNext_75 : decode cX0_swapWithNext 75 = .ok (.iload_n 1, 1) := by decide +kernel
theorem dX0_swapWithNext_76 : decode cX0_swapWithNext 76 = .ok (.aload_n 0, 1) := by decide +kernel
theorem dX0_swapWithNext_77 : decode cX0_swapWithNext 77 = .ok (.getfield 16, 3) := by decide +kernel
theorem dX0_swapWithNext_80 : decode cX0_swapWithNext 80 = .ok (.iload_n 1, 1) := by decide +kernel
theorem dX0_swapWithNext_81 : decode cX0_swapWithNext 81 = .ok (.iconst 1, 1) := by decide +kernel
theorem dX0_swapWithNext_82 : decode cX0_swapWithNext 82 = .ok (.iadd, 1) := by decide +kernel
theorem dX0_swapWithNext_83 : decode cX0_swapWithNext 83 = .ok (.baload, 1) := by decide +kernel
theorem dX0_swapWithNext_84 : decode cX0_swapWithNext 84 = .ok (.bastore, 1) := by decide +kernel
theorem dX0_swapWithNext_85 : decode cX0_swapWithNext 85 = .ok (.aload_n 0, 1) := by decide +kernel
theorem dX0_swapWithNext_86 : decode cX0_swapWithNext 86 = .ok (.getfield 16, 3) := by decide +kernel
theorem dX0_swapWithNext_89 : decode cX0_swapWithNext 89 = .ok (.iload_n 1, 1) := by decide +kernel
theorem dX0_swapWithNext_90 : decode cX0_swapWithNext 90 = .ok (.iconst 1, 1) := by decide +kernel
theorem dX0_swapWithNext_91 : decode cX0_swapWithNext 91 = .ok (.iadd, 1) := by decide +kernel
theorem dX0_swapWithNext_92 : decode cX0_swapWithNext 92 = .ok (.iload_n 2, 1) := by decide +kernel
theorem dX0_swapWithNext_93 : decode cX0_swapWithNext 93 = .ok (.bastore, 1) := by decide +kernel
theorem dX0_swapWithNext_94 : decode cX0_swapWithNext 94 = .ok (.return_, 1) := by decide +kernel
theorem dX0_isFlat_0 : decode cX0_isFlat 0 = .ok (.aload_n 0, 1) := by decide +kernel
theorem dX0_isFlat_1 : decode cX0_isFlat 1 = .ok (.getfield 24, 3) := by decide +kernel
theorem dX0_isFlat_4 : decode cX0_isFlat 4 = .ok (.ifCond .eq 28, 3) := by decide +kernel
theorem dX0_isFlat_7 : decode cX0_isFlat 7 = .ok (.aload_n 0, 1) := by decide +kernel
theorem dX0_isFlat_8 : decode cX0_isFlat 8 = .ok (.getfield 24, 3) := by decide +kernel
theorem dX0_isFlat_11 : decode cX0_isFlat 11 = .ok (.iconst 1, 1) := by decide +kernel
theorem dX0_isFlat_12 : decode cX0_isFlat 12 = .ok (.if_icmp .ne 24, 3) := by decide +kernel
theorem dX0_isFlat_15 : decode cX0_isFlat 15 = .ok (.aload_n 0, 1) := by decide +kernel
theorem dX0_isFlat_16 : decode cX0_isFlat 16 = .ok (.getfield 16, 3) := by decide +kernel
theorem dX0_isFlat_19 : decode cX0_isFlat 19 = .ok (.iconst 0, 1) := by decide +kernel
theorem dX0_isFlat_20 : decode cX0_isFlat 20 = .ok (.baload, 1) := by decide +kernel
theorem dX0_isFlat_21 : decode cX0_isFlat 21 = .ok (.ifCond .eq 15, 3) := by decide +kernel
theorem dX0_isFlat_24 : decode cX0_isFlat 24 = .ok (.aload_n 0, 1) := by decide +kernel
theorem dX0_isFlat_25 : decode cX0_isFlat 25 = .ok (.iconst 0, 1) := by decide +kernel
theorem dX0_isFlat_26 : decode cX0_isFlat 26 = .ok (.invokevirtual 55, 3) := by decide +kernel
theorem dX0_isFlat_29 : decode cX0_isFlat 29 = .ok (.ifCond .ne 7, 3) := by decide +kernel
theorem dX0_isFlat_32 : decode cX0_isFlat 32 = .ok (.iconst 1, 1) := by decide +kernel
theorem dX0_isFlat_33 : decode cX0_isFlat 33 = .ok (.goto 4, 3) := by decide +kernel
theorem dX0_isFlat_36 : decode cX0_isFlat 36 = .ok (.iconst 0, 1) := by decide +kernel
theorem dX0_isFlat_37 : decode cX0_isFlat 37 = .ok (.ireturn, 1) := by decide +kernel
theorem dX0_layersOn_0 : decode cX0_layersOn 0 = .ok (.iconst 0, 1) := by decide +kernel
theorem dX0_layersOn_1 : decode cX0_layersOn 1 = .ok (.istore_n 1, 1) := by decide +kernel
theorem dX0_layersOn_2 : decode cX0_layersOn 2 = .ok (.iconst 0, 1) := by decide +kernel
theorem dX0_layersOn_3 : decode cX0_layersOn 3 = .ok (.istore_n 2, 1) := by decide +kernel
theorem dX0_layersOn_4 : decode cX0_layersOn 4 = .ok (.iload_n 2, 1) := by decide +kernel
theorem dX0_layersOn_5 : decode cX0_layersOn 5 = .ok (.aload_n 0, 1) := by decide +kernel
theorem dX0_layersOn_6 : decode cX0_layersOn 6 = .ok (.getfield 24, 3) := by decide +kernel
theorem dX0_layersOn_9 : decode cX0_layersOn 9 = .ok (.if_icmp .ge 26, 3) := by decide +kernel
theorem dX0_layersOn_12 : decode cX0_layersOn 12 = .ok (.iload_n 2, 1) := by decide +kernel
theorem dX0_layersOn_13 : decode cX0_layersOn 13 = .ok (.iconst 4, 1) := by decide +kernel
theorem dX0_layersOn_14 : decode cX0_layersOn 14 = .ok (.if_icmp .ge 21, 3) := by decide +kernel
theorem dX0_layersOn_17 : decode cX0_layersOn 17 = .ok (.aload_n 0, 1) := by decide +kernel
theorem dX0_layersOn_18 : decode cX0_layersOn 18 = .ok (.getfield 16, 3) := by decide +kernel
theorem dX0_layersOn_21 : decode cX0_layersOn 21 = .ok (.iload_n 2, 1) := by decide +kernel
theorem dX0_layersOn_22 : decode cX0_layersOn 22 = .ok (.baload, 1) := by decide +kernel
theorem dX0_layersOn_23 : decode cX0_layersOn 23 = .ok (.ifCond .eq 6, 3) := by decide +kernel
theorem dX0_layersOn_26 : decode cX0_layersOn 26 = .ok (.iinc 1 1, 3) := by decide +kernel
theorem dX0_layersOn_29 : decode cX0_layersOn 29 = .ok (.iinc 2 1, 3) := by decide +kernel
theorem dX0_layersOn_32 : decode cX0_layersOn 32 = .ok (.goto (-28), 3) := by decide +kernel
theorem dX0_layersOn_35 : decode cX0_layersOn 35 = .ok (.iload_n 1, 1) := by decide +kernel
theorem dX0_layersOn_36 : decode cX0_layersOn 36 = .ok (.ireturn, 1) := by decide +kernel
theorem dX0_entriesIn_0 : decode cX0_entriesIn 0 = .ok (.iconst 0, 1) := by decide +kernel
theorem dX0_entriesIn_1 : decode cX0_entriesIn 1 = .ok (.istore_n 2, 1) := by decide +kernel
theorem dX0_entriesIn_2 : decode cX0_entriesIn 2 = .ok (.iconst 0, 1) := by decide +kernel
theorem dX0_entriesIn_3 : decode cX0_entriesIn 3 = .ok (.istore_n 3, 1) := by decide +kernel
theorem dX0_entriesIn_4 : decode cX0_entriesIn 4 = .ok (.iload_n 3, 1) := by decide +kernel
theorem dX0_entriesIn_5 : decode cX0_entriesIn 5 = .ok (.bipush 16, 2) := by decide +kernel
theorem dX0_entriesIn_7 : decode cX0_entriesIn 7 = .ok (.if_icmp .ge 25, 3) := by decide +kernel
theorem dX0_entriesIn_10 : decode cX0_entriesIn 10 = .ok (.aload_n 0, 1) := by decide +kernel
theorem dX0_entriesIn_11 : decode cX0_entriesIn 11 = .ok (.getfield 11, 3) := by decide +kernel
theorem dX0_entriesIn_14 : decode cX0_entriesIn 14 = .ok (.iload_n 1, 1) := by decide +kernel
theorem dX0_entriesIn_15 : decode cX0_entriesIn 15 = .ok (.aaload, 1) := by decide +kernel
theorem dX0_entriesIn_16 : decode cX0_entriesIn 16 = .ok (.iload_n 3, 1) := by decide +kernel
theorem dX0_entriesIn_17 : decode cX0_entriesIn 17 = .ok (.iaload, 1) := by decide +kernel
theorem dX0_entriesIn_18 : decode cX0_entriesIn 18 = .ok (.bipush 17, 2) := by decide +kernel
theorem dX0_entriesIn_20 : decode cX0_entriesIn 20 = .ok (.if_icmp .eq 6, 3) := by decide +kernel
theorem dX0_entriesIn_23 : decode cX0_entriesIn 23 = .ok (.iinc 2 1, 3) := by decide +kernel
theorem dX0_entriesIn_26 : decode cX0_entriesIn 26 = .ok (.iinc 3 1, 3) := by decide +kernel
theorem dX0_entriesIn_29 : decode cX0_entriesIn 29 = .ok (.goto (-25), 3) := by decide +kernel
theorem dX0_entriesIn_32 : decode cX0_entriesIn 32 = .ok (.iload_n 2, 1) := by decide +kernel
theorem dX0_entriesIn_33 : decode cX0_entriesIn 33 = .ok (.ireturn, 1) := by decide +kernel
theorem dX0_nowhereIn_0 : decode cX0_nowhereIn 0 = .ok (.iconst 0, 1) := by decide +kernel
theorem dX0_nowhereIn_1 : decode cX0_nowhereIn 1 = .ok (.istore_n 2, 1) := by decide +kernel
theorem dX0_nowhereIn_2 : decode cX0_nowhereIn 2 = .ok (.iconst 0, 1) := by decide +kernel
theorem dX0_nowhereIn_3 : decode cX0_nowhereIn 3 = .ok (.istore_n 3, 1) := by decide +kernel
theorem dX0_nowhereIn_4 : decode cX0_nowhereIn 4 = .ok (.iload_n 3, 1) := by decide +kernel
theorem dX0_nowhereIn_5 : decode cX0_nowhereIn 5 = .ok (.bipush 16, 2) := by decide +kernel
theorem dX0_nowhereIn_7 : decode cX0_nowhereIn 7 = .ok (.if_icmp .ge 25, 3) := by decide +kernel
theorem dX0_nowhereIn_10 : decode cX0_nowhereIn 10 = .ok (.aload_n 0, 1) := by decide +kernel
theorem dX0_nowhereIn_11 : decode cX0_nowhereIn 11 = .ok (.getfield 11, 3) := by decide +kernel
theorem dX0_nowhereIn_14 : decode cX0_nowhereIn 14 = .ok (.iload_n 1, 1) := by decide +kernel
theorem dX0_nowhereIn_15 : decode cX0_nowhereIn 15 = .ok (.aaload, 1) := by decide +kernel
theorem dX0_nowhereIn_16 : decode cX0_nowhereIn 16 = .ok (.iload_n 3, 1) := by decide +kernel
theorem dX0_nowhereIn_17 : decode cX0_nowhereIn 17 = .ok (.iaload, 1) := by decide +kernel
theorem dX0_nowhereIn_18 : decode cX0_nowhereIn 18 = .ok (.bipush 16, 2) := by decide +kernel
theorem dX0_nowhereIn_20 : decode cX0_nowhereIn 20 = .ok (.if_icmp .ne 6, 3) := by decide +kernel
theorem dX0_nowhereIn_23 : decode cX0_nowhereIn 23 = .ok (.iinc 2 1, 3) := by decide +kernel
theorem dX0_nowhereIn_26 : decode cX0_nowhereIn 26 = .ok (.iinc 3 1, 3) := by decide +kernel
theorem dX0_nowhereIn_29 : decode cX0_nowhereIn 29 = .ok (.goto (-25), 3) := by decide +kernel
theorem dX0_nowhereIn_32 : decode cX0_nowhereIn 32 = .ok (.iload_n 2, 1) := by decide +kernel
theorem dX0_nowhereIn_33 : decode cX0_nowhereIn 33 = .ok (.ireturn, 1) := by decide +kernel
theorem dX0_shadowedIn_0 : decode cX0_shadowedIn 0 = .ok (.iconst 0, 1) := by decide +kernel
theorem dX0_shadowedIn_1 : decode cX0_shadowedIn 1 = .ok (.istore_n 2, 1) := by decide +kernel
theorem dX0_shadowedIn_2 : decode cX0_shadowedIn 2 = .ok (.iconst 0, 1) := by decide +kernel
theorem dX0_shadowedIn_3 : decode cX0_shadowedIn 3 = .ok (.istore_n 3, 1) := by decide +kernel
theorem dX0_shadowedIn_4 : decode cX0_shadowedIn 4 = .ok (.iload_n 3, 1) := by decide +kernel
theorem dX0_shadowedIn_5 : decode cX0_shadowedIn 5 = .ok (.bipush 16, 2) := by decide +kernel
theorem dX0_shadowedIn_7 : decode cX0_shadowedIn 7 = .ok (.if_icmp .ge 43, 3) := by decide +kernel
theorem dX0_shadowedIn_10 : decode cX0_shadowedIn 10 = .ok (.aload_n 0, 1) := by decide +kernel
theorem dX0_shadowedIn_11 : decode cX0_shadowedIn 11 = .ok (.getfield 16, 3) := by decide +kernel
theorem dX0_shadowedIn_14 : decode cX0_shadowedIn 14 = .ok (.iload_n 1, 1) := by decide +kernel
theorem dX0_shadowedIn_15 : decode cX0_shadowedIn 15 = .ok (.baload, 1) := by decide +kernel
theorem dX0_shadowedIn_16 : decode cX0_shadowedIn 16 = .ok (.ifCond .eq 28, 3) := by decide +kernel
theorem dX0_shadowedIn_19 : decode cX0_shadowedIn 19 = .ok (.aload_n 0, 1) := by decide +kernel
theorem dX0_shadowedIn_20 : decode cX0_shadowedIn 20 = .ok (.getfield 11, 3) := by decide +kernel
theorem dX0_shadowedIn_23 : decode cX0_shadowedIn 23 = .ok (.iload_n 1, 1) := by decide +kernel
theorem dX0_shadowedIn_24 : decode cX0_shadowedIn 24 = .ok (.aaload, 1) := by decide +kernel
theorem dX0_shadowedIn_25 : decode cX0_shadowedIn 25 = .ok (.iload_n 3, 1) := by decide +kernel
theorem dX0_shadowedIn_26 : decode cX0_shadowedIn 26 = .ok (.iaload, 1) := by decide +kernel
theorem dX0_shadowedIn_27 : decode cX0_shadowedIn 27 = .ok (.bipush 17, 2) := by decide +kernel
theorem dX0_shadowedIn_29 : decode cX0_shadowedIn 29 = .ok (.if_icmp .eq 15, 3) := by decide +kernel
theorem dX0_shadowedIn_32 : decode cX0_shadowedIn 32 = .ok (.aload_n 0, 1) := by decide +kernel
theorem dX0_shadowedIn_33 : decode cX0_shadowedIn 33 = .ok (.iload_n 3, 1) := by decide +kernel
theorem dX0_shadowedIn_34 : decode cX0_shadowedIn 34 = .ok (.invokevirtual 40, 3) := by decide +kernel
theorem dX0_shadowedIn_37 : decode cX0_shadowedIn 37 = .ok (.iload_n 1, 1) := by decide +kernel
theorem dX0_shadowedIn_38 : decode cX0_shadowedIn 38 = .ok (.if_icmp .le 6, 3) := by decide +kernel
theorem dX0_shadowedIn_41 : decode cX0_shadowedIn 41 = .ok (.iinc 2 1, 3) := by decide +kernel
theorem dX0_shadowedIn_44 : decode cX0_shadowedIn 44 = .ok (.iinc 3 1, 3) := by decide +kernel
theorem dX0_shadowedIn_47 : decode cX0_shadowedIn 47 = .ok (.goto (-43), 3) := by decide +kernel
theorem dX0_shadowedIn_50 : decode cX0_shadowedIn 50 = .ok (.iload_n 2, 1) := by decide +kernel
theorem dX0_shadowedIn_51 : decode cX0_shadowedIn 51 = .ok (.ireturn, 1) := by decide +kernel
theorem dX0_shadowed_0 : decode cX0_shadowed 0 = .ok (.iconst 0, 1) := by decide +kernel
theorem dX0_shadowed_1 : decode cX0_shadowed 1 = .ok (.istore_n 1, 1) := by decide +kernel
theorem dX0_shadowed_2 : decode cX0_shadowed 2 = .ok (.iconst 0, 1) := by decide +kernel
theorem dX0_shadowed_3 : decode cX0_shadowed 3 = .ok (.istore_n 2, 1) := by decide +kernel
theorem dX0_shadowed_4 : decode cX0_shadowed 4 = .ok (.iload_n 2, 1) := by decide +kernel
theorem dX0_shadowed_5 : decode cX0_shadowed 5 = .ok (.aload_n 0, 1) := by decide +kernel
theorem dX0_shadowed_6 : decode cX0_shadowed 6 = .ok (.getfield 24, 3) := by decide +kernel
theorem dX0_shadowed_9 : decode cX0_shadowed 9 = .ok (.if_icmp .ge 22, 3) := by decide +kernel
theorem dX0_shadowed_12 : decode cX0_shadowed 12 = .ok (.iload_n 2, 1) := by decide +kernel
theorem dX0_shadowed_13 : decode cX0_shadowed 13 = .ok (.iconst 4, 1) := by decide +kernel
theorem dX0_shadowed_14 : decode cX0_shadowed 14 = .ok (.if_icmp .ge 17, 3) := by decide +kernel
theorem dX0_shadowed_17 : decode cX0_shadowed 17 = .ok (.iload_n 1, 1) := by decide +kernel
theorem dX0_shadowed_18 : decode cX0_shadowed 18 = .ok (.aload_n 0, 1) := by decide +kernel
theorem dX0_shadowed_19 : decode cX0_shadowed 19 = .ok (.iload_n 2, 1) := by decide +kernel
theorem dX0_shadowed_20 : decode cX0_shadowed 20 = .ok (.invokevirtual 58, 3) := by decide +kernel
theorem dX0_shadowed_23 : decode cX0_shadowed 23 = .ok (.iadd, 1) := by decide +kernel
theorem dX0_shadowed_24 : decode cX0_shadowed 24 = .ok (.istore_n 1, 1) := by decide +kernel
theorem dX0_shadowed_25 : decode cX0_shadowed 25 = .ok (.iinc 2 1, 3) := by decide +kernel
theorem dX0_shadowed_28 : decode cX0_shadowed 28 = .ok (.goto (-24), 3) := by decide +kernel
theorem dX0_shadowed_31 : decode cX0_shadowed 31 = .ok (.iload_n 1, 1) := by decide +kernel
theorem dX0_shadowed_32 : decode cX0_shadowed 32 = .ok (.ireturn, 1) := by decide +kernel
theorem dX0_allEntries_0 : decode cX0_allEntries 0 = .ok (.iconst 0, 1) := by decide +kernel
theorem dX0_allEntries_1 : decode cX0_allEntries 1 = .ok (.istore_n 1, 1) := by decide +kernel
theorem dX0_allEntries_2 : decode cX0_allEntries 2 = .ok (.iconst 0, 1) := by decide +kernel
theorem dX0_allEntries_3 : decode cX0_allEntries 3 = .ok (.istore_n 2, 1) := by decide +kernel
theorem dX0_allEntries_4 : decode cX0_allEntries 4 = .ok (.iload_n 2, 1) := by decide +kernel
theorem dX0_allEntries_5 : decode cX0_allEntries 5 = .ok (.aload_n 0, 1) := by decide +kernel
theorem dX0_allEntries_6 : decode cX0_allEntries 6 = .ok (.getfield 24, 3) := by decide +kernel
theorem dX0_allEntries_9 : decode cX0_allEntries 9 = .ok (.if_icmp .ge 22, 3) := by decide +kernel
theorem dX0_allEntries_12 : decode cX0_allEntries 12 = .ok (.iload_n 2, 1) := by decide +kernel
theorem dX0_allEntries_13 : decode cX0_allEntries 13 = .ok (.iconst 4, 1) := by decide +kernel
theorem dX0_allEntries_14 : decode cX0_allEntries 14 = .ok (.if_icmp .ge 17, 3) := by decide +kernel
theorem dX0_allEntries_17 : decode cX0_allEntries 17 = .ok (.iload_n 1, 1) := by decide +kernel
theorem dX0_allEntries_18 : decode cX0_allEntries 18 = .ok (.aload_n 0, 1) := by decide +kernel
theorem dX0_allEntries_19 : decode cX0_allEntries 19 = .ok (.iload_n 2, 1) := by decide +kernel
theorem dX0_allEntries_20 : decode cX0_allEntries 20 = .ok (.invokevirtual 48, 3) := by decide +kernel
theorem dX0_allEntries_23 : decode cX0_allEntries 23 = .ok (.iadd, 1) := by decide +kernel
theorem dX0_allEntries_24 : decode cX0_allEntries 24 = .ok (.istore_n 1, 1) := by decide +kernel
theorem dX0_allEntries_25 : decode cX0_allEntries 25 = .ok (.iinc 2 1, 3) := by decide +kernel
theorem dX0_allEntries_28 : decode cX0_allEntries 28 = .ok (.goto (-24), 3) := by decide +kernel
theorem dX0_allEntries_31 : decode cX0_allEntries 31 = .ok (.iload_n 1, 1) := by decide +kernel
theorem dX0_allEntries_32 : decode cX0_allEntries 32 = .ok (.ireturn, 1) := by decide +kernel
theorem dX1_init_0 : decode cX1_init 0 = .ok (.aload_n 0, 1) := by decide +kernel
theorem dX1_init_1 : decode cX1_init 1 = .ok (.invokespecial 3, 3) := by decide +kernel
theorem dX1_init_4 : decode cX1_init 4 = .ok (.aload_n 0, 1) := by decide +kernel
theorem dX1_init_5 : decode cX1_init 5 = .ok (.new 9, 3) := by decide +kernel
theorem dX1_init_8 : decode cX1_init 8 = .ok (.dup, 1) := by decide +kernel
theorem dX1_init_9 : decode cX1_init 9 = .ok (.invokespecial 11, 3) := by decide +kernel
theorem dX1_init_12 : decode cX1_init 12 = .ok (.putfield 12, 3) := by decide +kernel
theorem dX1_init_15 : decode cX1_init 15 = .ok (.aload_n 0, 1) := by decide +kernel
theorem dX1_init_16 : decode cX1_init 16 = .ok (.bipush 10, 2) := by decide +kernel
theorem dX1_init_18 : decode cX1_init 18 = .ok (.bipush 16, 2) := by decide +kernel
theorem dX1_init_20 : decode cX1_init 20 = .ok (.multianewarray 18 2, 4) := by decide +kernel
theorem dX1_init_24 : decode cX1_init 24 = .ok (.putfield 20, 3) := by decide +kernel
theorem dX1_init_27 : decode cX1_init 27 = .ok (.aload_n 0, 1) := by decide +kernel
theorem dX1_init_28 : decode cX1_init 28 = .ok (.bipush 16, 2) := by decide +kernel
theorem dX1_init_30 : decode cX1_init 30 = .ok (.newarray .int, 2) := by decide +kernel
theorem dX1_init_32 : decode cX1_init 32 = .ok (.putfield 23, 3) := by decide +kernel
theorem dX1_init_35 : decode cX1_init 35 = .ok (.aload_n 0, 1) := by decide +kernel
theorem dX1_init_36 : decode cX1_init 36 = .ok (.bipush 16, 2) := by decide +kernel
theorem dX1_init_38 : decode cX1_init 38 = .ok (.newarray .int, 2) := by decide +kernel
theorem dX1_init_40 : decode cX1_init 40 = .ok (.putfield 27, 3) := by decide +kernel
theorem dX1_init_43 : decode cX1_init 43 = .ok (.aload_n 0, 1) := by decide +kernel
theorem dX1_init_44 : decode cX1_init 44 = .ok (.iconst (-1), 1) := by decide +kernel
theorem dX1_init_45 : decode cX1_init 45 = .ok (.putfield 30, 3) := by decide +kernel
theorem dX1_init_48 : decode cX1_init 48 = .ok (.return_, 1) := by decide +kernel
theorem dX1_readLayer_0 : decode cX1_readLayer 0 = .ok (.aload_n 0, 1) := by decide +kernel
theorem dX1_readLayer_1 : decode cX1_readLayer 1 = .ok (.getfield 12, 3) := by decide +kernel
theorem dX1_readLayer_4 : decode cX1_readLayer 4 = .ok (.iconst 0, 1) := by decide +kernel
theorem dX1_readLayer_5 : decode cX1_readLayer 5 = .ok (.putfield 34, 3) := by decide +kernel
theorem dX1_readLayer_8 : decode cX1_readLayer 8 = .ok (.aload_n 0, 1) := by decide +kernel
theorem dX1_readLayer_9 : decode cX1_readLayer 9 = .ok (.getfield 27, 3) := by decide +kernel
theorem dX1_readLayer_12 : decode cX1_readLayer 12 = .ok (.bipush 17, 2) := by decide +kernel
theorem dX1_readLayer_14 : decode cX1_readLayer 14 = .ok (.invokestatic 37, 3) := by decide +kernel
theorem dX1_readLayer_17 : decode cX1_readLayer 17 = .ok (.iconst 0, 1) := by decide +kernel
theorem dX1_readLayer_18 : decode cX1_readLayer 18 = .ok (.istore_n 1, 1) := by decide +kernel
theorem dX1_readLayer_19 : decode cX1_readLayer 19 = .ok (.iload_n 1, 1) := by decide +kernel
theorem dX1_readLayer_20 : decode cX1_readLayer 20 = .ok (.bipush 60, 2) := by decide +kernel
theorem dX1_readLayer_22 : decode cX1_readLayer 22 = .ok (.if_icmp .ge 56, 3) := by decide +kernel
theorem dX1_readLayer_25 : decode cX1_readLayer 25 = .ok (.aload_n 0, 1) := by decide +kernel
theorem dX1_readLayer_26 : decode cX1_readLayer 26 = .ok (.invokevirtual 43, 3) := by decide +kernel
theorem dX1_readLayer_29 : decode cX1_readLayer 29 = .ok (.ifCond .ne 11, 3) := by decide +kernel
theorem dX1_readLayer_32 : decode cX1_readLayer 32 = .ok (.aload_n 0, 1) := by decide +kernel
theorem dX1_readLayer_33 : decode cX1_readLayer 33 = .ok (.getfield 12, 3) := by decide +kernel
theorem dX1_readLayer_36 : decode cX1_readLayer 36 = .ok (.getfield 34, 3) := by decide +kernel
theorem dX1_readLayer_39 : decode cX1_readLayer 39 = .ok (.ireturn, 1) := by decide +kernel
theorem dX1_readLayer_40 : decode cX1_readLayer 40 = .ok (.aload_n 0, 1) := by decide +kernel
theorem dX1_readLayer_41 : decode cX1_readLayer 41 = .ok (.getfield 12, 3) := by decide +kernel
theorem dX1_readLayer_44 : decode cX1_readLayer 44 = .ok (.invokevirtual 47, 3) := by decide +kernel
theorem dX1_readLayer_47 : decode cX1_readLayer 47 = .ok (.ifCond .eq 5, 3) := by decide +kernel
theorem dX1_readLayer_50 : decode cX1_readLayer 50 = .ok (.iconst (-1), 1) := by decide +kernel
theorem dX1_readLayer_51 : decode cX1_readLayer 51 = .ok (.ireturn, 1) := by decide +kernel
theorem dX1_readLayer_52 : decode cX1_readLayer 52 = .ok (.aload_n 0, 1) := by decide +kernel
theorem dX1_readLayer_53 : decode cX1_readLayer 53 = .ok (.getfield 12, 3) := by decide +kernel
theorem dX1_readLayer_56 : decode cX1_readLayer 56 = .ok (.bipush 44, 2) := by decide +kernel
theorem dX1_readLayer_58 : decode cX1_readLayer 58 = .ok (.invokevirtual 50, 3) := by decide +kernel
theorem dX1_readLayer_61 : decode cX1_readLayer 61 = .ok (.ifCond .ne 11, 3) := by decide +kernel
theorem dX1_readLayer_64 : decode cX1_readLayer 64 = .ok (.aload_n 0, 1) := by decide +kernel
theorem dX1_readLayer_65 : decode cX1_readLayer 65 = .ok (.getfield 12, 3) := by decide +kernel
theorem dX1_readLayer_68 : decode cX1_readLayer 68 = .ok (.getfield 34, 3) := by decide +kernel
theorem dX1_readLayer_71 : decode cX1_readLayer 71 = .ok (.ireturn, 1) := by decide +kernel
theorem dX1_readLayer_72 : decode cX1_readLayer 72 = .ok (.iinc 1 1, 3) := by decide +kernel
theorem dX1_readLayer_75 : decode cX1_readLayer 75 = .ok (.goto (-56), 3) := by decide +kernel
theorem dX1_readLayer_78 : decode cX1_readLayer 78 = .ok (.aload_n 0, 1) := by decide +kernel
theorem dX1_readLayer_79 : decode cX1_readLayer 79 = .ok (.getfield 12, 3) := by decide +kernel
theorem dX1_readLayer_82 : decode cX1_readLayer 82 = .ok (.getfield 34, 3) := by decide +kernel
theorem dX1_readLayer_85 : decode cX1_readLayer 85 = .ok (.ireturn, 1) := by decide +kernel
theorem dX1_readEntry_0 : decode cX1_readEntry 0 = .ok (.aload_n 0, 1) := by decide +kernel
theorem dX1_readEntry_1 : decode cX1_readEntry 1 = .ok (.getfield 12, 3) := by decide +kernel
theorem dX1_readEntry_4 : decode cX1_readEntry 4 = .ok (.invokevirtual 54, 3) := by decide +kernel
theorem dX1_readEntry_7 : decode cX1_readEntry 7 = .ok (.istore_n 1, 1) := by decide +kernel
theorem dX1_readEntry_8 : decode cX1_readEntry 8 = .ok (.iload_n 1, 1) := by decide +kernel
theorem dX1_readEntry_9 : decode cX1_readEntry 9 = .ok (.invokestatic 58, 3) := by decide +kernel
theorem dX1_readEntry_12 : decode cX1_readEntry 12 = .ok (.ifCond .eq 15, 3) := by decide +kernel
theorem dX1_readEntry_15 : decode cX1_readEntry 15 = .ok (.aload_n 0, 1) := by decide +kernel
theorem dX1_readEntry_16 : decode cX1_readEntry 16 = .ok (.getfield 12, 3) := by decide +kernel
theorem dX1_readEntry_19 : decode cX1_readEntry 19 = .ok (.bipush 62, 2) := by decide +kernel
theorem dX1_readEntry_21 : decode cX1_readEntry 21 = .ok (.invokevirtual 50, 3) := by decide +kernel
theorem dX1_readEntry_24 : decode cX1_readEntry 24 = .ok (.ifCond .ne 5, 3) := by decide +kernel
theorem dX1_readEntry_27 : decode cX1_readEntry 27 = .ok (.iconst 0, 1) := by decide +kernel
theorem dX1_readEntry_28 : decode cX1_readEntry 28 = .ok (.ireturn, 1) := by decide +kernel
theorem dX1_readEntry_29 : decode cX1_readEntry 29 = .ok (.aload_n 0, 1) := by decide +kernel
theorem dX1_readEntry_30 : decode cX1_readEntry 30 = .ok (.getfield 12, 3) := by decide +kernel
theorem dX1_readEntry_33 : decode cX1_readEntry 33 = .ok (.bipush 45, 2) := by decide +kernel
theorem dX1_readEntry_35 : decode cX1_readEntry 35 = .ok (.invokevirtual 50, 3) := by decide +kernel
theorem dX1_readEntry_38 : decode cX1_readEntry 38 = .ok (.ifCond .eq 8, 3) := by decide +kernel
theorem dX1_readEntry_41 : decode cX1_readEntry 41 = .ok (.bipush 16, 2) := by decide +kernel
theorem dX1_readEntry_43 : decode cX1_readEntry 43 = .ok (.goto 10, 3) := by decide +kernel
theorem dX1_readEntry_46 : decode cX1_readEntry 46 = .ok (.aload_n 0, 1) := by decide +kernel
theorem dX1_readEntry_47 : decode cX1_readEntry 47 = .ok (.getfield 12, 3) := by decide +kernel
theorem dX1_readEntry_50 : decode cX1_readEntry 50 = .ok (.invokevirtual 54, 3) := by decide +kernel
theorem dX1_readEntry_53 : decode cX1_readEntry 53 = .ok (.istore_n 2, 1) := by decide +kernel
theorem dX1_readEntry_54 : decode cX1_readEntry 54 = .ok (.iload_n 2, 1) := by decide +kernel
theorem dX1_readEntry_55 : decode cX1_readEntry 55 = .ok (.iconst (-1), 1) := by decide +kernel
theorem dX1_readEntry_56 : decode cX1_readEntry 56 = .ok (.if_icmp .ne 5, 3) := by decide +kernel
theorem dX1_readEntry_59 : decode cX1_readEntry 59 = .ok (.iconst 0, 1) := by decide +kernel
theorem dX1_readEntry_60 : decode cX1_readEntry 60 = .ok (.ireturn, 1) := by decide +kernel
theorem dX1_readEntry_61 : decode cX1_readEntry 61 = .ok (.aload_n 0, 1) := by decide +kernel
theorem dX1_readEntry_62 : decode cX1_readEntry 62 = .ok (.getfield 27, 3) := by decide +kernel
theorem dX1_readEntry_65 : decode cX1_readEntry 65 = .ok (.iload_n 1, 1) := by decide +kernel
theorem dX1_readEntry_66 : decode cX1_readEntry 66 = .ok (.iload_n 2, 1) := by decide +kernel
theorem dX1_readEntry_67 : decode cX1_readEntry 67 = .ok (.iastore, 1) := by decide +kernel
theorem dX1_readEntry_68 : decode cX1_readEntry 68 = .ok (.iconst 1, 1) := by decide +kernel
theorem dX1_readEntry_69 : decode cX1_readEntry 69 = .ok (.ireturn, 1) := by decide +kernel
theorem dX1_readAssignment_0 : decode cX1_readAssignment 0 = .ok (.aload_n 0, 1) := by decide +kernel
theorem dX1_readAssignment_1 : decode cX1_readAssignment 1 = .ok (.getfield 12, 3) := by decide +kernel
theorem dX1_readAssignment_4 : decode cX1_readAssignment 4 = .ok (.iconst 0, 1) := by decide +kernel
theorem dX1_readAssignment_5 : decode cX1_readAssignment 5 = .ok (.putfield 34, 3) := by decide +kernel
theorem dX1_readAssignment_8 : decode cX1_readAssignment 8 = .ok (.aload_n 0, 1) := by decide +kernel
theorem dX1_readAssignment_9 : decode cX1_readAssignment 9 = .ok (.aload_n 0, 1) := by decide +kernel
theorem dX1_readAssignment_10 : decode cX1_readAssignment 10 = .ok (.getfield 12, 3) := by decide +kernel
theorem dX1_readAssignment_13 : decode cX1_readAssignment 13 = .ok (.invokevirtual 62, 3) := by decide +kernel
theorem dX1_readAssignment_16 : decode cX1_readAssignment 16 = .ok (.putfield 30, 3) := by decide +kernel
theorem dX1_readAssignment_19 : decode cX1_readAssignment 19 = .ok (.aload_n 0, 1) := by decide +kernel
theorem dX1_readAssignment_20 : decode cX1_readAssignment 20 = .ok (.getfield 30, 3) := by decide +kernel
theorem dX1_readAssignment_23 : decode cX1_readAssignment 23 = .ok (.iconst (-1), 1) := by decide +kernel
theorem dX1_readAssignment_24 : decode cX1_readAssignment 24 = .ok (.if_icmp .eq 28, 3) := by decide +kernel
theorem dX1_readAssignment_27 : decode cX1_readAssignment 27 = .ok (.aload_n 0, 1) := by decide +kernel
theorem dX1_readAssignment_28 : decode cX1_readAssignment 28 = .ok (.getfield 12, 3) := by decide +kernel
theorem dX1_readAssignment_31 : decode cX1_readAssignment 31 = .ok (.bipush 61, 2) := by decide +kernel
theorem dX1_readAssignment_33 : decode cX1_readAssignment 33 = .ok (.invokevirtual 50, 3) := by decide +kernel
theorem dX1_readAssignment_36 : decode cX1_readAssignment 36 = .ok (.ifCond .eq 16, 3) := by decide +kernel
theorem dX1_readAssignment_39 : decode cX1_readAssignment 39 = .ok (.aload_n 0, 1) := by decide +kernel
theorem dX1_readAssignment_40 : decode cX1_readAssignment 40 = .ok (.aload_n 1, 1) := by decide +kernel
theorem dX1_readAssignment_41 : decode cX1_readAssignment 41 = .ok (.aload_n 0, 1) := by decide +kernel
theorem dX1_readAssignment_42 : decode cX1_readAssignment 42 = .ok (.getfield 27, 3) := by decide +kernel
theorem dX1_readAssignment_45 : decode cX1_readAssignment 45 = .ok (.iconst 0, 1) := by decide +kernel
theorem dX1_readAssignment_46 : decode cX1_readAssignment 46 = .ok (.invokevirtual 65, 3) := by decide +kernel
theorem dX1_readAssignment_49 : decode cX1_readAssignment 49 = .ok (.ifCond .ne 11, 3) := by decide +kernel
theorem dX1_readAssignment_52 : decode cX1_readAssignment 52 = .ok (.aload_n 0, 1) := by decide +kernel
theorem dX1_readAssignment_53 : decode cX1_readAssignment 53 = .ok (.getfield 12, 3) := by decide +kernel
theorem dX1_readAssignment_56 : decode cX1_readAssignment 56 = .ok (.getfield 34, 3) := by decide +kernel
theorem dX1_readAssignment_59 : decode cX1_readAssignment 59 = .ok (.ireturn, 1) := by decide +kernel
theorem dX1_readAssignment_60 : decode cX1_readAssignment 60 = .ok (.aload_n 0, 1) := by decide +kernel
theorem dX1_readAssignment_61 : decode cX1_readAssignment 61 = .ok (.getfield 12, 3) := by decide +kernel
theorem dX1_readAssignment_64 : decode cX1_readAssignment 64 = .ok (.invokevirtual 47, 3) := by decide +kernel
theorem dX1_readAssignment_67 : decode cX1_readAssignment 67 = .ok (.ifCond .eq 7, 3) := by decide +kernel
theorem dX1_readAssignment_70 : decode cX1_readAssignment 70 = .ok (.iconst (-1), 1) := by decide +kernel
theorem dX1_readAssignment_71 : decode cX1_readAssignment 71 = .ok (.goto 10, 3) := by decide +kernel
theorem dX1_readAssignment_74 : decode cX1_readAssignment 74 = .ok (.aload_n 0, 1) := by decide +kernel
theorem dX1_readAssignment_75 : decode cX1_readAssignment 75 = .ok (.getfield 12, 3) := by decide +kernel
theorem dX1_readAssignment_78 : decode cX1_readAssignment 78 = .ok (.getfield 34, 3) := by decide +kernel
theorem dX1_readAssignment_81 : decode cX1_readAssignment 81 = .ok (.ireturn, 1) := by decide +kernel
theorem dX1_readExpression_0 : decode cX1_readExpression 0 = .ok (.iload_n 3, 1) := by decide +kernel
theorem dX1_readExpression_1 : decode cX1_readExpression 1 = .ok (.ifCond .lt 8, 3) := by decide +kernel
theorem dX1_readExpression_4 : decode cX1_readExpression 4 = .ok (.iload_n 3, 1) := by decide +kernel
theorem dX1_readExpression_5 : decode cX1_readExpression 5 = .ok (.iconst 4, 1) := by decide +kernel
theorem dX1_readExpression_6 : decode cX1_readExpression 6 = .ok (.if_icmp .le 5, 3) := by decide +kernel
theorem dX1_readExpression_9 : decode cX1_readExpression 9 = .ok (.iconst 0, 1) := by decide +kernel
theorem dX1_readExpression_10 : decode cX1_readExpression 10 = .ok (.ireturn, 1) := by decide +kernel
theorem dX1_readExpression_11 : decode cX1_readExpression 11 = .ok (.aload_n 0, 1) := by decide +kernel
theorem dX1_readExpression_12 : decode cX1_readExpression 12 = .ok (.getfield 20, 3) := by decide +kernel
theorem dX1_readExpression_15 : decode cX1_readExpression 15 = .ok (.iconst 2, 1) := by decide +kernel
theorem dX1_readExpression_16 : decode cX1_readExpression 16 = .ok (.iload_n 3, 1) := by decide +kernel
theorem dX1_readExpression_17 : decode cX1_readExpression 17 = .ok (.imul, 1) := by decide +kernel
theorem dX1_readExpression_18 : decode cX1_readExpression 18 = .ok (.aaload, 1) := by decide +kernel
theorem dX1_readExpression_19 : decode cX1_readExpression 19 = .ok (.astore 4, 2) := by decide +kernel
theorem dX1_readExpression_21 : decode cX1_readExpression 21 = .ok (.aload_n 0, 1) := by decide +kernel
theorem dX1_readExpression_22 : decode cX1_readExpression 22 = .ok (.getfield 20, 3) := by decide +kernel
theorem dX1_readExpression_25 : decode cX1_readExpression 25 = .ok (.iconst 2, 1) := by decide +kernel
theorem dX1_readExpression_26 : decode cX1_readExpression 26 = .ok (.iload_n 3, 1) := by decide +kernel
theorem dX1_readExpression_27 : decode cX1_readExpression 27 = .ok (.imul, 1) := by decide +kernel
theorem dX1_readExpression_28 : decode cX1_readExpression 28 = .ok (.iconst 1, 1) := by decide +kernel
theorem dX1_readExpression_29 : decode cX1_readExpression 29 = .ok (.iadd, 1) := by decide +kernel
theorem dX1_readExpression_30 : decode cX1_readExpression 30 = .ok (.aaload, 1) := by decide +kernel
theorem dX1_readExpression_31 : decode cX1_readExpression 31 = .ok (.astore 5, 2) := by decide +kernel
theorem dX1_readExpression_33 : decode cX1_readExpression 33 = .ok (.aload_n 2, 1) := by decide +kernel
theorem dX1_readExpression_34 : decode cX1_readExpression 34 = .ok (.bipush 16, 2) := by decide +kernel
theorem dX1_readExpression_36 : decode cX1_readExpression 36 = .ok (.invokestatic 37, 3) := by decide +kernel
theorem dX1_readExpression_39 : decode cX1_readExpression 39 = .ok (.iconst 0, 1) := by decide +kernel
theorem dX1_readExpression_40 : decode cX1_readExpression 40 = .ok (.istore 6, 2) := by decide +kernel
theorem dX1_readExpression_42 : decode cX1_readExpression 42 = .ok (.iload 6, 2) := by decide +kernel
theorem dX1_readExpression_44 : decode cX1_readExpression 44 = .ok (.bipush 60, 2) := by decide +kernel
theorem dX1_readExpression_46 : decode cX1_readExpression 46 = .ok (.if_icmp .ge 90, 3) := by decide +kernel
theorem dX1_readExpression_49 : decode cX1_readExpression 49 = .ok (.aload_n 0, 1) := by decide +kernel
theorem dX1_readExpression_50 : decode cX1_readExpression 50 = .ok (.aload_n 1, 1) := by decide +kernel
theorem dX1_readExpression_51 : decode cX1_readExpression 51 = .ok (.aload 4, 2) := by decide +kernel
theorem dX1_readExpression_53 : decode cX1_readExpression 53 = .ok (.iload_n 3, 1) := by decide +kernel
theorem dX1_readExpression_54 : decode cX1_readExpression 54 = .ok (.invokevirtual 69, 3) := by decide +kernel
theorem dX1_readExpression_57 : decode cX1_readExpression 57 = .ok (.ifCond .ne 5, 3) := by decide +kernel
theorem dX1_readExpression_60 : decode cX1_readExpression 60 = .ok (.iconst 0, 1) := by decide +kernel
theorem dX1_readExpression_61 : decode cX1_readExpression 61 = .ok (.ireturn, 1) := by decide +kernel
theorem dX1_readExpression_62 : decode cX1_readExpression 62 = .ok (.iconst 0, 1) := by decide +kernel
theorem dX1_readExpression_63 : decode cX1_readExpression 63 = .ok (.istore 7, 2) := by decide +kernel
theorem dX1_readExpression_65 : decode cX1_readExpression 65 = .ok (.iload 7, 2) := by decide +kernel
theorem dX1_readExpression_67 : decode cX1_readExpression 67 = .ok (.bipush 60, 2) := by decide +kernel
theorem dX1_readExpression_69 : decode cX1_readExpression 69 = .ok (.if_icmp .ge 41, 3) := by decide +kernel
theorem dX1_readExpression_72 : decode cX1_readExpression 72 = .ok (.aload_n 0, 1) := by decide +kernel
theorem dX1_readExpression_73 : decode cX1_readExpression 73 = .ok (.getfield 12, 3) := by decide +kernel
theorem dX1_readExpression_76 : decode cX1_readExpression 76 = .ok (.bipush 46, 2) := by decide +kernel
theorem dX1_readExpression_78 : decode cX1_readExpression 78 = .ok (.invokevirtual 50, 3) := by decide +kernel
theorem dX1_readExpression_81 : decode cX1_readExpression 81 = .ok (.ifCond .eq 29, 3) := by decide +kernel
theorem dX1_readExpression_84 : decode cX1_readExpression 84 = .ok (.aload_n 0, 1) := by decide +kernel
theorem dX1_readExpression_85 : decode cX1_readExpression 85 = .ok (.aload_n 1, 1) := by decide +kernel
theorem dX1_readExpression_86 : decode cX1_readExpression 86 = .ok (.aload 5, 2) := by decide +kernel
theorem dX1_readExpression_88 : decode cX1_readExpression 88 = .ok (.iload_n 3, 1) := by decide +kernel
theorem dX1_readExpression_89 : decode cX1_readExpression 89 = .ok (.invokevirtual 69, 3) := by decide +kernel
theorem dX1_readExpression_92 : decode cX1_readExpression 92 = .ok (.ifCond .ne 5, 3) := by decide +kernel
theorem dX1_readExpression_95 : decode cX1_readExpression 95 = .ok (.iconst 0, 1) := by decide +kernel
theorem dX1_readExpression_96 : decode cX1_readExpression 96 = .ok (.ireturn, 1) := by decide +kernel
theorem dX1_readExpression_97 : decode cX1_readExpression 97 = .ok (.aload 4, 2) := by decide +kernel
theorem dX1_readExpression_99 : decode cX1_readExpression 99 = .ok (.aload 5, 2) := by decide +kernel
theorem dX1_readExpression_101 : decode cX1_readExpression 101 = .ok (.invokestatic 72, 3) := by decide +kernel
theorem dX1_readExpression_104 : decode cX1_readExpression 104 = .ok (.iinc 7 1, 3) := by decide +kernel
theorem dX1_readExpression_107 : decode cX1_readExpression 107 = .ok (.goto (-42), 3) := by decide +kernel
theorem dX1_readExpression_110 : decode cX1_readExpression 110 = .ok (.aload_n 2, 1) := by decide +kernel
theorem dX1_readExpression_111 : decode cX1_readExpression 111 = .ok (.aload 4, 2) := by decide +kernel
theorem dX1_readExpression_113 : decode cX1_readExpression 113 = .ok (.invokestatic 78, 3) := by decide +kernel
theorem dX1_readExpression_116 : decode cX1_readExpression 116 = .ok (.aload_n 0, 1) := by decide +kernel
theorem dX1_readExpression_117 : decode cX1_readExpression 117 = .ok (.getfield 12, 3) := by decide +kernel
theorem dX1_readExpression_120 : decode cX1_readExpression 120 = .ok (.bipush 47, 2) := by decide +kernel
theorem dX1_readExpression_122 : decode cX1_readExpression 122 = .ok (.invokevirtual 50, 3) := by decide +kernel
theorem dX1_readExpression_125 : decode cX1_readExpression 125 = .ok (.ifCond .ne 5, 3) := by decide +kernel
theorem dX1_readExpression_128 : decode cX1_readExpression 128 = .ok (.iconst 1, 1) := by decide +kernel
theorem dX1_readExpression_129 : decode cX1_readExpression 129 = .ok (.ireturn, 1) := by decide +kernel
theorem dX1_readExpression_130 : decode cX1_readExpression 130 = .ok (.iinc 6 1, 3) := by decide +kernel
theorem dX1_readExpression_133 : decode cX1_readExpression 133 = .ok (.goto (-91), 3) := by decide +kernel
theorem dX1_readExpression_136 : decode cX1_readExpression 136 = .ok (.iconst 1, 1) := by decide +kernel
theorem dX1_readExpression_137 : decode cX1_readExpression 137 = .ok (.ireturn, 1) := by decide +kernel
theorem dX1_readFactor_0 : decode cX1_readFactor 0 = .ok (.aload_n 0, 1) := by decide +kernel
theorem dX1_readFactor_1 : decode cX1_readFactor 1 = .ok (.getfield 12, 3) := by decide +kernel
theorem dX1_readFactor_4 : decode cX1_readFactor 4 = .ok (.invokevirtual 62, 3) := by decide +kernel
theorem dX1_readFactor_7 : decode cX1_readFactor 7 = .ok (.istore 4, 2) := by decide +kernel
theorem dX1_readFactor_9 : decode cX1_readFactor 9 = .ok (.iload 4, 2) := by decide +kernel
theorem dX1_readFactor_11 : decode cX1_readFactor 11 = .ok (.invokestatic 81, 3) := by decide +kernel
theorem dX1_readFactor_14 : decode cX1_readFactor 14 = .ok (.ifCond .eq 27, 3) := by decide +kernel
theorem dX1_readFactor_17 : decode cX1_readFactor 17 = .ok (.aload_n 1, 1) := by decide +kernel
theorem dX1_readFactor_18 : decode cX1_readFactor 18 = .ok (.getfield 84, 3) := by decide +kernel
theorem dX1_readFactor_21 : decode cX1_readFactor 21 = .ok (.iload 4, 2) := by decide +kernel
theorem dX1_readFactor_23 : decode cX1_readFactor 23 = .ok (.aaload, 1) := by decide +kernel
theorem dX1_readFactor_24 : decode cX1_readFactor 24 = .ok (.getfield 90, 3) := by decide +kernel
theorem dX1_readFactor_27 : decode cX1_readFactor 27 = .ok (.aload_n 2, 1) := by decide +kernel
theorem dX1_readFactor_28 : decode cX1_readFactor 28 = .ok (.invokestatic 95, 3) := by decide +kernel
theorem dX1_readFactor_31 : decode cX1_readFactor 31 = .ok (.aload_n 0, 1) := by decide +kernel
theorem dX1_readFactor_32 : decode cX1_readFactor 32 = .ok (.aload_n 1, 1) := by decide +kernel
theorem dX1_readFactor_33 : decode cX1_readFactor 33 = .ok (.getfield 98, 3) := by decide +kernel
theorem dX1_readFactor_36 : decode cX1_readFactor 36 = .ok (.aload_n 2, 1) := by decide +kernel
theorem dX1_readFactor_37 : decode cX1_readFactor 37 = .ok (.invokevirtual 101, 3) := by decide +kernel
theorem dX1_readFactor_40 : decode cX1_readFactor 40 = .ok (.ireturn, 1) := by decide +kernel
theorem dX1_readFactor_41 : decode cX1_readFactor 41 = .ok (.iload_n 3, 1) := by decide +kernel
theorem dX1_readFactor_42 : decode cX1_readFactor 42 = .ok (.iconst 4, 1) := by decide +kernel
theorem dX1_readFactor_43 : decode cX1_readFactor 43 = .ok (.if_icmp .ge 15, 3) := by decide +kernel
theorem dX1_readFactor_46 : decode cX1_readFactor 46 = .ok (.aload_n 0, 1) := by decide +kernel
theorem dX1_readFactor_47 : decode cX1_readFactor 47 = .ok (.getfield 12, 3) := by decide +kernel
theorem dX1_readFactor_50 : decode cX1_readFactor 50 = .ok (.bipush 40, 2) := by decide +kernel
theorem dX1_readFactor_52 : decode cX1_readFactor 52 = .ok (.invokevirtual 50, 3) := by decide +kernel
theorem dX1_readFactor_55 : decode cX1_readFactor 55 = .ok (.ifCond .ne 5, 3) := by decide +kernel
theorem dX1_readFactor_58 : decode cX1_readFactor 58 = .ok (.iconst 0, 1) := by decide +kernel
theorem dX1_readFactor_59 : decode cX1_readFactor 59 = .ok (.ireturn, 1) := by decide +kernel
theorem dX1_readFactor_60 : decode cX1_readFactor 60 = .ok (.aload_n 0, 1) := by decide +kernel
theorem dX1_readFactor_61 : decode cX1_readFactor 61 = .ok (.aload_n 1, 1) := by decide +kernel
theorem dX1_readFactor_62 : decode cX1_readFactor 62 = .ok (.aload_n 2, 1) := by decide +kernel
theorem dX1_readFactor_63 : decode cX1_readFactor 63 = .ok (.iload_n 3, 1) := by decide +kernel
theorem dX1_readFactor_64 : decode cX1_readFactor 64 = .ok (.iconst 1, 1) := by decide +kernel
theorem dX1_readFactor_65 : decode cX1_readFactor 65 = .ok (.iadd, 1) := by decide +kernel
theorem dX1_readFactor_66 : decode cX1_readFactor 66 = .ok (.invokevirtual 65, 3) := by decide +kernel
theorem dX1_readFactor_69 : decode cX1_readFactor 69 = .ok (.ifCond .eq 31, 3) := by decide +kernel
theorem dX1_readFactor_72 : decode cX1_readFactor 72 = .ok (.aload_n 0, 1) := by decide +kernel
theorem dX1_readFactor_73 : decode cX1_readFactor 73 = .ok (.getfield 12, 3) := by decide +kernel
theorem dX1_readFactor_76 : decode cX1_readFactor 76 = .ok (.bipush 41, 2) := by decide +kernel
theorem dX1_readFactor_78 : decode cX1_readFactor 78 = .ok (.invokevirtual 50, 3) := by decide +kernel
theorem dX1_readFactor_81 : decode cX1_readFactor 81 = .ok (.ifCond .eq 19, 3) := by decide +kernel
theorem dX1_readFactor_84 : decode cX1_readFactor 84 = .ok (.aload_n 0, 1) := by decide +kernel
theorem dX1_readFactor_85 : decode cX1_readFactor 85 = .ok (.aload_n 1, 1) := by decide +kernel
theorem dX1_readFactor_86 : decode cX1_readFactor 86 = .ok (.getfield 98, 3) := by decide +kernel
theorem dX1_readFactor_89 : decode cX1_readFactor 89 = .ok (.aload_n 2, 1) := by decide +kernel
theorem dX1_readFactor_90 : decode cX1_readFactor 90 = .ok (.invokevirtual 101, 3) := by decide +kernel
theorem dX1_readFactor_93 : decode cX1_readFactor 93 = .ok (.ifCond .eq 7, 3) := by decide +kernel
theorem dX1_readFactor_96 : decode cX1_readFactor 96 = .ok (.iconst 1, 1) := by decide +kernel
theorem dX1_readFactor_97 : decode cX1_readFactor 97 = .ok (.goto 4, 3) := by decide +kernel
theorem dX1_readFactor_100 : decode cX1_readFactor 100 = .ok (.iconst 0, 1) := by decide +kernel
theorem dX1_readFactor_101 : decode cX1_readFactor 101 = .ok (.ireturn, 1) := by decide +kernel
theorem dX1_readSigns_0 : decode cX1_readSigns 0 = .ok (.iconst 0, 1) := by decide +kernel
theorem dX1_readSigns_1 : decode cX1_readSigns 1 = .ok (.istore_n 3, 1) := by decide +kernel
theorem dX1_readSigns_2 : decode cX1_readSigns 2 = .ok (.iload_n 3, 1) := by decide +kernel
theorem dX1_readSigns_3 : decode cX1_readSigns 3 = .ok (.bipush 60, 2) := by decide +kernel
theorem dX1_readSigns_5 : decode cX1_readSigns 5 = .ok (.if_icmp .ge 131, 3) := by decide +kernel
theorem dX1_readSigns_8 : decode cX1_readSigns 8 = .ok (.aload_n 0, 1) := by decide +kernel
theorem dX1_readSigns_9 : decode cX1_readSigns 9 = .ok (.getfield 12, 3) := by decide +kernel
theorem dX1_readSigns_12 : decode cX1_readSigns 12 = .ok (.bipush 126, 2) := by decide +kernel
theorem dX1_readSigns_14 : decode cX1_readSigns 14 = .ok (.invokevirtual 50, 3) := by decide +kernel
theorem dX1_readSigns_17 : decode cX1_readSigns 17 = .ok (.ifCond .eq 23, 3) := by decide +kernel
theorem dX1_readSigns_20 : decode cX1_readSigns 20 = .ok (.aload_n 2, 1) := by decide +kernel
theorem dX1_readSigns_21 : decode cX1_readSigns 21 = .ok (.iload_n 1, 1) := by decide +kernel
theorem dX1_readSigns_22 : decode cX1_readSigns 22 = .ok (.aload_n 0, 1) := by decide +kernel
theorem dX1_readSigns_23 : decode cX1_readSigns 23 = .ok (.getfield 23, 3) := by decide +kernel
theorem dX1_readSigns_26 : decode cX1_readSigns 26 = .ok (.invokestatic 105, 3) := by decide +kernel
theorem dX1_readSigns_29 : decode cX1_readSigns 29 = .ok (.aload_n 0, 1) := by decide +kernel
theorem dX1_readSigns_30 : decode cX1_readSigns 30 = .ok (.getfield 23, 3) := by decide +kernel
theorem dX1_readSigns_33 : decode cX1_readSigns 33 = .ok (.aload_n 2, 1) := by decide +kernel
theorem dX1_readSigns_34 : decode cX1_readSigns 34 = .ok (.invokestatic 95, 3) := by decide +kernel
theorem dX1_readSigns_37 : decode cX1_readSigns 37 = .ok (.goto 93, 3) := by decide +kernel
theorem dX1_readSigns_40 : decode cX1_readSigns 40 = .ok (.aload_n 0, 1) := by decide +kernel
theorem dX1_readSigns_41 : decode cX1_readSigns 41 = .ok (.getfield 12, 3) := by decide +kernel
theorem dX1_readSigns_44 : decode cX1_readSigns 44 = .ok (.bipush 94, 2) := by decide +kernel
theorem dX1_readSigns_46 : decode cX1_readSigns 46 = .ok (.invokevirtual 50, 3) := by decide +kernel
theorem dX1_readSigns_49 : decode cX1_readSigns 49 = .ok (.ifCond .eq 41, 3) := by decide +kernel
theorem dX1_readSigns_52 : decode cX1_readSigns 52 = .ok (.aload_n 0, 1) := by decide +kernel
theorem dX1_readSigns_53 : decode cX1_readSigns 53 = .ok (.getfield 12, 3) := by decide +kernel
theorem dX1_readSigns_56 : decode cX1_readSigns 56 = .ok (.invokevirtual 109, 3) := by decide +kernel
theorem dX1_readSigns_59 : decode cX1_readSigns 59 = .ok (.istore 4, 2) := by decide +kernel
theorem dX1_readSigns_61 : decode cX1_readSigns 61 = .ok (.iload 4, 2) := by decide +kernel
theorem dX1_readSigns_63 : decode cX1_readSigns 63 = .ok (.iconst (-1), 1) := by decide +kernel
theorem dX1_readSigns_64 : decode cX1_readSigns 64 = .ok (.if_icmp .ne 5, 3) := by decide +kernel
theorem dX1_readSigns_67 : decode cX1_readSigns 67 = .ok (.iconst 0, 1) := by decide +kernel
theorem dX1_readSigns_68 : decode cX1_readSigns 68 = .ok (.ireturn, 1) := by decide +kernel
theorem dX1_readSigns_69 : decode cX1_readSigns 69 = .ok (.aload_n 2, 1) := by decide +kernel
theorem dX1_readSigns_70 : decode cX1_readSigns 70 = .ok (.iload 4, 2) := by decide +kernel
theorem dX1_readSigns_72 : decode cX1_readSigns 72 = .ok (.aload_n 0, 1) := by decide +kernel
theorem dX1_readSigns_73 : decode cX1_readSigns 73 = .ok (.getfield 23, 3) := by decide +kernel
theorem dX1_readSigns_76 : decode cX1_readSigns 76 = .ok (.invokestatic 112, 3) := by decide +kernel
theorem dX1_readSigns_79 : decode cX1_readSigns 79 = .ok (.aload_n 0, 1) := by decide +kernel
theorem dX1_readSigns_80 : decode cX1_readSigns 80 = .ok (.getfield 23, 3) := by decide +kernel
theorem dX1_readSigns_83 : decode cX1_readSigns 83 = .ok (.aload_n 2, 1) := by decide +kernel
theorem dX1_readSigns_84 : decode cX1_readSigns 84 = .ok (.invokestatic 95, 3) := by decide +kernel
theorem dX1_readSigns_87 : decode cX1_readSigns 87 = .ok (.goto 43, 3) := by decide +kernel
theorem dX1_readSigns_90 : decode cX1_readSigns 90 = .ok (.aload_n 0, 1) := by decide +kernel
theorem dX1_readSigns_91 : decode cX1_readSigns 91 = .ok (.getfield 12, 3) := by decide +kernel
theorem dX1_readSigns_94 : decode cX1_readSigns 94 = .ok (.bipush 123, 2) := by decide +kernel
theorem dX1_readSigns_96 : decode cX1_readSigns 96 = .ok (.invokevirtual 50, 3) := by decide +kernel
theorem dX1_readSigns_99 : decode cX1_readSigns 99 = .ok (.ifCond .eq 29, 3) := by decide +kernel
theorem dX1_readSigns_102 : decode cX1_readSigns 102 = .ok (.aload_n 0, 1) := by decide +kernel
theorem dX1_readSigns_103 : decode cX1_readSigns 103 = .ok (.getfield 12, 3) := by decide +kernel
theorem dX1_readSigns_106 : decode cX1_readSigns 106 = .ok (.invokevirtual 115, 3) := by decide +kernel
theorem dX1_readSigns_109 : decode cX1_readSigns 109 = .ok (.istore 4, 2) := by decide +kernel
theorem dX1_readSigns_111 : decode cX1_readSigns 111 = .ok (.iload 4, 2) := by decide +kernel
theorem dX1_readSigns_113 : decode cX1_readSigns 113 = .ok (.iconst (-1), 1) := by decide +kernel
theorem dX1_readSigns_114 : decode cX1_readSigns 114 = .ok (.if_icmp .ne 5, 3) := by decide +kernel
theorem dX1_readSigns_117 : decode cX1_readSigns 117 = .ok (.iconst 0, 1) := by decide +kernel
theorem dX1_readSigns_118 : decode cX1_readSigns 118 = .ok (.ireturn, 1) := by decide +kernel
theorem dX1_readSigns_119 : decode cX1_readSigns 119 = .ok (.aload_n 2, 1) := by decide +kernel
theorem dX1_readSigns_120 : decode cX1_readSigns 120 = .ok (.iload 4, 2) := by decide +kernel
theorem dX1_readSigns_122 : decode cX1_readSigns 122 = .ok (.invokestatic 118, 3) := by decide +kernel
theorem dX1_readSigns_125 : decode cX1_readSigns 125 = .ok (.goto 5, 3) := by decide +kernel
theorem dX1_readSigns_128 : decode cX1_readSigns 128 = .ok (.iconst 1, 1) := by decide +kernel
theorem dX1_readSigns_129 : decode cX1_readSigns 129 = .ok (.ireturn, 1) := by decide +kernel
theorem dX1_readSigns_130 : decode cX1_readSigns 130 = .ok (.iinc 3 1, 3) := by decide +kernel
theorem dX1_readSigns_133 : decode cX1_readSigns 133 = .ok (.goto (-131), 3) := by decide +kernel
theorem dX1_readSigns_136 : decode cX1_readSigns 136 = .ok (.iconst 1, 1) := by decide +kernel
theorem dX1_readSigns_137 : decode cX1_readSigns 137 = .ok (.ireturn, 1) := by decide +kernel
theorem dX2_copy_0 : decode cX2_copy 0 = .ok (.aload_n 0, 1) := by decide +kernel
theorem dX2_copy_1 : decode cX2_copy 1 = .ok (.iconst 0, 1) := by decide +kernel
theorem dX2_copy_2 : decode cX2_copy 2 = .ok (.aload_n 1, 1) := by decide +kernel
theorem dX2_copy_3 : decode cX2_copy 3 = .ok (.iconst 0, 1) := by decide +kernel
theorem dX2_copy_4 : decode cX2_copy 4 = .ok (.bipush 16, 2) := by decide +kernel
theorem dX2_copy_6 : decode cX2_copy 6 = .ok (.invokestatic 9, 3) := by decide +kernel
theorem dX2_copy_9 : decode cX2_copy 9 = .ok (.return_, 1) := by decide +kernel
theorem dX2_step_0 : decode cX2_step 0 = .ok (.iload_n 1, 1) := by decide +kernel
theorem dX2_step_1 : decode cX2_step 1 = .ok (.ifCond .lt 15, 3) := by decide +kernel
theorem dX2_step_4 : decode cX2_step 4 = .ok (.iload_n 1, 1) := by decide +kernel
theorem dX2_step_5 : decode cX2_step 5 = .ok (.bipush 16, 2) := by decide +kernel
theorem dX2_step_7 : decode cX2_step 7 = .ok (.if_icmp .ge 9, 3) := by decide +kernel
theorem dX2_step_10 : decode cX2_step 10 = .ok (.aload_n 0, 1) := by decide +kernel
theorem dX2_step_11 : decode cX2_step 11 = .ok (.iload_n 1, 1) := by decide +kernel
theorem dX2_step_12 : decode cX2_step 12 = .ok (.iaload, 1) := by decide +kernel
theorem dX2_step_13 : decode cX2_step 13 = .ok (.goto 5, 3) := by decide +kernel
theorem dX2_step_16 : decode cX2_step 16 = .ok (.bipush 16, 2) := by decide +kernel
theorem dX2_step_18 : decode cX2_step 18 = .ok (.ireturn, 1) := by decide +kernel
theorem dX2_walk_0 : decode cX2_walk 0 = .ok (.iload_n 1, 1) := by decide +kernel
theorem dX2_walk_1 : decode cX2_walk 1 = .ok (.istore_n 3, 1) := by decide +kernel
theorem dX2_walk_2 : decode cX2_walk 2 = .ok (.iconst 0, 1) := by decide +kernel
theorem dX2_walk_3 : decode cX2_walk 3 = .ok (.istore 4, 2) := by decide +kernel
theorem dX2_walk_5 : decode cX2_walk 5 = .ok (.iload 4, 2) := by decide +kernel
theorem dX2_walk_7 : decode cX2_walk 7 = .ok (.iload_n 2, 1) := by decide +kernel
theorem dX2_walk_8 : decode cX2_walk 8 = .ok (.if_icmp .ge 21, 3) := by decide +kernel
theorem dX2_walk_11 : decode cX2_walk 11 = .ok (.iload_n 3, 1) := by decide +kernel
theorem dX2_walk_12 : decode cX2_walk 12 = .ok (.bipush 16, 2) := by decide +kernel
theorem dX2_walk_14 : decode cX2_walk 14 = .ok (.if_icmp .eq 15, 3) := by decide +kernel
theorem dX2_walk_17 : decode cX2_walk 17 = .ok (.aload_n 0, 1) := by decide +kernel
theorem dX2_walk_18 : decode cX2_walk 18 = .ok (.iload_n 3, 1) := by decide +kernel
theorem dX2_walk_19 : decode cX2_walk 19 = .ok (.invokestatic 15, 3) := by decide +kernel
theorem dX2_walk_22 : decode cX2_walk 22 = .ok (.istore_n 3, 1) := by decide +kernel
theorem dX2_walk_23 : decode cX2_walk 23 = .ok (.iinc 4 1, 3) := by decide +kernel
theorem dX2_walk_26 : decode cX2_walk 26 = .ok (.goto (-21), 3) := by decide +kernel
theorem dX2_walk_29 : decode cX2_walk 29 = .ok (.iload_n 3, 1) := by decide +kernel
theorem dX2_walk_30 : decode cX2_walk 30 = .ok (.ireturn, 1) := by decide +kernel
theorem dX2_walkFar_0 : decode cX2_walkFar 0 = .ok (.iload_n 2, 1) := by decide +kernel
theorem dX2_walkFar_1 : decode cX2_walkFar 1 = .ok (.bipush 16, 2) := by decide +kernel
theorem dX2_walkFar_3 : decode cX2_walkFar 3 = .ok (.if_icmp .gt 10, 3) := by decide +kernel
theorem dX2_walkFar_6 : decode cX2_walkFar 6 = .ok (.aload_n 0, 1) := by decide +kernel
theorem dX2_walkFar_7 : decode cX2_walkFar 7 = .ok (.iload_n 1, 1) := by decide +kernel
theorem dX2_walkFar_8 : decode cX2_walkFar 8 = .ok (.iload_n 2, 1) := by decide +kernel
theorem dX2_walkFar_9 : decode cX2_walkFar 9 = .ok (.invokestatic 21, 3) := by decide +kernel
theorem dX2_walkFar_12 : decode cX2_walkFar 12 = .ok (.ireturn, 1) := by decide +kernel
theorem dX2_walkFar_13 : decode cX2_walkFar 13 = .ok (.aload_n 0, 1) := by decide +kernel
theorem dX2_walkFar_14 : decode cX2_walkFar 14 = .ok (.iload_n 1, 1) := by decide +kernel
theorem dX2_walkFar_15 : decode cX2_walkFar 15 = .ok (.bipush 16, 2) := by decide +kernel
theorem dX2_walkFar_17 : decode cX2_walkFar 17 = .ok (.invokestatic 21, 3) := by decide +kernel
theorem dX2_walkFar_20 : decode cX2_walkFar 20 = .ok (.istore_n 3, 1) := by decide +kernel
theorem dX2_walkFar_21 : decode cX2_walkFar 21 = .ok (.aload_n 0, 1) := by decide +kernel
theorem dX2_walkFar_22 : decode cX2_walkFar 22 = .ok (.iload_n 3, 1) := by decide +kernel
theorem dX2_walkFar_23 : decode cX2_walkFar 23 = .ok (.invokestatic 25, 3) := by decide +kernel
theorem dX2_walkFar_26 : decode cX2_walkFar 26 = .ok (.istore 4, 2) := by decide +kernel
theorem dX2_walkFar_28 : decode cX2_walkFar 28 = .ok (.iload 4, 2) := by decide +kernel
theorem dX2_walkFar_30 : decode cX2_walkFar 30 = .ok (.ifCond .gt 8, 3) := by decide +kernel
theorem dX2_walkFar_33 : decode cX2_walkFar 33 = .ok (.bipush 16, 2) := by decide +kernel
theorem dX2_walkFar_35 : decode cX2_walkFar 35 = .ok (.goto 15, 3) := by decide +kernel
theorem dX2_walkFar_38 : decode cX2_walkFar 38 = .ok (.aload_n 0, 1) := by decide +kernel
theorem dX2_walkFar_39 : decode cX2_walkFar 39 = .ok (.iload_n 3, 1) := by decide +kernel
theorem dX2_walkFar_40 : decode cX2_walkFar 40 = .ok (.iload_n 2, 1) := by decide +kernel
theorem dX2_walkFar_41 : decode cX2_walkFar 41 = .ok (.bipush 16, 2) := by decide +kernel
theorem dX2_walkFar_43 : decode cX2_walkFar 43 = .ok (.isub, 1) := by decide +kernel
theorem dX2_walkFar_44 : decode cX2_walkFar 44 = .ok (.iload 4, 2) := by decide +kernel
theorem dX2_walkFar_46 : decode cX2_walkFar 46 = .ok (.irem, 1) := by decide +kernel
theorem dX2_walkFar_47 : decode cX2_walkFar 47 = .ok (.invokestatic 21, 3) := by decide +kernel
theorem dX2_walkFar_50 : decode cX2_walkFar 50 = .ok (.ireturn, 1) := by decide +kernel
theorem dX2_cycleOf_0 : decode cX2_cycleOf 0 = .ok (.iload_n 1, 1) := by decide +kernel
theorem dX2_cycleOf_1 : decode cX2_cycleOf 1 = .ok (.istore_n 2, 1) := by decide +kernel
theorem dX2_cycleOf_2 : decode cX2_cycleOf 2 = .ok (.iconst 1, 1) := by decide +kernel
theorem dX2_cycleOf_3 : decode cX2_cycleOf 3 = .ok (.istore_n 3, 1) := by decide +kernel
theorem dX2_cycleOf_4 : decode cX2_cycleOf 4 = .ok (.iload_n 3, 1) := by decide +kernel
theorem dX2_cycleOf_5 : decode cX2_cycleOf 5 = .ok (.bipush 16, 2) := by decide +kernel
theorem dX2_cycleOf_7 : decode cX2_cycleOf 7 = .ok (.if_icmp .gt 30, 3) := by decide +kernel
theorem dX2_cycleOf_10 : decode cX2_cycleOf 10 = .ok (.aload_n 0, 1) := by decide +kernel
theorem dX2_cycleOf_11 : decode cX2_cycleOf 11 = .ok (.iload_n 2, 1) := by decide +kernel
theorem dX2_cycleOf_12 : decode cX2_cycleOf 12 = .ok (.invokestatic 15, 3) := by decide +kernel
theorem dX2_cycleOf_15 : decode cX2_cycleOf 15 = .ok (.istore_n 2, 1) := by decide +kernel
theorem dX2_cycleOf_16 : decode cX2_cycleOf 16 = .ok (.iload_n 2, 1) := by decide +kernel
theorem dX2_cycleOf_17 : decode cX2_cycleOf 17 = .ok (.bipush 16, 2) := by decide +kernel
theorem dX2_cycleOf_19 : decode cX2_cycleOf 19 = .ok (.if_icmp .ne 5, 3) := by decide +kernel
theorem dX2_cycleOf_22 : decode cX2_cycleOf 22 = .ok (.iconst 0, 1) := by decide +kernel
theorem dX2_cycleOf_23 : decode cX2_cycleOf 23 = .ok (.ireturn, 1) := by decide +kernel
theorem dX2_cycleOf_24 : decode cX2_cycleOf 24 = .ok (.iload_n 2, 1) := by decide +kernel
theorem dX2_cycleOf_25 : decode cX2_cycleOf 25 = .ok (.iload_n 1, 1) := by decide +kernel
theorem dX2_cycleOf_26 : decode cX2_cycleOf 26 = .ok (.if_icmp .ne 5, 3) := by decide +kernel
theorem dX2_cycleOf_29 : decode cX2_cycleOf 29 = .ok (.iload_n 3, 1) := by decide +kernel
theorem dX2_cycleOf_30 : decode cX2_cycleOf 30 = .ok (.ireturn, 1) := by decide +kernel
theorem dX2_cycleOf_31 : decode cX2_cycleOf 31 = .ok (.iinc 3 1, 3) := by decide +kernel
theorem dX2_cycleOf_34 : decode cX2_cycleOf 34 = .ok (.goto (-30), 3) := by decide +kernel
theorem dX2_cycleOf_37 : decode cX2_cycleOf 37 = .ok (.iconst 0, 1) := by decide +kernel
theorem dX2_cycleOf_38 : decode cX2_cycleOf 38 = .ok (.ireturn, 1) := by decide +kernel
theorem dX2_stepsToHole_0 : decode cX2_stepsToHole 0 = .ok (.iload_n 1, 1) := by decide +kernel
theorem dX2_stepsToHole_1 : decode cX2_stepsToHole 1 = .ok (.istore_n 2, 1) := by decide +kernel
theorem dX2_stepsToHole_2 : decode cX2_stepsToHole 2 = .ok (.iconst 0, 1) := by decide +kernel
theorem dX2_stepsToHole_3 : decode cX2_stepsToHole 3 = .ok (.istore_n 3, 1) := by decide +kernel
theorem dX2_stepsToHole_4 : decode cX2_stepsToHole 4 = .ok (.iload_n 3, 1) := by decide +kernel
theorem dX2_stepsToHole_5 : decode cX2_stepsToHole 5 = .ok (.bipush 16, 2) := by decide +kernel
theorem dX2_stepsToHole_7 : decode cX2_stepsToHole 7 = .ok (.if_icmp .ge 23, 3) := by decide +kernel
theorem dX2_stepsToHole_10 : decode cX2_stepsToHole 10 = .ok (.aload_n 0, 1) := by decide +kernel
theorem dX2_stepsToHole_11 : decode cX2_stepsToHole 11 = .ok (.iload_n 2, 1) := by decide +kernel
theorem dX2_stepsToHole_12 : decode cX2_stepsToHole 12 = .ok (.invokestatic 15, 3) := by decide +kernel
theorem dX2_stepsToHole_15 : decode cX2_stepsToHole 15 = .ok (.istore_n 2, 1) := by decide +kernel
theorem dX2_stepsToHole_16 : decode cX2_stepsToHole 16 = .ok (.iload_n 2, 1) := by decide +kernel
theorem dX2_stepsToHole_17 : decode cX2_stepsToHole 17 = .ok (.bipush 16, 2) := by decide +kernel
theorem dX2_stepsToHole_19 : decode cX2_stepsToHole 19 = .ok (.if_icmp .ne 5, 3) := by decide +kernel
theorem dX2_stepsToHole_22 : decode cX2_stepsToHole 22 = .ok (.iload_n 3, 1) := by decide +kernel
theorem dX2_stepsToHole_23 : decode cX2_stepsToHole 23 = .ok (.ireturn, 1) := by decide +kernel
theorem dX2_stepsToHole_24 : decode cX2_stepsToHole 24 = .ok (.iinc 3 1, 3) := by decide +kernel
theorem dX2_stepsToHole_27 : decode cX2_stepsToHole 27 = .ok (.goto (-23), 3) := by decide +kernel
theorem dX2_stepsToHole_30 : decode cX2_stepsToHole 30 = .ok (.bipush (-5), 2) := by decide +kernel
theorem dX2_stepsToHole_32 : decode cX2_stepsToHole 32 = .ok (.ireturn, 1) := by decide +kernel
theorem dX2_stepsToSecondMeeting_0 : decode cX2_stepsToSecondMeeting 0 = .ok (.iload_n 1, 1) := by decide +kernel
theorem dX2_stepsToSecondMeeting_1 : decode cX2_stepsToSecondMeeting 1 = .ok (.istore_n 2, 1) := by decide +kernel
theorem dX2_stepsToSecondMeeting_2 : decode cX2_stepsToSecondMeeting 2 = .ok (.iconst 0, 1) := by decide +kernel
theorem dX2_stepsToSecondMeeting_3 : decode cX2_stepsToSecondMeeting 3 = .ok (.istore_n 3, 1) := by decide +kernel
theorem dX2_stepsToSecondMeeting_4 : decode cX2_stepsToSecondMeeting 4 = .ok (.iconst 0, 1) := by decide +kernel
theorem dX2_stepsToSecondMeeting_5 : decode cX2_stepsToSecondMeeting 5 = .ok (.istore 4, 2) := by decide +kernel
theorem dX2_stepsToSecondMeeting_7 : decode cX2_stepsToSecondMeeting 7 = .ok (.iload 4, 2) := by decide +kernel
theorem dX2_stepsToSecondMeeting_9 : decode cX2_stepsToSecondMeeting 9 = .ok (.bipush 16, 2) := by decide +kernel
theorem dX2_stepsToSecondMeeting_11 : decode cX2_stepsToSecondMeeting 11 = .ok (.if_icmp .gt 39, 3) := by decide +kernel
theorem dX2_stepsToSecondMeeting_14 : decode cX2_stepsToSecondMeeting 14 = .ok (.iload_n 2, 1) := by decide +kernel
theorem dX2_stepsToSecondMeeting_15 : decode cX2_stepsToSecondMeeting 15 = .ok (.bipush 16, 2) := by decide +kernel
theorem dX2_stepsToSecondMeeting_17 : decode cX2_stepsToSecondMeeting 17 = .ok (.if_icmp .eq 33, 3) := by decide +kernel
theorem dX2_stepsToSecondMeeting_20 : decode cX2_stepsToSecondMeeting 20 = .ok (.iload_n 3, 1) := by decide +kernel
theorem dX2_stepsToSecondMeeting_21 : decode cX2_stepsToSecondMeeting 21 = .ok (.iload_n 2, 1) := by decide +kernel
theorem dX2_stepsToSecondMeeting_22 : decode cX2_stepsToSecondMeeting 22 = .ok (.ishr, 1) := by decide +kernel
theorem dX2_stepsToSecondMeeting_23 : decode cX2_stepsToSecondMeeting 23 = .ok (.iconst 1, 1) := by decide +kernel
theorem dX2_stepsToSecondMeeting_24 : decode cX2_stepsToSecondMeeting 24 = .ok (.iand, 1) := by decide +kernel
theorem dX2_stepsToSecondMeeting_25 : decode cX2_stepsToSecondMeeting 25 = .ok (.iconst 1, 1) := by decide +kernel
theorem dX2_stepsToSecondMeeting_26 : decode cX2_stepsToSecondMeeting 26 = .ok (.if_icmp .ne 6, 3) := by decide +kernel
theorem dX2_stepsToSecondMeeting_29 : decode cX2_stepsToSecondMeeting 29 = .ok (.iload 4, 2) := by decide +kernel
theorem dX2_stepsToSecondMeeting_31 : decode cX2_stepsToSecondMeeting 31 = .ok (.ireturn, 1) := by decide +kernel
theorem dX2_stepsToSecondMeeting_32 : decode cX2_stepsToSecondMeeting 32 = .ok (.iload_n 3, 1) := by decide +kernel
theorem dX2_stepsToSecondMeeting_33 : decode cX2_stepsToSecondMeeting 33 = .ok (.iconst 1, 1) := by decide +kernel
theorem dX2_stepsToSecondMeeting_34 : decode cX2_stepsToSecondMeeting 34 = .ok (.iload_n 2, 1) := by decide +kernel
theorem dX2_stepsToSecondMeeting_35 : decode cX2_stepsToSecondMeeting 35 = .ok (.ishl, 1) := by decide +kernel
theorem dX2_stepsToSecondMeeting_36 : decode cX2_stepsToSecondMeeting 36 = .ok (.ior, 1) := by decide +kernel
theorem dX2_stepsToSecondMeeting_37 : decode cX2_stepsToSecondMeeting 37 = .ok (.istore_n 3, 1) := by decide +kernel
theorem dX2_stepsToSecondMeeting_38 : decode cX2_stepsToSecondMeeting 38 = .ok (.aload_n 0, 1) := by decide +kernel
theorem dX2_stepsToSecondMeeting_39 : decode cX2_stepsToSecondMeeting 39 = .ok (.iload_n 2, 1) := by decide +kernel
theorem dX2_stepsToSecondMeeting_40 : decode cX2_stepsToSecondMeeting 40 = .ok (.invokestatic 15, 3) := by decide +kernel
theorem dX2_stepsToSecondMeeting_43 : decode cX2_stepsToSecondMeeting 43 = .ok (.istore_n 2, 1) := by decide +kernel
theorem dX2_stepsToSecondMeeting_44 : decode cX2_stepsToSecondMeeting 44 = .ok (.iinc 4 1, 3) := by decide +kernel
theorem dX2_stepsToSecondMeeting_47 : decode cX2_stepsToSecondMeeting 47 = .ok (.goto (-40), 3) := by decide +kernel
theorem dX2_stepsToSecondMeeting_50 : decode cX2_stepsToSecondMeeting 50 = .ok (.bipush (-5), 2) := by decide +kernel
theorem dX2_stepsToSecondMeeting_52 : decode cX2_stepsToSecondMeeting 52 = .ok (.ireturn, 1) := by decide +kernel
theorem dX2_cycleMet_0 : decode cX2_cycleMet 0 = .ok (.aload_n 0, 1) := by decide +kernel
theorem dX2_cycleMet_1 : decode cX2_cycleMet 1 = .ok (.iload_n 1, 1) := by decide +kernel
theorem dX2_cycleMet_2 : decode cX2_cycleMet 2 = .ok (.bipush 16, 2) := by decide +kernel
theorem dX2_cycleMet_4 : decode cX2_cycleMet 4 = .ok (.invokestatic 21, 3) := by decide +kernel
theorem dX2_cycleMet_7 : decode cX2_cycleMet 7 = .ok (.istore_n 2, 1) := by decide +kernel
theorem dX2_cycleMet_8 : decode cX2_cycleMet 8 = .ok (.iload_n 2, 1) := by decide +kernel
theorem dX2_cycleMet_9 : decode cX2_cycleMet 9 = .ok (.bipush 16, 2) := by decide +kernel
theorem dX2_cycleMet_11 : decode cX2_cycleMet 11 = .ok (.if_icmp .ne 8, 3) := by decide +kernel
theorem dX2_cycleMet_14 : decode cX2_cycleMet 14 = .ok (.bipush (-5), 2) := by decide +kernel
theorem dX2_cycleMet_16 : decode cX2_cycleMet 16 = .ok (.goto 8, 3) := by decide +kernel
theorem dX2_cycleMet_19 : decode cX2_cycleMet 19 = .ok (.aload_n 0, 1) := by decide +kernel
theorem dX2_cycleMet_20 : decode cX2_cycleMet 20 = .ok (.iload_n 2, 1) := by decide +kernel
theorem dX2_cycleMet_21 : decode cX2_cycleMet 21 = .ok (.invokestatic 25, 3) := by decide +kernel
theorem dX2_cycleMet_24 : decode cX2_cycleMet 24 = .ok (.ireturn, 1) := by decide +kernel
theorem dX2_holes_0 : decode cX2_holes 0 = .ok (.iconst 0, 1) := by decide +kernel
theorem dX2_holes_1 : decode cX2_holes 1 = .ok (.istore_n 1, 1) := by decide +kernel
theorem dX2_holes_2 : decode cX2_holes 2 = .ok (.iconst 0, 1) := by decide +kernel
theorem dX2_holes_3 : decode cX2_holes 3 = .ok (.istore_n 2, 1) := by decide +kernel
theorem dX2_holes_4 : decode cX2_holes 4 = .ok (.iload_n 2, 1) := by decide +kernel
theorem dX2_holes_5 : decode cX2_holes 5 = .ok (.bipush 16, 2) := by decide +kernel
theorem dX2_holes_7 : decode cX2_holes 7 = .ok (.if_icmp .ge 23, 3) := by decide +kernel
theorem dX2_holes_10 : decode cX2_holes 10 = .ok (.aload_n 0, 1) := by decide +kernel
theorem dX2_holes_11 : decode cX2_holes 11 = .ok (.iload_n 2, 1) := by decide +kernel
theorem dX2_holes_12 : decode cX2_holes 12 = .ok (.iaload, 1) := by decide +kernel
theorem dX2_holes_13 : decode cX2_holes 13 = .ok (.bipush 16, 2) := by decide +kernel
theorem dX2_holes_15 : decode cX2_holes 15 = .ok (.if_icmp .ne 9, 3) := by decide +kernel
theorem dX2_holes_18 : decode cX2_holes 18 = .ok (.iload_n 1, 1) := by decide +kernel
theorem dX2_holes_19 : decode cX2_holes 19 = .ok (.iconst 1, 1) := by decide +kernel
theorem dX2_holes_20 : decode cX2_holes 20 = .ok (.iload_n 2, 1) := by decide +kernel
theorem dX2_holes_21 : decode cX2_holes 21 = .ok (.ishl, 1) := by decide +kernel
theorem dX2_holes_22 : decode cX2_holes 22 = .ok (.ior, 1) := by decide +kernel
theorem dX2_holes_23 : decode cX2_holes 23 = .ok (.istore_n 1, 1) := by decide +kernel
theorem dX2_holes_24 : decode cX2_holes 24 = .ok (.iinc 2 1, 3) := by decide +kernel
theorem dX2_holes_27 : decode cX2_holes 27 = .ok (.goto (-23), 3) := by decide +kernel
theorem dX2_holes_30 : decode cX2_holes 30 = .ok (.iload_n 1, 1) := by decide +kernel
theorem dX2_holes_31 : decode cX2_holes 31 = .ok (.ireturn, 1) := by decide +kernel
theorem dX2_image_0 : decode cX2_image 0 = .ok (.iconst 0, 1) := by decide +kernel
theorem dX2_image_1 : decode cX2_image 1 = .ok (.istore_n 1, 1) := by decide +kernel
theorem dX2_image_2 : decode cX2_image 2 = .ok (.iconst 0, 1) := by decide +kernel
theorem dX2_image_3 : decode cX2_image 3 = .ok (.istore_n 2, 1) := by decide +kernel
theorem dX2_image_4 : decode cX2_image 4 = .ok (.iload_n 2, 1) := by decide +kernel
theorem dX2_image_5 : decode cX2_image 5 = .ok (.bipush 16, 2) := by decide +kernel
theorem dX2_image_7 : decode cX2_image 7 = .ok (.if_icmp .ge 25, 3) := by decide +kernel
theorem dX2_image_10 : decode cX2_image 10 = .ok (.aload_n 0, 1) := by decide +kernel
theorem dX2_image_11 : decode cX2_image 11 = .ok (.iload_n 2, 1) := by decide +kernel
theorem dX2_image_12 : decode cX2_image 12 = .ok (.iaload, 1) := by decide +kernel
theorem dX2_image_13 : decode cX2_image 13 = .ok (.bipush 16, 2) := by decide +kernel
theorem dX2_image_15 : decode cX2_image 15 = .ok (.if_icmp .eq 11, 3) := by decide +kernel
theorem dX2_image_18 : decode cX2_image 18 = .ok (.iload_n 1, 1) := by decide +kernel
theorem dX2_image_19 : decode cX2_image 19 = .ok (.iconst 1, 1) := by decide +kernel
theorem dX2_image_20 : decode cX2_image 20 = .ok (.aload_n 0, 1) := by decide +kernel
theorem dX2_image_21 : decode cX2_image 21 = .ok (.iload_n 2, 1) := by decide +kernel
theorem dX2_image_22 : decode cX2_image 22 = .ok (.iaload, 1) := by decide +kernel
theorem dX2_image_23 : decode cX2_image 23 = .ok (.ishl, 1) := by decide +kernel
theorem dX2_image_24 : decode cX2_image 24 = .ok (.ior, 1) := by decide +kernel
theorem dX2_image_25 : decode cX2_image 25 = .ok (.istore_n 1, 1) := by decide +kernel
theorem dX2_image_26 : decode cX2_image 26 = .ok (.iinc 2 1, 3) := by decide +kernel
theorem dX2_image_29 : decode cX2_image 29 = .ok (.goto (-25), 3) := by decide +kernel
theorem dX2_image_32 : decode cX2_image 32 = .ok (.iload_n 1, 1) := by decide +kernel
theorem dX2_image_33 : decode cX2_image 33 = .ok (.ireturn, 1) := by decide +kernel
theorem dX2_isOneToOne_0 : decode cX2_isOneToOne 0 = .ok (.bipush 16, 2) := by decide +kernel
theorem dX2_isOneToOne_2 : decode cX2_isOneToOne 2 = .ok (.aload_n 0, 1) := by decide +kernel
theorem dX2_isOneToOne_3 : decode cX2_isOneToOne 3 = .ok (.invokestatic 28, 3) := by decide +kernel
theorem dX2_isOneToOne_6 : decode cX2_isOneToOne 6 = .ok (.invokestatic 32, 3) := by decide +kernel
theorem dX2_isOneToOne_9 : decode cX2_isOneToOne 9 = .ok (.isub, 1) := by decide +kernel
theorem dX2_isOneToOne_10 : decode cX2_isOneToOne 10 = .ok (.istore_n 1, 1) := by decide +kernel
theorem dX2_isOneToOne_11 : decode cX2_isOneToOne 11 = .ok (.aload_n 0, 1) := by decide +kernel
theorem dX2_isOneToOne_12 : decode cX2_isOneToOne 12 = .ok (.invokestatic 38, 3) := by decide +kernel
theorem dX2_isOneToOne_15 : decode cX2_isOneToOne 15 = .ok (.invokestatic 32, 3) := by decide +kernel
theorem dX2_isOneToOne_18 : decode cX2_isOneToOne 18 = .ok (.iload_n 1, 1) := by decide +kernel
theorem dX2_isOneToOne_19 : decode cX2_isOneToOne 19 = .ok (.if_icmp .ne 7, 3) := by decide +kernel
theorem dX2_isOneToOne_22 : decode cX2_isOneToOne 22 = .ok (.iconst 1, 1) := by decide +kernel
theorem dX2_isOneToOne_23 : decode cX2_isOneToOne 23 = .ok (.goto 4, 3) := by decide +kernel
theorem dX2_isOneToOne_26 : decode cX2_isOneToOne 26 = .ok (.iconst 0, 1) := by decide +kernel
theorem dX2_isOneToOne_27 : decode cX2_isOneToOne 27 = .ok (.ireturn, 1) := by decide +kernel
theorem dX2_fixed_0 : decode cX2_fixed 0 = .ok (.iconst 0, 1) := by decide +kernel
theorem dX2_fixed_1 : decode cX2_fixed 1 = .ok (.istore_n 1, 1) := by decide +kernel
theorem dX2_fixed_2 : decode cX2_fixed 2 = .ok (.iconst 0, 1) := by decide +kernel
theorem dX2_fixed_3 : decode cX2_fixed 3 = .ok (.istore_n 2, 1) := by decide +kernel
theorem dX2_fixed_4 : decode cX2_fixed 4 = .ok (.iload_n 2, 1) := by decide +kernel
theorem dX2_fixed_5 : decode cX2_fixed 5 = .ok (.bipush 16, 2) := by decide +kernel
theorem dX2_fixed_7 : decode cX2_fixed 7 = .ok (.if_icmp .ge 22, 3) := by decide +kernel
theorem dX2_fixed_10 : decode cX2_fixed 10 = .ok (.aload_n 0, 1) := by decide +kernel
theorem dX2_fixed_11 : decode cX2_fixed 11 = .ok (.iload_n 2, 1) := by decide +kernel
theorem dX2_fixed_12 : decode cX2_fixed 12 = .ok (.iaload, 1) := by decide +kernel
theorem dX2_fixed_13 : decode cX2_fixed 13 = .ok (.iload_n 2, 1) := by decide +kernel
theorem dX2_fixed_14 : decode cX2_fixed 14 = .ok (.if_icmp .ne 9, 3) := by decide +kernel
theorem dX2_fixed_17 : decode cX2_fixed 17 = .ok (.iload_n 1, 1) := by decide +kernel
theorem dX2_fixed_18 : decode cX2_fixed 18 = .ok (.iconst 1, 1) := by decide +kernel
theorem dX2_fixed_19 : decode cX2_fixed 19 = .ok (.iload_n 2, 1) := by decide +kernel
theorem dX2_fixed_20 : decode cX2_fixed 20 = .ok (.ishl, 1) := by decide +kernel
theorem dX2_fixed_21 : decode cX2_fixed 21 = .ok (.ior, 1) := by decide +kernel
theorem dX2_fixed_22 : decode cX2_fixed 22 = .ok (.istore_n 1, 1) := by decide +kernel
theorem dX2_fixed_23 : decode cX2_fixed 23 = .ok (.iinc 2 1, 3) := by decide +kernel
theorem dX2_fixed_26 : decode cX2_fixed 26 = .ok (.goto (-22), 3) := by decide +kernel
theorem dX2_fixed_29 : decode cX2_fixed 29 = .ok (.iload_n 1, 1) := by decide +kernel
theorem dX2_fixed_30 : decode cX2_fixed 30 = .ok (.ireturn, 1) := by decide +kernel
theorem dX2_cyclic_0 : decode cX2_cyclic 0 = .ok (.iconst 0, 1) := by decide +kernel
theorem dX2_cyclic_1 : decode cX2_cyclic 1 = .ok (.istore_n 1, 1) := by decide +kernel
theorem dX2_cyclic_2 : decode cX2_cyclic 2 = .ok (.iconst 0, 1) := by decide +kernel
theorem dX2_cyclic_3 : decode cX2_cyclic 3 = .ok (.istore_n 2, 1) := by decide +kernel
theorem dX2_cyclic_4 : decode cX2_cyclic 4 = .ok (.iload_n 2, 1) := by decide +kernel
theorem dX2_cyclic_5 : decode cX2_cyclic 5 = .ok (.bipush 16, 2) := by decide +kernel
theorem dX2_cyclic_7 : decode cX2_cyclic 7 = .ok (.if_icmp .ge 23, 3) := by decide +kernel
theorem dX2_cyclic_10 : decode cX2_cyclic 10 = .ok (.aload_n 0, 1) := by decide +kernel
theorem dX2_cyclic_11 : decode cX2_cyclic 11 = .ok (.iload_n 2, 1) := by decide +kernel
theorem dX2_cyclic_12 : decode cX2_cyclic 12 = .ok (.invokestatic 25, 3) := by decide +kernel
theorem dX2_cyclic_15 : decode cX2_cyclic 15 = .ok (.ifCond .le 9, 3) := by decide +kernel
theorem dX2_cyclic_18 : decode cX2_cyclic 18 = .ok (.iload_n 1, 1) := by decide +kernel
theorem dX2_cyclic_19 : decode cX2_cyclic 19 = .ok (.iconst 1, 1) := by decide +kernel
theorem dX2_cyclic_20 : decode cX2_cyclic 20 = .ok (.iload_n 2, 1) := by decide +kernel
theorem dX2_cyclic_21 : decode cX2_cyclic 21 = .ok (.ishl, 1) := by decide +kernel
theorem dX2_cyclic_22 : decode cX2_cyclic 22 = .ok (.ior, 1) := by decide +kernel
theorem dX2_cyclic_23 : decode cX2_cyclic 23 = .ok (.istore_n 1, 1) := by decide +kernel
theorem dX2_cyclic_24 : decode cX2_cyclic 24 = .ok (.iinc 2 1, 3) := by decide +kernel
theorem dX2_cyclic_27 : decode cX2_cyclic 27 = .ok (.goto (-23), 3) := by decide +kernel
theorem dX2_cyclic_30 : decode cX2_cyclic 30 = .ok (.iload_n 1, 1) := by decide +kernel
theorem dX2_cyclic_31 : decode cX2_cyclic 31 = .ok (.ireturn, 1) := by decide +kernel
theorem dX2_longestCycle_0 : decode cX2_longestCycle 0 = .ok (.iconst 0, 1) := by decide +kernel
theorem dX2_longestCycle_1 : decode cX2_longestCycle 1 = .ok (.istore_n 1, 1) := by decide +kernel
theorem dX2_longestCycle_2 : decode cX2_longestCycle 2 = .ok (.iconst 0, 1) := by decide +kernel
theorem dX2_longestCycle_3 : decode cX2_longestCycle 3 = .ok (.istore_n 2, 1) := by decide +kernel
theorem dX2_longestCycle_4 : decode cX2_longestCycle 4 = .ok (.iload_n 2, 1) := by decide +kernel
theorem dX2_longestCycle_5 : decode cX2_longestCycle 5 = .ok (.bipush 16, 2) := by decide +kernel
theorem dX2_longestCycle_7 : decode cX2_longestCycle 7 = .ok (.if_icmp .ge 19, 3) := by decide +kernel
theorem dX2_longestCycle_10 : decode cX2_longestCycle 10 = .ok (.iload_n 1, 1) := by decide +kernel
theorem dX2_longestCycle_11 : decode cX2_longestCycle 11 = .ok (.aload_n 0, 1) := by decide +kernel
theorem dX2_longestCycle_12 : decode cX2_longestCycle 12 = .ok (.iload_n 2, 1) := by decide +kernel
theorem dX2_longestCycle_13 : decode cX2_longestCycle 13 = .ok (.invokestatic 25, 3) := by decide +kernel
theorem dX2_longestCycle_16 : decode cX2_longestCycle 16 = .ok (.invokestatic 41, 3) := by decide +kernel
theorem dX2_longestCycle_19 : decode cX2_longestCycle 19 = .ok (.istore_n 1, 1) := by decide +kernel
theorem dX2_longestCycle_20 : decode cX2_longestCycle 20 = .ok (.iinc 2 1, 3) := by decide +kernel
theorem dX2_longestCycle_23 : decode cX2_longestCycle 23 = .ok (.goto (-19), 3) := by decide +kernel
theorem dX2_longestCycle_26 : decode cX2_longestCycle 26 = .ok (.iload_n 1, 1) := by decide +kernel
theorem dX2_longestCycle_27 : decode cX2_longestCycle 27 = .ok (.ireturn, 1) := by decide +kernel
theorem dX2_difference_0 : decode cX2_difference 0 = .ok (.iconst 0, 1) := by decide +kernel
theorem dX2_difference_1 : decode cX2_difference 1 = .ok (.istore_n 2, 1) := by decide +kernel
theorem dX2_difference_2 : decode cX2_difference 2 = .ok (.iconst 0, 1) := by decide +kernel
theorem dX2_difference_3 : decode cX2_difference 3 = .ok (.istore_n 3, 1) := by decide +kernel
theorem dX2_difference_4 : decode cX2_difference 4 = .ok (.iload_n 3, 1) := by decide +kernel
theorem dX2_difference_5 : decode cX2_difference 5 = .ok (.bipush 16, 2) := by decide +kernel
theorem dX2_difference_7 : decode cX2_difference 7 = .ok (.if_icmp .ge 24, 3) := by decide +kernel
theorem dX2_difference_10 : decode cX2_difference 10 = .ok (.aload_n 0, 1) := by decide +kernel
theorem dX2_difference_11 : decode cX2_difference 11 = .ok (.iload_n 3, 1) := by decide +kernel
theorem dX2_difference_12 : decode cX2_difference 12 = .ok (.iaload, 1) := by decide +kernel
theorem dX2_difference_13 : decode cX2_difference 13 = .ok (.aload_n 1, 1) := by decide +kernel
theorem dX2_difference_14 : decode cX2_difference 14 = .ok (.iload_n 3, 1) := by decide +kernel
theorem dX2_difference_15 : decode cX2_difference 15 = .ok (.iaload, 1) := by decide +kernel
theorem dX2_difference_16 : decode cX2_difference 16 = .ok (.if_icmp .eq 9, 3) := by decide +kernel
theorem dX2_difference_19 : decode cX2_difference 19 = .ok (.iload_n 2, 1) := by decide +kernel
theorem dX2_difference_20 : decode cX2_difference 20 = .ok (.iconst 1, 1) := by decide +kernel
theorem dX2_difference_21 : decode cX2_difference 21 = .ok (.iload_n 3, 1) := by decide +kernel
theorem dX2_difference_22 : decode cX2_difference 22 = .ok (.ishl, 1) := by decide +kernel
theorem dX2_difference_23 : decode cX2_difference 23 = .ok (.ior, 1) := by decide +kernel
theorem dX2_difference_24 : decode cX2_difference 24 = .ok (.istore_n 2, 1) := by decide +kernel
theorem dX2_difference_25 : decode cX2_difference 25 = .ok (.iinc 3 1, 3) := by decide +kernel
theorem dX2_difference_28 : decode cX2_difference 28 = .ok (.goto (-24), 3) := by decide +kernel
theorem dX2_difference_31 : decode cX2_difference 31 = .ok (.iload_n 2, 1) := by decide +kernel
theorem dX2_difference_32 : decode cX2_difference 32 = .ok (.ireturn, 1) := by decide +kernel
theorem dX2_overlay_0 : decode cX2_overlay 0 = .ok (.iconst 0, 1) := by decide +kernel
theorem dX2_overlay_1 : decode cX2_overlay 1 = .ok (.istore_n 2, 1) := by decide +kernel
theorem dX2_overlay_2 : decode cX2_overlay 2 = .ok (.iload_n 2, 1) := by decide +kernel
theorem dX2_overlay_3 : decode cX2_overlay 3 = .ok (.bipush 16, 2) := by decide +kernel
theorem dX2_overlay_5 : decode cX2_overlay 5 = .ok (.if_icmp .ge 23, 3) := by decide +kernel
theorem dX2_overlay_8 : decode cX2_overlay 8 = .ok (.aload_n 0, 1) := by decide +kernel
theorem dX2_overlay_9 : decode cX2_overlay 9 = .ok (.iload_n 2, 1) := by decide +kernel
theorem dX2_overlay_10 : decode cX2_overlay 10 = .ok (.iaload, 1) := by decide +kernel
theorem dX2_overlay_11 : decode cX2_overlay 11 = .ok (.bipush 16, 2) := by decide +kernel
theorem dX2_overlay_13 : decode cX2_overlay 13 = .ok (.if_icmp .ne 9, 3) := by decide +kernel
theorem dX2_overlay_16 : decode cX2_overlay 16 = .ok (.aload_n 0, 1) := by decide +kernel
theorem dX2_overlay_17 : decode cX2_overlay 17 = .ok (.iload_n 2, 1) := by decide +kernel
theorem dX2_overlay_18 : decode cX2_overlay 18 = .ok (.aload_n 1, 1) := by decide +kernel
theorem dX2_overlay_19 : decode cX2_overlay 19 = .ok (.iload_n 2, 1) := by decide +kernel
theorem dX2_overlay_20 : decode cX2_overlay 20 = .ok (.iaload, 1) := by decide +kernel
theorem dX2_overlay_21 : decode cX2_overlay 21 = .ok (.iastore, 1) := by decide +kernel
theorem dX2_overlay_22 : decode cX2_overlay 22 = .ok (.iinc 2 1, 3) := by decide +kernel
theorem dX2_overlay_25 : decode cX2_overlay 25 = .ok (.goto (-23), 3) := by decide +kernel
theorem dX2_overlay_28 : decode cX2_overlay 28 = .ok (.return_, 1) := by decide +kernel
theorem dX2_compose_0 : decode cX2_compose 0 = .ok (.iconst 0, 1) := by decide +kernel
theorem dX2_compose_1 : decode cX2_compose 1 = .ok (.istore_n 2, 1) := by decide +kernel
theorem dX2_compose_2 : decode cX2_compose 2 = .ok (.iload_n 2, 1) := by decide +kernel
theorem dX2_compose_3 : decode cX2_compose 3 = .ok (.bipush 16, 2) := by decide +kernel
theorem dX2_compose_5 : decode cX2_compose 5 = .ok (.if_icmp .ge 19, 3) := by decide +kernel
theorem dX2_compose_8 : decode cX2_compose 8 = .ok (.aload_n 0, 1) := by decide +kernel
theorem dX2_compose_9 : decode cX2_compose 9 = .ok (.iload_n 2, 1) := by decide +kernel
theorem dX2_compose_10 : decode cX2_compose 10 = .ok (.aload_n 1, 1) := by decide +kernel
theorem dX2_compose_11 : decode cX2_compose 11 = .ok (.aload_n 0, 1) := by decide +kernel
theorem dX2_compose_12 : decode cX2_compose 12 = .ok (.iload_n 2, 1) := by decide +kernel
theorem dX2_compose_13 : decode cX2_compose 13 = .ok (.iaload, 1) := by decide +kernel
theorem dX2_compose_14 : decode cX2_compose 14 = .ok (.invokestatic 15, 3) := by decide +kernel
theorem dX2_compose_17 : decode cX2_compose 17 = .ok (.iastore, 1) := by decide +kernel
theorem dX2_compose_18 : decode cX2_compose 18 = .ok (.iinc 2 1, 3) := by decide +kernel
theorem dX2_compose_21 : decode cX2_compose 21 = .ok (.goto (-19), 3) := by decide +kernel
theorem dX2_compose_24 : decode cX2_compose 24 = .ok (.return_, 1) := by decide +kernel
theorem dX2_restrict_0 : decode cX2_restrict 0 = .ok (.iconst 0, 1) := by decide +kernel
theorem dX2_restrict_1 : decode cX2_restrict 1 = .ok (.istore_n 2, 1) := by decide +kernel
theorem dX2_restrict_2 : decode cX2_restrict 2 = .ok (.iload_n 2, 1) := by decide +kernel
theorem dX2_restrict_3 : decode cX2_restrict 3 = .ok (.bipush 16, 2) := by decide +kernel
theorem dX2_restrict_5 : decode cX2_restrict 5 = .ok (.if_icmp .ge 22, 3) := by decide +kernel
theorem dX2_restrict_8 : decode cX2_restrict 8 = .ok (.iload_n 1, 1) := by decide +kernel
theorem dX2_restrict_9 : decode cX2_restrict 9 = .ok (.iload_n 2, 1) := by decide +kernel
theorem dX2_restrict_10 : decode cX2_restrict 10 = .ok (.ishr, 1) := by decide +kernel
theorem dX2_restrict_11 : decode cX2_restrict 11 = .ok (.iconst 1, 1) := by decide +kernel
theorem dX2_restrict_12 : decode cX2_restrict 12 = .ok (.iand, 1) := by decide +kernel
theorem dX2_restrict_13 : decode cX2_restrict 13 = .ok (.ifCond .ne 8, 3) := by decide +kernel
theorem dX2_restrict_16 : decode cX2_restrict 16 = .ok (.aload_n 0, 1) := by decide +kernel
theorem dX2_restrict_17 : decode cX2_restrict 17 = .ok (.iload_n 2, 1) := by decide +kernel
theorem dX2_restrict_18 : decode cX2_restrict 18 = .ok (.bipush 16, 2) := by decide +kernel
theorem dX2_restrict_20 : decode cX2_restrict 20 = .ok (.iastore, 1) := by decide +kernel
theorem dX2_restrict_21 : decode cX2_restrict 21 = .ok (.iinc 2 1, 3) := by decide +kernel
theorem dX2_restrict_24 : decode cX2_restrict 24 = .ok (.goto (-22), 3) := by decide +kernel
theorem dX2_restrict_27 : decode cX2_restrict 27 = .ok (.return_, 1) := by decide +kernel
theorem dX2_power_0 : decode cX2_power 0 = .ok (.iconst 0, 1) := by decide +kernel
theorem dX2_power_1 : decode cX2_power 1 = .ok (.istore_n 3, 1) := by decide +kernel
theorem dX2_power_2 : decode cX2_power 2 = .ok (.iload_n 3, 1) := by decide +kernel
theorem dX2_power_3 : decode cX2_power 3 = .ok (.bipush 16, 2) := by decide +kernel
theorem dX2_power_5 : decode cX2_power 5 = .ok (.if_icmp .ge 18, 3) := by decide +kernel
theorem dX2_power_8 : decode cX2_power 8 = .ok (.aload_n 2, 1) := by decide +kernel
theorem dX2_power_9 : decode cX2_power 9 = .ok (.iload_n 3, 1) := by decide +kernel
theorem dX2_power_10 : decode cX2_power 10 = .ok (.aload_n 0, 1) := by decide +kernel
theorem dX2_power_11 : decode cX2_power 11 = .ok (.iload_n 3, 1) := by decide +kernel
theorem dX2_power_12 : decode cX2_power 12 = .ok (.iload_n 1, 1) := by decide +kernel
theorem dX2_power_13 : decode cX2_power 13 = .ok (.invokestatic 21, 3) := by decide +kernel
theorem dX2_power_16 : decode cX2_power 16 = .ok (.iastore, 1) := by decide +kernel
theorem dX2_power_17 : decode cX2_power 17 = .ok (.iinc 3 1, 3) := by decide +kernel
theorem dX2_power_20 : decode cX2_power 20 = .ok (.goto (-18), 3) := by decide +kernel
theorem dX2_power_23 : decode cX2_power 23 = .ok (.return_, 1) := by decide +kernel
theorem dX2_inverse_0 : decode cX2_inverse 0 = .ok (.aload_n 2, 1) := by decide +kernel
theorem dX2_inverse_1 : decode cX2_inverse 1 = .ok (.bipush 16, 2) := by decide +kernel
theorem dX2_inverse_3 : decode cX2_inverse 3 = .ok (.invokestatic 47, 3) := by decide +kernel
theorem dX2_inverse_6 : decode cX2_inverse 6 = .ok (.iconst 0, 1) := by decide +kernel
theorem dX2_inverse_7 : decode cX2_inverse 7 = .ok (.istore_n 3, 1) := by decide +kernel
theorem dX2_inverse_8 : decode cX2_inverse 8 = .ok (.iconst 0, 1) := by decide +kernel
theorem dX2_inverse_9 : decode cX2_inverse 9 = .ok (.istore 4, 2) := by decide +kernel
theorem dX2_inverse_11 : decode cX2_inverse 11 = .ok (.iload 4, 2) := by decide +kernel
theorem dX2_inverse_13 : decode cX2_inverse 13 = .ok (.bipush 16, 2) := by decide +kernel
theorem dX2_inverse_15 : decode cX2_inverse 15 = .ok (.if_icmp .ge 79, 3) := by decide +kernel
theorem dX2_inverse_18 : decode cX2_inverse 18 = .ok (.aload_n 0, 1) := by decide +kernel
theorem dX2_inverse_19 : decode cX2_inverse 19 = .ok (.iload 4, 2) := by decide +kernel
theorem dX2_inverse_21 : decode cX2_inverse 21 = .ok (.iaload, 1) := by decide +kernel
theorem dX2_inverse_22 : decode cX2_inverse 22 = .ok (.istore 5, 2) := by decide +kernel
theorem dX2_inverse_24 : decode cX2_inverse 24 = .ok (.iload 5, 2) := by decide +kernel
theorem dX2_inverse_26 : decode cX2_inverse 26 = .ok (.invokestatic 53, 3) := by decide +kernel
theorem dX2_inverse_29 : decode cX2_inverse 29 = .ok (.ifCond .ne 6, 3) := by decide +kernel
theorem dX2_inverse_32 : decode cX2_inverse 32 = .ok (.goto 56, 3) := by decide +kernel
theorem dX2_inverse_35 : decode cX2_inverse 35 = .ok (.iload_n 3, 1) := by decide +kernel
theorem dX2_inverse_36 : decode cX2_inverse 36 = .ok (.iload 5, 2) := by decide +kernel
theorem dX2_inverse_38 : decode cX2_inverse 38 = .ok (.ishr, 1) := by decide +kernel
theorem dX2_inverse_39 : decode cX2_inverse 39 = .ok (.iconst 1, 1) := by decide +kernel
theorem dX2_inverse_40 : decode cX2_inverse 40 = .ok (.iand, 1) := by decide +kernel
theorem dX2_inverse_41 : decode cX2_inverse 41 = .ok (.ifCond .ne 7, 3) := by decide +kernel
theorem dX2_inverse_44 : decode cX2_inverse 44 = .ok (.iconst 1, 1) := by decide +kernel
theorem dX2_inverse_45 : decode cX2_inverse 45 = .ok (.goto 4, 3) := by decide +kernel
theorem dX2_inverse_48 : decode cX2_inverse 48 = .ok (.iconst 0, 1) := by decide +kernel
theorem dX2_inverse_49 : decode cX2_inverse 49 = .ok (.istore 6, 2) := by decide +kernel
theorem dX2_inverse_51 : decode cX2_inverse 51 = .ok (.iload 6, 2) := by decide +kernel
theorem dX2_inverse_53 : decode cX2_inverse 53 = .ok (.ifCond .ne 8, 3) := by decide +kernel
theorem dX2_inverse_56 : decode cX2_inverse 56 = .ok (.iload_n 1, 1) := by decide +kernel
theorem dX2_inverse_57 : decode cX2_inverse 57 = .ok (.iconst 2, 1) := by decide +kernel
theorem dX2_inverse_58 : decode cX2_inverse 58 = .ok (.if_icmp .ne 12, 3) := by decide +kernel
theorem dX2_inverse_61 : decode cX2_inverse 61 = .ok (.aload_n 2, 1) := by decide +kernel
theorem dX2_inverse_62 : decode cX2_inverse 62 = .ok (.iload 5, 2) := by decide +kernel
theorem dX2_inverse_64 : decode cX2_inverse 64 = .ok (.iload 4, 2) := by decide +kernel
theorem dX2_inverse_66 : decode cX2_inverse 66 = .ok (.iastore, 1) := by decide +kernel
theorem dX2_inverse_67 : decode cX2_inverse 67 = .ok (.goto 14, 3) := by decide +kernel
theorem dX2_inverse_70 : decode cX2_inverse 70 = .ok (.iload_n 1, 1) := by decide +kernel
theorem dX2_inverse_71 : decode cX2_inverse 71 = .ok (.iconst 1, 1) := by decide +kernel
theorem dX2_inverse_72 : decode cX2_inverse 72 = .ok (.if_icmp .eq 9, 3) := by decide +kernel
theorem dX2_inverse_75 : decode cX2_inverse 75 = .ok (.aload_n 2, 1) := by decide +kernel
theorem dX2_inverse_76 : decode cX2_inverse 76 = .ok (.iload 5, 2) := by decide +kernel
theorem dX2_inverse_78 : decode cX2_inverse 78 = .ok (.bipush 16, 2) := by decide +kernel
theorem dX2_inverse_80 : decode cX2_inverse 80 = .ok (.iastore, 1) := by decide +kernel
theorem dX2_inverse_81 : decode cX2_inverse 81 = .ok (.iload_n 3, 1) := by decide +kernel
theorem dX2_inverse_82 : decode cX2_inverse 82 = .ok (.iconst 1, 1) := by decide +kernel
theorem dX2_inverse_83 : decode cX2_inverse 83 = .ok (.iload 5, 2) := by decide +kernel
theorem dX2_inverse_85 : decode cX2_inverse 85 = .ok (.ishl, 1) := by decide +kernel
theorem dX2_inverse_86 : decode cX2_inverse 86 = .ok (.ior, 1) := by decide +kernel
theorem dX2_inverse_87 : decode cX2_inverse 87 = .ok (.istore_n 3, 1) := by decide +kernel
theorem dX2_inverse_88 : decode cX2_inverse 88 = .ok (.iinc 4 1, 3) := by decide +kernel
theorem dX2_inverse_91 : decode cX2_inverse 91 = .ok (.goto (-80), 3) := by decide +kernel
theorem dX2_inverse_94 : decode cX2_inverse 94 = .ok (.return_, 1) := by decide +kernel
theorem dX3_init_0 : decode cX3_init 0 = .ok (.aload_n 0, 1) := by decide +kernel
theorem dX3_init_1 : decode cX3_init 1 = .ok (.invokespecial 3, 3) := by decide +kernel
theorem dX3_init_4 : decode cX3_init 4 = .ok (.aload_n 0, 1) := by decide +kernel
theorem dX3_init_5 : decode cX3_init 5 = .ok (.bipush 6, 2) := by decide +kernel
theorem dX3_init_7 : decode cX3_init 7 = .ok (.bipush 16, 2) := by decide +kernel
theorem dX3_init_9 : decode cX3_init 9 = .ok (.multianewarray 9 2, 4) := by decide +kernel
theorem dX3_init_13 : decode cX3_init 13 = .ok (.putfield 11, 3) := by decide +kernel
theorem dX3_init_16 : decode cX3_init 16 = .ok (.aload_n 0, 1) := by decide +kernel
theorem dX3_init_17 : decode cX3_init 17 = .ok (.iconst (-1), 1) := by decide +kernel
theorem dX3_init_18 : decode cX3_init 18 = .ok (.putfield 16, 3) := by decide +kernel
theorem dX3_init_21 : decode cX3_init 21 = .ok (.aload_n 0, 1) := by decide +kernel
theorem dX3_init_22 : decode cX3_init 22 = .ok (.iconst 0, 1) := by decide +kernel
theorem dX3_init_23 : decode cX3_init 23 = .ok (.putfield 20, 3) := by decide +kernel
theorem dX3_init_26 : decode cX3_init 26 = .ok (.aload_n 0, 1) := by decide +kernel
theorem dX3_init_27 : decode cX3_init 27 = .ok (.iconst 0, 1) := by decide +kernel
theorem dX3_init_28 : decode cX3_init 28 = .ok (.putfield 23, 3) := by decide +kernel
theorem dX3_init_31 : decode cX3_init 31 = .ok (.return_, 1) := by decide +kernel
theorem dX3_copyFrom_0 : decode cX3_copyFrom 0 = .ok (.iconst 0, 1) := by decide +kernel
theorem dX3_copyFrom_1 : decode cX3_copyFrom 1 = .ok (.istore_n 2, 1) := by decide +kernel
theorem dX3_copyFrom_2 : decode cX3_copyFrom 2 = .ok (.iload_n 2, 1) := by decide +kernel
theorem dX3_copyFrom_3 : decode cX3_copyFrom 3 = .ok (.bipush 6, 2) := by decide +kernel
theorem dX3_copyFrom_5 : decode cX3_copyFrom 5 = .ok (.if_icmp .ge 24, 3) := by decide +kernel
theorem dX3_copyFrom_8 : decode cX3_copyFrom 8 = .ok (.aload_n 1, 1) := by decide +kernel
theorem dX3_copyFrom_9 : decode cX3_copyFrom 9 = .ok (.getfield 11, 3) := by decide +kernel
theorem dX3_copyFrom_12 : decode cX3_copyFrom 12 = .ok (.iload_n 2, 1) := by decide +kernel
theorem dX3_copyFrom_13 : decode cX3_copyFrom 13 = .ok (.aaload, 1) := by decide +kernel
theorem dX3_copyFrom_14 : decode cX3_copyFrom 14 = .ok (.aload_n 0, 1) := by decide +kernel
theorem dX3_copyFrom_15 : decode cX3_copyFrom 15 = .ok (.getfield 11, 3) := by decide +kernel
theorem dX3_copyFrom_18 : decode cX3_copyFrom 18 = .ok (.iload_n 2, 1) := by decide +kernel
theorem dX3_copyFrom_19 : decode cX3_copyFrom 19 = .ok (.aaload, 1) := by decide +kernel
theorem dX3_copyFrom_20 : decode cX3_copyFrom 20 = .ok (.invokestatic 26, 3) := by decide +kernel
theorem dX3_copyFrom_23 : decode cX3_copyFrom 23 = .ok (.iinc 2 1, 3) := by decide +kernel
theorem dX3_copyFrom_26 : decode cX3_copyFrom 26 = .ok (.goto (-24), 3) := by decide +kernel
theorem dX3_copyFrom_29 : decode cX3_copyFrom 29 = .ok (.aload_n 0, 1) := by decide +kernel
theorem dX3_copyFrom_30 : decode cX3_copyFrom 30 = .ok (.aload_n 1, 1) := by decide +kernel
theorem dX3_copyFrom_31 : decode cX3_copyFrom 31 = .ok (.getfield 16, 3) := by decide +kernel
theorem dX3_copyFrom_34 : decode cX3_copyFrom 34 = .ok (.putfield 16, 3) := by decide +kernel
theorem dX3_copyFrom_37 : decode cX3_copyFrom 37 = .ok (.aload_n 0, 1) := by decide +kernel
theorem dX3_copyFrom_38 : decode cX3_copyFrom 38 = .ok (.aload_n 1, 1) := by decide +kernel
theorem dX3_copyFrom_39 : decode cX3_copyFrom 39 = .ok (.getfield 20, 3) := by decide +kernel
theorem dX3_copyFrom_42 : decode cX3_copyFrom 42 = .ok (.putfield 20, 3) := by decide +kernel
theorem dX3_copyFrom_45 : decode cX3_copyFrom 45 = .ok (.aload_n 0, 1) := by decide +kernel
theorem dX3_copyFrom_46 : decode cX3_copyFrom 46 = .ok (.aload_n 1, 1) := by decide +kernel
theorem dX3_copyFrom_47 : decode cX3_copyFrom 47 = .ok (.getfield 23, 3) := by decide +kernel
theorem dX3_copyFrom_50 : decode cX3_copyFrom 50 = .ok (.putfield 23, 3) := by decide +kernel
theorem dX3_copyFrom_53 : decode cX3_copyFrom 53 = .ok (.return_, 1) := by decide +kernel
theorem dX3_start_0 : decode cX3_start 0 = .ok (.iconst 0, 1) := by decide +kernel
theorem dX3_start_1 : decode cX3_start 1 = .ok (.istore 4, 2) := by decide +kernel
theorem dX3_start_3 : decode cX3_start 3 = .ok (.iload 4, 2) := by decide +kernel
theorem dX3_start_5 : decode cX3_start 5 = .ok (.bipush 6, 2) := by decide +kernel
theorem dX3_start_7 : decode cX3_start 7 = .ok (.if_icmp .ge 33, 3) := by decide +kernel
theorem dX3_start_10 : decode cX3_start 10 = .ok (.iload 4, 2) := by decide +kernel
theorem dX3_start_12 : decode cX3_start 12 = .ok (.aload_n 3, 1) := by decide +kernel
theorem dX3_start_13 : decode cX3_start 13 = .ok (.arraylength, 1) := by decide +kernel
theorem dX3_start_14 : decode cX3_start 14 = .ok (.if_icmp .ge 26, 3) := by decide +kernel
theorem dX3_start_17 : decode cX3_start 17 = .ok (.aload_n 3, 1) := by decide +kernel
theorem dX3_start_18 : decode cX3_start 18 = .ok (.iload 4, 2) := by decide +kernel
theorem dX3_start_20 : decode cX3_start 20 = .ok (.aaload, 1) := by decide +kernel
theorem dX3_start_21 : decode cX3_start 21 = .ok (.getfield 32, 3) := by decide +kernel
theorem dX3_start_24 : decode cX3_start 24 = .ok (.aload_n 0, 1) := by decide +kernel
theorem dX3_start_25 : decode cX3_start 25 = .ok (.getfield 11, 3) := by decide +kernel
theorem dX3_start_28 : decode cX3_start 28 = .ok (.iload 4, 2) := by decide +kernel
theorem dX3_start_30 : decode cX3_start 30 = .ok (.aaload, 1) := by decide +kernel
theorem dX3_start_31 : decode cX3_start 31 = .ok (.invokestatic 26, 3) := by decide +kernel
theorem dX3_start_34 : decode cX3_start 34 = .ok (.iinc 4 1, 3) := by decide +kernel
theorem dX3_start_37 : decode cX3_start 37 = .ok (.goto (-34), 3) := by decide +kernel
theorem dX3_start_40 : decode cX3_start 40 = .ok (.aload_n 0, 1) := by decide +kernel
theorem dX3_start_41 : decode cX3_start 41 = .ok (.iload_n 1, 1) := by decide +kernel
theorem dX3_start_42 : decode cX3_start 42 = .ok (.putfield 16, 3) := by decide +kernel
theorem dX3_start_45 : decode cX3_start 45 = .ok (.aload_n 0, 1) := by decide +kernel
theorem dX3_start_46 : decode cX3_start 46 = .ok (.iload_n 2, 1) := by decide +kernel
theorem dX3_start_47 : decode cX3_start 47 = .ok (.putfield 20, 3) := by decide +kernel
theorem dX3_start_50 : decode cX3_start 50 = .ok (.aload_n 0, 1) := by decide +kernel
theorem dX3_start_51 : decode cX3_start 51 = .ok (.iconst 0, 1) := by decide +kernel
theorem dX3_start_52 : decode cX3_start 52 = .ok (.putfield 23, 3) := by decide +kernel
theorem dX3_start_55 : decode cX3_start 55 = .ok (.return_, 1) := by decide +kernel
theorem dX3_isRunning_0 : decode cX3_isRunning 0 = .ok (.aload_n 0, 1) := by decide +kernel
theorem dX3_isRunning_1 : decode cX3_isRunning 1 = .ok (.getfield 16, 3) := by decide +kernel
theorem dX3_isRunning_4 : decode cX3_isRunning 4 = .ok (.invokestatic 38, 3) := by decide +kernel
theorem dX3_isRunning_7 : decode cX3_isRunning 7 = .ok (.ireturn, 1) := by decide +kernel
theorem dX3_isSuspect_0 : decode cX3_isSuspect 0 = .ok (.aload_n 0, 1) := by decide +kernel
theorem dX3_isSuspect_1 : decode cX3_isSuspect 1 = .ok (.getfield 20, 3) := by decide +kernel
theorem dX3_isSuspect_4 : decode cX3_isSuspect 4 = .ok (.iload_n 1, 1) := by decide +kernel
theorem dX3_isSuspect_5 : decode cX3_isSuspect 5 = .ok (.ishr, 1) := by decide +kernel
theorem dX3_isSuspect_6 : decode cX3_isSuspect 6 = .ok (.iconst 1, 1) := by decide +kernel
theorem dX3_isSuspect_7 : decode cX3_isSuspect 7 = .ok (.iand, 1) := by decide +kernel
theorem dX3_isSuspect_8 : decode cX3_isSuspect 8 = .ok (.iconst 1, 1) := by decide +kernel
theorem dX3_isSuspect_9 : decode cX3_isSuspect 9 = .ok (.if_icmp .ne 7, 3) := by decide +kernel
theorem dX3_isSuspect_12 : decode cX3_isSuspect 12 = .ok (.iconst 1, 1) := by decide +kernel
theorem dX3_isSuspect_13 : decode cX3_isSuspect 13 = .ok (.goto 4, 3) := by decide +kernel
theorem dX3_isSuspect_16 : decode cX3_isSuspect 16 = .ok (.iconst 0, 1) := by decide +kernel
theorem dX3_isSuspect_17 : decode cX3_isSuspect 17 = .ok (.ireturn, 1) := by decide +kernel
theorem dX3_answer_0 : decode cX3_answer 0 = .ok (.aload_n 0, 1) := by decide +kernel
theorem dX3_answer_1 : decode cX3_answer 1 = .ok (.invokevirtual 42, 3) := by decide +kernel
theorem dX3_answer_4 : decode cX3_answer 4 = .ok (.ifCond .ne 6, 3) := by decide +kernel
theorem dX3_answer_7 : decode cX3_answer 7 = .ok (.bipush 16, 2) := by decide +kernel
theorem dX3_answer_9 : decode cX3_answer 9 = .ok (.ireturn, 1) := by decide +kernel
theorem dX3_answer_10 : decode cX3_answer 10 = .ok (.aload_n 0, 1) := by decide +kernel
theorem dX3_answer_11 : decode cX3_answer 11 = .ok (.getfield 11, 3) := by decide +kernel
theorem dX3_answer_14 : decode cX3_answer 14 = .ok (.aload_n 0, 1) := by decide +kernel
theorem dX3_answer_15 : decode cX3_answer 15 = .ok (.getfield 16, 3) := by decide +kernel
theorem dX3_answer_18 : decode cX3_answer 18 = .ok (.aaload, 1) := by decide +kernel
theorem dX3_answer_19 : decode cX3_answer 19 = .ok (.iload_n 1, 1) := by decide +kernel
theorem dX3_answer_20 : decode cX3_answer 20 = .ok (.iaload, 1) := by decide +kernel
theorem dX3_answer_21 : decode cX3_answer 21 = .ok (.istore_n 2, 1) := by decide +kernel
theorem dX3_answer_22 : decode cX3_answer 22 = .ok (.iconst 0, 1) := by decide +kernel
theorem dX3_answer_23 : decode cX3_answer 23 = .ok (.istore_n 3, 1) := by decide +kernel
theorem dX3_answer_24 : decode cX3_answer 24 = .ok (.iload_n 3, 1) := by decide +kernel
theorem dX3_answer_25 : decode cX3_answer 25 = .ok (.bipush 6, 2) := by decide +kernel
theorem dX3_answer_27 : decode cX3_answer 27 = .ok (.if_icmp .ge 35, 3) := by decide +kernel
theorem dX3_answer_30 : decode cX3_answer 30 = .ok (.aload_n 0, 1) := by decide +kernel
theorem dX3_answer_31 : decode cX3_answer 31 = .ok (.getfield 11, 3) := by decide +kernel
theorem dX3_answer_34 : decode cX3_answer 34 = .ok (.iload_n 3, 1) := by decide +kernel
theorem dX3_answer_35 : decode cX3_answer 35 = .ok (.aaload, 1) := by decide +kernel
theorem dX3_answer_36 : decode cX3_answer 36 = .ok (.iload_n 1, 1) := by decide +kernel
theorem dX3_answer_37 : decode cX3_answer 37 = .ok (.iaload, 1) := by decide +kernel
theorem dX3_answer_38 : decode cX3_answer 38 = .ok (.iload_n 2, 1) := by decide +kernel
theorem dX3_answer_39 : decode cX3_answer 39 = .ok (.if_icmp .eq 17, 3) := by decide +kernel
theorem dX3_answer_42 : decode cX3_answer 42 = .ok (.aload_n 0, 1) := by decide +kernel
theorem dX3_answer_43 : decode cX3_answer 43 = .ok (.dup, 1) := by decide +kernel
theorem dX3_answer_44 : decode cX3_answer 44 = .ok (.getfield 20, 3) := by decide +kernel
theorem dX3_answer_47 : decode cX3_answer 47 = .ok (.iconst 1, 1) := by decide +kernel
theorem dX3_answer_48 : decode cX3_answer 48 = .ok (.iload_n 3, 1) := by decide +kernel
theorem dX3_answer_49 : decode cX3_answer 49 = .ok (.ishl, 1) := by decide +kernel
theorem dX3_answer_50 : decode cX3_answer 50 = .ok (.iconst (-1), 1) := by decide +kernel
theorem dX3_answer_51 : decode cX3_answer 51 = .ok (.ixor, 1) := by decide +kernel
theorem dX3_answer_52 : decode cX3_answer 52 = .ok (.iand, 1) := by decide +kernel
theorem dX3_answer_53 : decode cX3_answer 53 = .ok (.putfield 20, 3) := by decide +kernel
theorem dX3_answer_56 : decode cX3_answer 56 = .ok (.iinc 3 1, 3) := by decide +kernel
theorem dX3_answer_59 : decode cX3_answer 59 = .ok (.goto (-35), 3) := by decide +kernel
theorem dX3_answer_62 : decode cX3_answer 62 = .ok (.aload_n 0, 1) := by decide +kernel
theorem dX3_answer_63 : decode cX3_answer 63 = .ok (.dup, 1) := by decide +kernel
theorem dX3_answer_64 : decode cX3_answer 64 = .ok (.getfield 23, 3) := by decide +kernel
theorem dX3_answer_67 : decode cX3_answer 67 = .ok (.iconst 1, 1) := by decide +kernel
theorem dX3_answer_68 : decode cX3_answer 68 = .ok (.iadd, 1) := by decide +kernel
theorem dX3_answer_69 : decode cX3_answer 69 = .ok (.putfield 23, 3) := by decide +kernel
theorem dX3_answer_72 : decode cX3_answer 72 = .ok (.iload_n 2, 1) := by decide +kernel
theorem dX3_answer_73 : decode cX3_answer 73 = .ok (.ireturn, 1) := by decide +kernel
theorem dX3_isFound_0 : decode cX3_isFound 0 = .ok (.aload_n 0, 1) := by decide +kernel
theorem dX3_isFound_1 : decode cX3_isFound 1 = .ok (.invokevirtual 42, 3) := by decide +kernel
theorem dX3_isFound_4 : decode cX3_isFound 4 = .ok (.ifCond .ne 5, 3) := by decide +kernel
theorem dX3_isFound_7 : decode cX3_isFound 7 = .ok (.iconst 0, 1) := by decide +kernel
theorem dX3_isFound_8 : decode cX3_isFound 8 = .ok (.ireturn, 1) := by decide +kernel
theorem dX3_isFound_9 : decode cX3_isFound 9 = .ok (.iconst 0, 1) := by decide +kernel
theorem dX3_isFound_10 : decode cX3_isFound 10 = .ok (.istore_n 1, 1) := by decide +kernel
theorem dX3_isFound_11 : decode cX3_isFound 11 = .ok (.iload_n 1, 1) := by decide +kernel
theorem dX3_isFound_12 : decode cX3_isFound 12 = .ok (.bipush 6, 2) := by decide +kernel
theorem dX3_isFound_14 : decode cX3_isFound 14 = .ok (.if_icmp .ge 40, 3) := by decide +kernel
theorem dX3_isFound_17 : decode cX3_isFound 17 = .ok (.aload_n 0, 1) := by decide +kernel
theorem dX3_isFound_18 : decode cX3_isFound 18 = .ok (.iload_n 1, 1) := by decide +kernel
theorem dX3_isFound_19 : decode cX3_isFound 19 = .ok (.invokevirtual 46, 3) := by decide +kernel
theorem dX3_isFound_22 : decode cX3_isFound 22 = .ok (.ifCond .eq 26, 3) := by decide +kernel
theorem dX3_isFound_25 : decode cX3_isFound 25 = .ok (.aload_n 0, 1) := by decide +kernel
theorem dX3_isFound_26 : decode cX3_isFound 26 = .ok (.getfield 11, 3) := by decide +kernel
theorem dX3_isFound_29 : decode cX3_isFound 29 = .ok (.iload_n 1, 1) := by decide +kernel
theorem dX3_isFound_30 : decode cX3_isFound 30 = .ok (.aaload, 1) := by decide +kernel
theorem dX3_isFound_31 : decode cX3_isFound 31 = .ok (.aload_n 0, 1) := by decide +kernel
theorem dX3_isFound_32 : decode cX3_isFound 32 = .ok (.getfield 11, 3) := by decide +kernel
theorem dX3_isFound_35 : decode cX3_isFound 35 = .ok (.aload_n 0, 1) := by decide +kernel
theorem dX3_isFound_36 : decode cX3_isFound 36 = .ok (.getfield 16, 3) := by decide +kernel
theorem dX3_isFound_39 : decode cX3_isFound 39 = .ok (.aaload, 1) := by decide +kernel
theorem dX3_isFound_40 : decode cX3_isFound 40 = .ok (.invokestatic 49, 3) := by decide +kernel
theorem dX3_isFound_43 : decode cX3_isFound 43 = .ok (.ifCond .eq 5, 3) := by decide +kernel
theorem dX3_isFound_46 : decode cX3_isFound 46 = .ok (.iconst 0, 1) := by decide +kernel
theorem dX3_isFound_47 : decode cX3_isFound 47 = .ok (.ireturn, 1) := by decide +kernel
theorem dX3_isFound_48 : decode cX3_isFound 48 = .ok (.iinc 1 1, 3) := by decide +kernel
theorem dX3_isFound_51 : decode cX3_isFound 51 = .ok (.goto (-40), 3) := by decide +kernel
theorem dX3_isFound_54 : decode cX3_isFound 54 = .ok (.iconst 1, 1) := by decide +kernel
theorem dX3_isFound_55 : decode cX3_isFound 55 = .ok (.ireturn, 1) := by decide +kernel
theorem dX3_alikeUpTo_0 : decode cX3_alikeUpTo 0 = .ok (.iconst 0, 1) := by decide +kernel
theorem dX3_alikeUpTo_1 : decode cX3_alikeUpTo 1 = .ok (.istore 4, 2) := by decide +kernel
theorem dX3_alikeUpTo_3 : decode cX3_alikeUpTo 3 = .ok (.iconst 0, 1) := by decide +kernel
theorem dX3_alikeUpTo_4 : decode cX3_alikeUpTo 4 = .ok (.istore 5, 2) := by decide +kernel
theorem dX3_alikeUpTo_6 : decode cX3_alikeUpTo 6 = .ok (.iload 5, 2) := by decide +kernel
theorem dX3_alikeUpTo_8 : decode cX3_alikeUpTo 8 = .ok (.iload_n 1, 1) := by decide +kernel
theorem dX3_alikeUpTo_9 : decode cX3_alikeUpTo 9 = .ok (.if_icmp .gt 48, 3) := by decide +kernel
theorem dX3_alikeUpTo_12 : decode cX3_alikeUpTo 12 = .ok (.iload 5, 2) := by decide +kernel
theorem dX3_alikeUpTo_14 : decode cX3_alikeUpTo 14 = .ok (.bipush 6, 2) := by decide +kernel
theorem dX3_alikeUpTo_16 : decode cX3_alikeUpTo 16 = .ok (.if_icmp .ge 41, 3) := by decide +kernel
theorem dX3_alikeUpTo_19 : decode cX3_alikeUpTo 19 = .ok (.aload_n 0, 1) := by decide +kernel
theorem dX3_alikeUpTo_20 : decode cX3_alikeUpTo 20 = .ok (.iload 5, 2) := by decide +kernel
theorem dX3_alikeUpTo_22 : decode cX3_alikeUpTo 22 = .ok (.invokevirtual 46, 3) := by decide +kernel
theorem dX3_alikeUpTo_25 : decode cX3_alikeUpTo 25 = .ok (.ifCond .eq 26, 3) := by decide +kernel
theorem dX3_alikeUpTo_28 : decode cX3_alikeUpTo 28 = .ok (.aload_n 0, 1) := by decide +kernel
theorem dX3_alikeUpTo_29 : decode cX3_alikeUpTo 29 = .ok (.getfield 11, 3) := by decide +kernel
theorem dX3_alikeUpTo_32 : decode cX3_alikeUpTo 32 = .ok (.iload 5, 2) := by decide +kernel
theorem dX3_alikeUpTo_34 : decode cX3_alikeUpTo 34 = .ok (.aaload, 1) := by decide +kernel
theorem dX3_alikeUpTo_35 : decode cX3_alikeUpTo 35 = .ok (.iload_n 3, 1) := by decide +kernel
theorem dX3_alikeUpTo_36 : decode cX3_alikeUpTo 36 = .ok (.iaload, 1) := by decide +kernel
theorem dX3_alikeUpTo_37 : decode cX3_alikeUpTo 37 = .ok (.aload_n 0, 1) := by decide +kernel
theorem dX3_alikeUpTo_38 : decode cX3_alikeUpTo 38 = .ok (.getfield 11, 3) := by decide +kernel
theorem dX3_alikeUpTo_41 : decode cX3_alikeUpTo 41 = .ok (.iload_n 2, 1) := by decide +kernel
theorem dX3_alikeUpTo_42 : decode cX3_alikeUpTo 42 = .ok (.aaload, 1) := by decide +kernel
theorem dX3_alikeUpTo_43 : decode cX3_alikeUpTo 43 = .ok (.iload_n 3, 1) := by decide +kernel
theorem dX3_alikeUpTo_44 : decode cX3_alikeUpTo 44 = .ok (.iaload, 1) := by decide +kernel
theorem dX3_alikeUpTo_45 : decode cX3_alikeUpTo 45 = .ok (.if_icmp .ne 6, 3) := by decide +kernel
theorem dX3_alikeUpTo_48 : decode cX3_alikeUpTo 48 = .ok (.iinc 4 1, 3) := by decide +kernel
theorem dX3_alikeUpTo_51 : decode cX3_alikeUpTo 51 = .ok (.iinc 5 1, 3) := by decide +kernel
theorem dX3_alikeUpTo_54 : decode cX3_alikeUpTo 54 = .ok (.goto (-48), 3) := by decide +kernel
theorem dX3_alikeUpTo_57 : decode cX3_alikeUpTo 57 = .ok (.iload 4, 2) := by decide +kernel
theorem dX3_alikeUpTo_59 : decode cX3_alikeUpTo 59 = .ok (.ireturn, 1) := by decide +kernel
theorem dX3_groups_0 : decode cX3_groups 0 = .ok (.iconst 0, 1) := by decide +kernel
theorem dX3_groups_1 : decode cX3_groups 1 = .ok (.istore_n 2, 1) := by decide +kernel
theorem dX3_groups_2 : decode cX3_groups 2 = .ok (.iconst 0, 1) := by decide +kernel
theorem dX3_groups_3 : decode cX3_groups 3 = .ok (.istore_n 3, 1) := by decide +kernel
theorem dX3_groups_4 : decode cX3_groups 4 = .ok (.iload_n 3, 1) := by decide +kernel
theorem dX3_groups_5 : decode cX3_groups 5 = .ok (.bipush 6, 2) := by decide +kernel
theorem dX3_groups_7 : decode cX3_groups 7 = .ok (.if_icmp .ge 31, 3) := by decide +kernel
theorem dX3_groups_10 : decode cX3_groups 10 = .ok (.aload_n 0, 1) := by decide +kernel
theorem dX3_groups_11 : decode cX3_groups 11 = .ok (.iload_n 3, 1) := by decide +kernel
theorem dX3_groups_12 : decode cX3_groups 12 = .ok (.invokevirtual 46, 3) := by decide +kernel
theorem dX3_groups_15 : decode cX3_groups 15 = .ok (.ifCond .eq 17, 3) := by decide +kernel
theorem dX3_groups_18 : decode cX3_groups 18 = .ok (.aload_n 0, 1) := by decide +kernel
theorem dX3_groups_19 : decode cX3_groups 19 = .ok (.iload_n 3, 1) := by decide +kernel
theorem dX3_groups_20 : decode cX3_groups 20 = .ok (.iload_n 3, 1) := by decide +kernel
theorem dX3_groups_21 : decode cX3_groups 21 = .ok (.iload_n 1, 1) := by decide +kernel
theorem dX3_groups_22 : decode cX3_groups 22 = .ok (.invokevirtual 53, 3) := by decide +kernel
theorem dX3_groups_25 : decode cX3_groups 25 = .ok (.iconst 1, 1) := by decide +kernel
theorem dX3_groups_26 : decode cX3_groups 26 = .ok (.if_icmp .ne 6, 3) := by decide +kernel
theorem dX3_groups_29 : decode cX3_groups 29 = .ok (.iinc 2 1, 3) := by decide +kernel
theorem dX3_groups_32 : decode cX3_groups 32 = .ok (.iinc 3 1, 3) := by decide +kernel
theorem dX3_groups_35 : decode cX3_groups 35 = .ok (.goto (-31), 3) := by decide +kernel
theorem dX3_groups_38 : decode cX3_groups 38 = .ok (.iload_n 2, 1) := by decide +kernel
theorem dX3_groups_39 : decode cX3_groups 39 = .ok (.ireturn, 1) := by decide +kernel
theorem dX3_greatestGroup_0 : decode cX3_greatestGroup 0 = .ok (.iconst 0, 1) := by decide +kernel
theorem dX3_greatestGroup_1 : decode cX3_greatestGroup 1 = .ok (.istore_n 2, 1) := by decide +kernel
theorem dX3_greatestGroup_2 : decode cX3_greatestGroup 2 = .ok (.iconst 0, 1) := by decide +kernel
theorem dX3_greatestGroup_3 : decode cX3_greatestGroup 3 = .ok (.istore_n 3, 1) := by decide +kernel
theorem dX3_greatestGroup_4 : decode cX3_greatestGroup 4 = .ok (.iload_n 3, 1) := by decide +kernel
theorem dX3_greatestGroup_5 : decode cX3_greatestGroup 5 = .ok (.bipush 6, 2) := by decide +kernel
theorem dX3_greatestGroup_7 : decode cX3_greatestGroup 7 = .ok (.if_icmp .ge 29, 3) := by decide +kernel
theorem dX3_greatestGroup_10 : decode cX3_greatestGroup 10 = .ok (.aload_n 0, 1) := by decide +kernel
theorem dX3_greatestGroup_11 : decode cX3_greatestGroup 11 = .ok (.iload_n 3, 1) := by decide +kernel
theorem dX3_greatestGroup_12 : decode cX3_greatestGroup 12 = .ok (.invokevirtual 46, 3) := by decide +kernel
theorem dX3_greatestGroup_15 : decode cX3_greatestGroup 15 = .ok (.ifCond .eq 15, 3) := by decide +kernel
theorem dX3_greatestGroup_18 : decode cX3_greatestGroup 18 = .ok (.iload_n 2, 1) := by decide +kernel
theorem dX3_greatestGroup_19 : decode cX3_greatestGroup 19 = .ok (.aload_n 0, 1) := by decide +kernel
theorem dX3_greatestGroup_20 : decode cX3_greatestGroup 20 = .ok (.iconst 5, 1) := by decide +kernel
theorem dX3_greatestGroup_21 : decode cX3_greatestGroup 21 = .ok (.iload_n 3, 1) := by decide +kernel
theorem dX3_greatestGroup_22 : decode cX3_greatestGroup 22 = .ok (.iload_n 1, 1) := by decide +kernel
theorem dX3_greatestGroup_23 : decode cX3_greatestGroup 23 = .ok (.invokevirtual 53, 3) := by decide +kernel
theorem dX3_greatestGroup_26 : decode cX3_greatestGroup 26 = .ok (.invokestatic 57, 3) := by decide +kernel
theorem dX3_greatestGroup_29 : decode cX3_greatestGroup 29 = .ok (.istore_n 2, 1) := by decide +kernel
theorem dX3_greatestGroup_30 : decode cX3_greatestGroup 30 = .ok (.iinc 3 1, 3) := by decide +kernel
theorem dX3_greatestGroup_33 : decode cX3_greatestGroup 33 = .ok (.goto (-29), 3) := by decide +kernel
theorem dX3_greatestGroup_36 : decode cX3_greatestGroup 36 = .ok (.iload_n 2, 1) := by decide +kernel
theorem dX3_greatestGroup_37 : decode cX3_greatestGroup 37 = .ok (.ireturn, 1) := by decide +kernel
theorem dX3_bestKey_0 : decode cX3_bestKey 0 = .ok (.iconst 0, 1) := by decide +kernel
theorem dX3_bestKey_1 : decode cX3_bestKey 1 = .ok (.istore_n 1, 1) := by decide +kernel
theorem dX3_bestKey_2 : decode cX3_bestKey 2 = .ok (.iconst 1, 1) := by decide +kernel
theorem dX3_bestKey_3 : decode cX3_bestKey 3 = .ok (.istore_n 2, 1) := by decide +kernel
theorem dX3_bestKey_4 : decode cX3_bestKey 4 = .ok (.iload_n 2, 1) := by decide +kernel
theorem dX3_bestKey_5 : decode cX3_bestKey 5 = .ok (.bipush 16, 2) := by decide +kernel
theorem dX3_bestKey_7 : decode cX3_bestKey 7 = .ok (.if_icmp .ge 20, 3) := by decide +kernel
theorem dX3_bestKey_10 : decode cX3_bestKey 10 = .ok (.aload_n 0, 1) := by decide +kernel
theorem dX3_bestKey_11 : decode cX3_bestKey 11 = .ok (.iload_n 2, 1) := by decide +kernel
theorem dX3_bestKey_12 : decode cX3_bestKey 12 = .ok (.iload_n 1, 1) := by decide +kernel
theorem dX3_bestKey_13 : decode cX3_bestKey 13 = .ok (.invokevirtual 63, 3) := by decide +kernel
theorem dX3_bestKey_16 : decode cX3_bestKey 16 = .ok (.ifCond .eq 5, 3) := by decide +kernel
theorem dX3_bestKey_19 : decode cX3_bestKey 19 = .ok (.iload_n 2, 1) := by decide +kernel
theorem dX3_bestKey_20 : decode cX3_bestKey 20 = .ok (.istore_n 1, 1) := by decide +kernel
theorem dX3_bestKey_21 : decode cX3_bestKey 21 = .ok (.iinc 2 1, 3) := by decide +kernel
theorem dX3_bestKey_24 : decode cX3_bestKey 24 = .ok (.goto (-20), 3) := by decide +kernel
theorem dX3_bestKey_27 : decode cX3_bestKey 27 = .ok (.iload_n 1, 1) := by decide +kernel
theorem dX3_bestKey_28 : decode cX3_bestKey 28 = .ok (.ireturn, 1) := by decide +kernel
theorem dX3_isBetter_0 : decode cX3_isBetter 0 = .ok (.aload_n 0, 1) := by decide +kernel
theorem dX3_isBetter_1 : decode cX3_isBetter 1 = .ok (.iload_n 1, 1) := by decide +kernel
theorem dX3_isBetter_2 : decode cX3_isBetter 2 = .ok (.invokevirtual 67, 3) := by decide +kernel
theorem dX3_isBetter_5 : decode cX3_isBetter 5 = .ok (.istore_n 3, 1) := by decide +kernel
theorem dX3_isBetter_6 : decode cX3_isBetter 6 = .ok (.aload_n 0, 1) := by decide +kernel
theorem dX3_isBetter_7 : decode cX3_isBetter 7 = .ok (.iload_n 2, 1) := by decide +kernel
theorem dX3_isBetter_8 : decode cX3_isBetter 8 = .ok (.invokevirtual 67, 3) := by decide +kernel
theorem dX3_isBetter_11 : decode cX3_isBetter 11 = .ok (.istore 4, 2) := by decide +kernel
theorem dX3_isBetter_13 : decode cX3_isBetter 13 = .ok (.iload_n 3, 1) := by decide +kernel
theorem dX3_isBetter_14 : decode cX3_isBetter 14 = .ok (.iload 4, 2) := by decide +kernel
theorem dX3_isBetter_16 : decode cX3_isBetter 16 = .ok (.if_icmp .eq 15, 3) := by decide +kernel
theorem dX3_isBetter_19 : decode cX3_isBetter 19 = .ok (.iload_n 3, 1) := by decide +kernel
theorem dX3_isBetter_20 : decode cX3_isBetter 20 = .ok (.iload 4, 2) := by decide +kernel
theorem dX3_isBetter_22 : decode cX3_isBetter 22 = .ok (.if_icmp .ge 7, 3) := by decide +kernel
theorem dX3_isBetter_25 : decode cX3_isBetter 25 = .ok (.iconst 1, 1) := by decide +kernel
theorem dX3_isBetter_26 : decode cX3_isBetter 26 = .ok (.goto 4, 3) := by decide +kernel
theorem dX3_isBetter_29 : decode cX3_isBetter 29 = .ok (.iconst 0, 1) := by decide +kernel
theorem dX3_isBetter_30 : decode cX3_isBetter 30 = .ok (.ireturn, 1) := by decide +kernel
end
section
theorem dX3_isBetter_31 : decode cX3_isBetter 31 = .ok (.aload_n 0, 1) := by decide +kernel
theorem dX3_isBetter_32 : decode cX3_isBetter 32 = .ok (.iload_n 1, 1) := by decide +kernel
theorem dX3_isBetter_33 : decode cX3_isBetter 33 = .ok (.invokevirtual 71, 3) := by decide +kernel
theorem dX3_isBetter_36 : decode cX3_isBetter 36 = .ok (.aload_n 0, 1) := by decide +kernel
theorem dX3_isBetter_37 : decode cX3_isBetter 37 = .ok (.iload_n 2, 1) := by decide +kernel
theorem dX3_isBetter_38 : decode cX3_isBetter 38 = .ok (.invokevirtual 71, 3) := by decide +kernel
theorem dX3_isBetter_41 : decode cX3_isBetter 41 = .ok (.if_icmp .le 7, 3) := by decide +kernel
theorem dX3_isBetter_44 : decode cX3_isBetter 44 = .ok (.iconst 1, 1) := by decide +kernel
theorem dX3_isBetter_45 : decode cX3_isBetter 45 = .ok (.goto 4, 3) := by decide +kernel
theorem dX3_isBetter_48 : decode cX3_isBetter 48 = .ok (.iconst 0, 1) := by decide +kernel
theorem dX3_isBetter_49 : decode cX3_isBetter 49 = .ok (.ireturn, 1) := by decide +kernel
theorem dX4_init_0 : decode cX4_init 0 = .ok (.aload_n 0, 1) := by decide +kernel
theorem dX4_init_1 : decode cX4_init 1 = .ok (.invokespecial 3, 3) := by decide +kernel
theorem dX4_init_4 : decode cX4_init 4 = .ok (.aload_n 0, 1) := by decide +kernel
theorem dX4_init_5 : decode cX4_init 5 = .ok (.bipush 6, 2) := by decide +kernel
theorem dX4_init_7 : decode cX4_init 7 = .ok (.anewarray 9, 3) := by decide +kernel
theorem dX4_init_10 : decode cX4_init 10 = .ok (.putfield 11, 3) := by decide +kernel
theorem dX4_init_13 : decode cX4_init 13 = .ok (.iconst 0, 1) := by decide +kernel
theorem dX4_init_14 : decode cX4_init 14 = .ok (.istore_n 1, 1) := by decide +kernel
theorem dX4_init_15 : decode cX4_init 15 = .ok (.iload_n 1, 1) := by decide +kernel
theorem dX4_init_16 : decode cX4_init 16 = .ok (.bipush 6, 2) := by decide +kernel
theorem dX4_init_18 : decode cX4_init 18 = .ok (.if_icmp .ge 22, 3) := by decide +kernel
theorem dX4_init_21 : decode cX4_init 21 = .ok (.aload_n 0, 1) := by decide +kernel
theorem dX4_init_22 : decode cX4_init 22 = .ok (.getfield 11, 3) := by decide +kernel
theorem dX4_init_25 : decode cX4_init 25 = .ok (.iload_n 1, 1) := by decide +kernel
theorem dX4_init_26 : decode cX4_init 26 = .ok (.new 9, 3) := by decide +kernel
theorem dX4_init_29 : decode cX4_init 29 = .ok (.dup, 1) := by decide +kernel
theorem dX4_init_30 : decode cX4_init 30 = .ok (.invokespecial 17, 3) := by decide +kernel
theorem dX4_init_33 : decode cX4_init 33 = .ok (.aastore, 1) := by decide +kernel
theorem dX4_init_34 : decode cX4_init 34 = .ok (.iinc 1 1, 3) := by decide +kernel
theorem dX4_init_37 : decode cX4_init 37 = .ok (.goto (-22), 3) := by decide +kernel
theorem dX4_init_40 : decode cX4_init 40 = .ok (.aload_n 0, 1) := by decide +kernel
theorem dX4_init_41 : decode cX4_init 41 = .ok (.new 18, 3) := by decide +kernel
theorem dX4_init_44 : decode cX4_init 44 = .ok (.dup, 1) := by decide +kernel
theorem dX4_init_45 : decode cX4_init 45 = .ok (.invokespecial 20, 3) := by decide +kernel
theorem dX4_init_48 : decode cX4_init 48 = .ok (.putfield 21, 3) := by decide +kernel
theorem dX4_init_51 : decode cX4_init 51 = .ok (.aload_n 0, 1) := by decide +kernel
theorem dX4_init_52 : decode cX4_init 52 = .ok (.iconst 0, 1) := by decide +kernel
theorem dX4_init_53 : decode cX4_init 53 = .ok (.putfield 25, 3) := by decide +kernel
theorem dX4_init_56 : decode cX4_init 56 = .ok (.return_, 1) := by decide +kernel
theorem dX4_copyFrom_0 : decode cX4_copyFrom 0 = .ok (.iconst 0, 1) := by decide +kernel
theorem dX4_copyFrom_1 : decode cX4_copyFrom 1 = .ok (.istore_n 2, 1) := by decide +kernel
theorem dX4_copyFrom_2 : decode cX4_copyFrom 2 = .ok (.iload_n 2, 1) := by decide +kernel
theorem dX4_copyFrom_3 : decode cX4_copyFrom 3 = .ok (.bipush 6, 2) := by decide +kernel
theorem dX4_copyFrom_5 : decode cX4_copyFrom 5 = .ok (.if_icmp .ge 24, 3) := by decide +kernel
theorem dX4_copyFrom_8 : decode cX4_copyFrom 8 = .ok (.aload_n 0, 1) := by decide +kernel
theorem dX4_copyFrom_9 : decode cX4_copyFrom 9 = .ok (.getfield 11, 3) := by decide +kernel
theorem dX4_copyFrom_12 : decode cX4_copyFrom 12 = .ok (.iload_n 2, 1) := by decide +kernel
theorem dX4_copyFrom_13 : decode cX4_copyFrom 13 = .ok (.aaload, 1) := by decide +kernel
theorem dX4_copyFrom_14 : decode cX4_copyFrom 14 = .ok (.aload_n 1, 1) := by decide +kernel
theorem dX4_copyFrom_15 : decode cX4_copyFrom 15 = .ok (.getfield 11, 3) := by decide +kernel
theorem dX4_copyFrom_18 : decode cX4_copyFrom 18 = .ok (.iload_n 2, 1) := by decide +kernel
theorem dX4_copyFrom_19 : decode cX4_copyFrom 19 = .ok (.aaload, 1) := by decide +kernel
theorem dX4_copyFrom_20 : decode cX4_copyFrom 20 = .ok (.invokevirtual 29, 3) := by decide +kernel
theorem dX4_copyFrom_23 : decode cX4_copyFrom 23 = .ok (.iinc 2 1, 3) := by decide +kernel
theorem dX4_copyFrom_26 : decode cX4_copyFrom 26 = .ok (.goto (-24), 3) := by decide +kernel
theorem dX4_copyFrom_29 : decode cX4_copyFrom 29 = .ok (.aload_n 0, 1) := by decide +kernel
theorem dX4_copyFrom_30 : decode cX4_copyFrom 30 = .ok (.getfield 21, 3) := by decide +kernel
theorem dX4_copyFrom_33 : decode cX4_copyFrom 33 = .ok (.aload_n 1, 1) := by decide +kernel
theorem dX4_copyFrom_34 : decode cX4_copyFrom 34 = .ok (.getfield 21, 3) := by decide +kernel
theorem dX4_copyFrom_37 : decode cX4_copyFrom 37 = .ok (.invokevirtual 33, 3) := by decide +kernel
theorem dX4_copyFrom_40 : decode cX4_copyFrom 40 = .ok (.aload_n 0, 1) := by decide +kernel
theorem dX4_copyFrom_41 : decode cX4_copyFrom 41 = .ok (.aload_n 1, 1) := by decide +kernel
theorem dX4_copyFrom_42 : decode cX4_copyFrom 42 = .ok (.getfield 25, 3) := by decide +kernel
theorem dX4_copyFrom_45 : decode cX4_copyFrom 45 = .ok (.putfield 25, 3) := by decide +kernel
theorem dX4_copyFrom_48 : decode cX4_copyFrom 48 = .ok (.return_, 1) := by decide +kernel
theorem dX4_layers_0 : decode cX4_layers 0 = .ok (.iconst 0, 1) := by decide +kernel
theorem dX4_layers_1 : decode cX4_layers 1 = .ok (.istore_n 1, 1) := by decide +kernel
theorem dX4_layers_2 : decode cX4_layers 2 = .ok (.iconst 0, 1) := by decide +kernel
theorem dX4_layers_3 : decode cX4_layers 3 = .ok (.istore_n 2, 1) := by decide +kernel
theorem dX4_layers_4 : decode cX4_layers 4 = .ok (.iload_n 2, 1) := by decide +kernel
theorem dX4_layers_5 : decode cX4_layers 5 = .ok (.bipush 6, 2) := by decide +kernel
theorem dX4_layers_7 : decode cX4_layers 7 = .ok (.if_icmp .ge 21, 3) := by decide +kernel
theorem dX4_layers_10 : decode cX4_layers 10 = .ok (.iload_n 1, 1) := by decide +kernel
theorem dX4_layers_11 : decode cX4_layers 11 = .ok (.aload_n 0, 1) := by decide +kernel
theorem dX4_layers_12 : decode cX4_layers 12 = .ok (.getfield 11, 3) := by decide +kernel
theorem dX4_layers_15 : decode cX4_layers 15 = .ok (.iload_n 2, 1) := by decide +kernel
theorem dX4_layers_16 : decode cX4_layers 16 = .ok (.aaload, 1) := by decide +kernel
theorem dX4_layers_17 : decode cX4_layers 17 = .ok (.getfield 36, 3) := by decide +kernel
theorem dX4_layers_20 : decode cX4_layers 20 = .ok (.iadd, 1) := by decide +kernel
theorem dX4_layers_21 : decode cX4_layers 21 = .ok (.istore_n 1, 1) := by decide +kernel
theorem dX4_layers_22 : decode cX4_layers 22 = .ok (.iinc 2 1, 3) := by decide +kernel
theorem dX4_layers_25 : decode cX4_layers 25 = .ok (.goto (-21), 3) := by decide +kernel
theorem dX4_layers_28 : decode cX4_layers 28 = .ok (.iload_n 1, 1) := by decide +kernel
theorem dX4_layers_29 : decode cX4_layers 29 = .ok (.ireturn, 1) := by decide +kernel
theorem dX4_entriesOfAll_0 : decode cX4_entriesOfAll 0 = .ok (.iconst 0, 1) := by decide +kernel
theorem dX4_entriesOfAll_1 : decode cX4_entriesOfAll 1 = .ok (.istore_n 1, 1) := by decide +kernel
theorem dX4_entriesOfAll_2 : decode cX4_entriesOfAll 2 = .ok (.iconst 0, 1) := by decide +kernel
theorem dX4_entriesOfAll_3 : decode cX4_entriesOfAll 3 = .ok (.istore_n 2, 1) := by decide +kernel
theorem dX4_entriesOfAll_4 : decode cX4_entriesOfAll 4 = .ok (.iload_n 2, 1) := by decide +kernel
theorem dX4_entriesOfAll_5 : decode cX4_entriesOfAll 5 = .ok (.bipush 6, 2) := by decide +kernel
theorem dX4_entriesOfAll_7 : decode cX4_entriesOfAll 7 = .ok (.if_icmp .ge 21, 3) := by decide +kernel
theorem dX4_entriesOfAll_10 : decode cX4_entriesOfAll 10 = .ok (.iload_n 1, 1) := by decide +kernel
theorem dX4_entriesOfAll_11 : decode cX4_entriesOfAll 11 = .ok (.aload_n 0, 1) := by decide +kernel
theorem dX4_entriesOfAll_12 : decode cX4_entriesOfAll 12 = .ok (.getfield 11, 3) := by decide +kernel
theorem dX4_entriesOfAll_15 : decode cX4_entriesOfAll 15 = .ok (.iload_n 2, 1) := by decide +kernel
theorem dX4_entriesOfAll_16 : decode cX4_entriesOfAll 16 = .ok (.aaload, 1) := by decide +kernel
theorem dX4_entriesOfAll_17 : decode cX4_entriesOfAll 17 = .ok (.invokevirtual 39, 3) := by decide +kernel
theorem dX4_entriesOfAll_20 : decode cX4_entriesOfAll 20 = .ok (.iadd, 1) := by decide +kernel
theorem dX4_entriesOfAll_21 : decode cX4_entriesOfAll 21 = .ok (.istore_n 1, 1) := by decide +kernel
theorem dX4_entriesOfAll_22 : decode cX4_entriesOfAll 22 = .ok (.iinc 2 1, 3) := by decide +kernel
theorem dX4_entriesOfAll_25 : decode cX4_entriesOfAll 25 = .ok (.goto (-21), 3) := by decide +kernel
theorem dX4_entriesOfAll_28 : decode cX4_entriesOfAll 28 = .ok (.iload_n 1, 1) := by decide +kernel
theorem dX4_entriesOfAll_29 : decode cX4_entriesOfAll 29 = .ok (.ireturn, 1) := by decide +kernel
theorem dX4_shadowedOfAll_0 : decode cX4_shadowedOfAll 0 = .ok (.iconst 0, 1) := by decide +kernel
theorem dX4_shadowedOfAll_1 : decode cX4_shadowedOfAll 1 = .ok (.istore_n 1, 1) := by decide +kernel
theorem dX4_shadowedOfAll_2 : decode cX4_shadowedOfAll 2 = .ok (.iconst 0, 1) := by decide +kernel
theorem dX4_shadowedOfAll_3 : decode cX4_shadowedOfAll 3 = .ok (.istore_n 2, 1) := by decide +kernel
theorem dX4_shadowedOfAll_4 : decode cX4_shadowedOfAll 4 = .ok (.iload_n 2, 1) := by decide +kernel
theorem dX4_shadowedOfAll_5 : decode cX4_shadowedOfAll 5 = .ok (.bipush 6, 2) := by decide +kernel
theorem dX4_shadowedOfAll_7 : decode cX4_shadowedOfAll 7 = .ok (.if_icmp .ge 21, 3) := by decide +kernel
theorem dX4_shadowedOfAll_10 : decode cX4_shadowedOfAll 10 = .ok (.iload_n 1, 1) := by decide +kernel
theorem dX4_shadowedOfAll_11 : decode cX4_shadowedOfAll 11 = .ok (.aload_n 0, 1) := by decide +kernel
theorem dX4_shadowedOfAll_12 : decode cX4_shadowedOfAll 12 = .ok (.getfield 11, 3) := by decide +kernel
theorem dX4_shadowedOfAll_15 : decode cX4_shadowedOfAll 15 = .ok (.iload_n 2, 1) := by decide +kernel
theorem dX4_shadowedOfAll_16 : decode cX4_shadowedOfAll 16 = .ok (.aaload, 1) := by decide +kernel
theorem dX4_shadowedOfAll_17 : decode cX4_shadowedOfAll 17 = .ok (.invokevirtual 43, 3) := by decide +kernel
theorem dX4_shadowedOfAll_20 : decode cX4_shadowedOfAll 20 = .ok (.iadd, 1) := by decide +kernel
theorem dX4_shadowedOfAll_21 : decode cX4_shadowedOfAll 21 = .ok (.istore_n 1, 1) := by decide +kernel
theorem dX4_shadowedOfAll_22 : decode cX4_shadowedOfAll 22 = .ok (.iinc 2 1, 3) := by decide +kernel
theorem dX4_shadowedOfAll_25 : decode cX4_shadowedOfAll 25 = .ok (.goto (-21), 3) := by decide +kernel
theorem dX4_shadowedOfAll_28 : decode cX4_shadowedOfAll 28 = .ok (.iload_n 1, 1) := by decide +kernel
theorem dX4_shadowedOfAll_29 : decode cX4_shadowedOfAll 29 = .ok (.ireturn, 1) := by decide +kernel
theorem dX4_repeatedMaps_0 : decode cX4_repeatedMaps 0 = .ok (.iconst 0, 1) := by decide +kernel
theorem dX4_repeatedMaps_1 : decode cX4_repeatedMaps 1 = .ok (.istore_n 1, 1) := by decide +kernel
theorem dX4_repeatedMaps_2 : decode cX4_repeatedMaps 2 = .ok (.iconst 0, 1) := by decide +kernel
theorem dX4_repeatedMaps_3 : decode cX4_repeatedMaps 3 = .ok (.istore_n 2, 1) := by decide +kernel
theorem dX4_repeatedMaps_4 : decode cX4_repeatedMaps 4 = .ok (.iload_n 2, 1) := by decide +kernel
theorem dX4_repeatedMaps_5 : decode cX4_repeatedMaps 5 = .ok (.bipush 6, 2) := by decide +kernel
theorem dX4_repeatedMaps_7 : decode cX4_repeatedMaps 7 = .ok (.if_icmp .ge 20, 3) := by decide +kernel
theorem dX4_repeatedMaps_10 : decode cX4_repeatedMaps 10 = .ok (.aload_n 0, 1) := by decide +kernel
theorem dX4_repeatedMaps_11 : decode cX4_repeatedMaps 11 = .ok (.iload_n 2, 1) := by decide +kernel
theorem dX4_repeatedMaps_12 : decode cX4_repeatedMaps 12 = .ok (.invokevirtual 46, 3) := by decide +kernel
theorem dX4_repeatedMaps_15 : decode cX4_repeatedMaps 15 = .ok (.ifCond .eq 6, 3) := by decide +kernel
theorem dX4_repeatedMaps_18 : decode cX4_repeatedMaps 18 = .ok (.iinc 1 1, 3) := by decide +kernel
theorem dX4_repeatedMaps_21 : decode cX4_repeatedMaps 21 = .ok (.iinc 2 1, 3) := by decide +kernel
theorem dX4_repeatedMaps_24 : decode cX4_repeatedMaps 24 = .ok (.goto (-20), 3) := by decide +kernel
theorem dX4_repeatedMaps_27 : decode cX4_repeatedMaps 27 = .ok (.iload_n 1, 1) := by decide +kernel
theorem dX4_repeatedMaps_28 : decode cX4_repeatedMaps 28 = .ok (.ireturn, 1) := by decide +kernel
theorem dX4_repeatsLowerMap_0 : decode cX4_repeatsLowerMap 0 = .ok (.iconst 0, 1) := by decide +kernel
theorem dX4_repeatsLowerMap_1 : decode cX4_repeatsLowerMap 1 = .ok (.istore_n 2, 1) := by decide +kernel
theorem dX4_repeatsLowerMap_2 : decode cX4_repeatsLowerMap 2 = .ok (.iload_n 2, 1) := by decide +kernel
theorem dX4_repeatsLowerMap_3 : decode cX4_repeatsLowerMap 3 = .ok (.iload_n 1, 1) := by decide +kernel
theorem dX4_repeatsLowerMap_4 : decode cX4_repeatsLowerMap 4 = .ok (.if_icmp .ge 35, 3) := by decide +kernel
theorem dX4_repeatsLowerMap_7 : decode cX4_repeatsLowerMap 7 = .ok (.aload_n 0, 1) := by decide +kernel
theorem dX4_repeatsLowerMap_8 : decode cX4_repeatsLowerMap 8 = .ok (.getfield 11, 3) := by decide +kernel
theorem dX4_repeatsLowerMap_11 : decode cX4_repeatsLowerMap 11 = .ok (.iload_n 2, 1) := by decide +kernel
theorem dX4_repeatsLowerMap_12 : decode cX4_repeatsLowerMap 12 = .ok (.aaload, 1) := by decide +kernel
theorem dX4_repeatsLowerMap_13 : decode cX4_repeatsLowerMap 13 = .ok (.getfield 50, 3) := by decide +kernel
theorem dX4_repeatsLowerMap_16 : decode cX4_repeatsLowerMap 16 = .ok (.aload_n 0, 1) := by decide +kernel
theorem dX4_repeatsLowerMap_17 : decode cX4_repeatsLowerMap 17 = .ok (.getfield 11, 3) := by decide +kernel
theorem dX4_repeatsLowerMap_20 : decode cX4_repeatsLowerMap 20 = .ok (.iload_n 1, 1) := by decide +kernel
theorem dX4_repeatsLowerMap_21 : decode cX4_repeatsLowerMap 21 = .ok (.aaload, 1) := by decide +kernel
theorem dX4_repeatsLowerMap_22 : decode cX4_repeatsLowerMap 22 = .ok (.getfield 50, 3) := by decide +kernel
theorem dX4_repeatsLowerMap_25 : decode cX4_repeatsLowerMap 25 = .ok (.invokestatic 54, 3) := by decide +kernel
theorem dX4_repeatsLowerMap_28 : decode cX4_repeatsLowerMap 28 = .ok (.ifCond .ne 5, 3) := by decide +kernel
theorem dX4_repeatsLowerMap_31 : decode cX4_repeatsLowerMap 31 = .ok (.iconst 1, 1) := by decide +kernel
theorem dX4_repeatsLowerMap_32 : decode cX4_repeatsLowerMap 32 = .ok (.ireturn, 1) := by decide +kernel
theorem dX4_repeatsLowerMap_33 : decode cX4_repeatsLowerMap 33 = .ok (.iinc 2 1, 3) := by decide +kernel
theorem dX4_repeatsLowerMap_36 : decode cX4_repeatsLowerMap 36 = .ok (.goto (-34), 3) := by decide +kernel
theorem dX4_repeatsLowerMap_39 : decode cX4_repeatsLowerMap 39 = .ok (.iconst 0, 1) := by decide +kernel
theorem dX4_repeatsLowerMap_40 : decode cX4_repeatsLowerMap 40 = .ok (.ireturn, 1) := by decide +kernel
theorem dX5_init_0 : decode cX5_init 0 = .ok (.aload_n 0, 1) := by decide +kernel
theorem dX5_init_1 : decode cX5_init 1 = .ok (.invokespecial 3, 3) := by decide +kernel
theorem dX5_init_4 : decode cX5_init 4 = .ok (.aload_n 0, 1) := by decide +kernel
theorem dX5_init_5 : decode cX5_init 5 = .ok (.bipush 60, 2) := by decide +kernel
theorem dX5_init_7 : decode cX5_init 7 = .ok (.newarray .char, 2) := by decide +kernel
theorem dX5_init_9 : decode cX5_init 9 = .ok (.putfield 9, 3) := by decide +kernel
theorem dX5_init_12 : decode cX5_init 12 = .ok (.aload_n 0, 1) := by decide +kernel
theorem dX5_init_13 : decode cX5_init 13 = .ok (.iconst 0, 1) := by decide +kernel
theorem dX5_init_14 : decode cX5_init 14 = .ok (.putfield 15, 3) := by decide +kernel
theorem dX5_init_17 : decode cX5_init 17 = .ok (.aload_n 0, 1) := by decide +kernel
theorem dX5_init_18 : decode cX5_init 18 = .ok (.iconst 0, 1) := by decide +kernel
theorem dX5_init_19 : decode cX5_init 19 = .ok (.putfield 19, 3) := by decide +kernel
theorem dX5_init_22 : decode cX5_init 22 = .ok (.return_, 1) := by decide +kernel
theorem dX5_add_0 : decode cX5_add 0 = .ok (.aload_n 0, 1) := by decide +kernel
theorem dX5_add_1 : decode cX5_add 1 = .ok (.getfield 15, 3) := by decide +kernel
theorem dX5_add_4 : decode cX5_add 4 = .ok (.ifCond .lt 12, 3) := by decide +kernel
theorem dX5_add_7 : decode cX5_add 7 = .ok (.aload_n 0, 1) := by decide +kernel
theorem dX5_add_8 : decode cX5_add 8 = .ok (.getfield 15, 3) := by decide +kernel
theorem dX5_add_11 : decode cX5_add 11 = .ok (.bipush 60, 2) := by decide +kernel
theorem dX5_add_13 : decode cX5_add 13 = .ok (.if_icmp .lt 5, 3) := by decide +kernel
theorem dX5_add_16 : decode cX5_add 16 = .ok (.iconst 0, 1) := by decide +kernel
theorem dX5_add_17 : decode cX5_add 17 = .ok (.ireturn, 1) := by decide +kernel
theorem dX5_add_18 : decode cX5_add 18 = .ok (.aload_n 0, 1) := by decide +kernel
theorem dX5_add_19 : decode cX5_add 19 = .ok (.getfield 9, 3) := by decide +kernel
theorem dX5_add_22 : decode cX5_add 22 = .ok (.aload_n 0, 1) := by decide +kernel
theorem dX5_add_23 : decode cX5_add 23 = .ok (.getfield 15, 3) := by decide +kernel
theorem dX5_add_26 : decode cX5_add 26 = .ok (.iload_n 1, 1) := by decide +kernel
theorem dX5_add_27 : decode cX5_add 27 = .ok (.castore, 1) := by decide +kernel
theorem dX5_add_28 : decode cX5_add 28 = .ok (.aload_n 0, 1) := by decide +kernel
theorem dX5_add_29 : decode cX5_add 29 = .ok (.dup, 1) := by decide +kernel
theorem dX5_add_30 : decode cX5_add 30 = .ok (.getfield 15, 3) := by decide +kernel
theorem dX5_add_33 : decode cX5_add 33 = .ok (.iconst 1, 1) := by decide +kernel
theorem dX5_add_34 : decode cX5_add 34 = .ok (.iadd, 1) := by decide +kernel
theorem dX5_add_35 : decode cX5_add 35 = .ok (.putfield 15, 3) := by decide +kernel
theorem dX5_add_38 : decode cX5_add 38 = .ok (.iconst 1, 1) := by decide +kernel
theorem dX5_add_39 : decode cX5_add 39 = .ok (.ireturn, 1) := by decide +kernel
theorem dX5_isAtEnd_0 : decode cX5_isAtEnd 0 = .ok (.aload_n 0, 1) := by decide +kernel
theorem dX5_isAtEnd_1 : decode cX5_isAtEnd 1 = .ok (.getfield 19, 3) := by decide +kernel
theorem dX5_isAtEnd_4 : decode cX5_isAtEnd 4 = .ok (.ifCond .lt 23, 3) := by decide +kernel
theorem dX5_isAtEnd_7 : decode cX5_isAtEnd 7 = .ok (.aload_n 0, 1) := by decide +kernel
theorem dX5_isAtEnd_8 : decode cX5_isAtEnd 8 = .ok (.getfield 19, 3) := by decide +kernel
theorem dX5_isAtEnd_11 : decode cX5_isAtEnd 11 = .ok (.aload_n 0, 1) := by decide +kernel
theorem dX5_isAtEnd_12 : decode cX5_isAtEnd 12 = .ok (.getfield 15, 3) := by decide +kernel
theorem dX5_isAtEnd_15 : decode cX5_isAtEnd 15 = .ok (.if_icmp .ge 12, 3) := by decide +kernel
theorem dX5_isAtEnd_18 : decode cX5_isAtEnd 18 = .ok (.aload_n 0, 1) := by decide +kernel
theorem dX5_isAtEnd_19 : decode cX5_isAtEnd 19 = .ok (.getfield 19, 3) := by decide +kernel
theorem dX5_isAtEnd_22 : decode cX5_isAtEnd 22 = .ok (.bipush 60, 2) := by decide +kernel
theorem dX5_isAtEnd_24 : decode cX5_isAtEnd 24 = .ok (.if_icmp .lt 7, 3) := by decide +kernel
theorem dX5_isAtEnd_27 : decode cX5_isAtEnd 27 = .ok (.iconst 1, 1) := by decide +kernel
theorem dX5_isAtEnd_28 : decode cX5_isAtEnd 28 = .ok (.goto 4, 3) := by decide +kernel
theorem dX5_isAtEnd_31 : decode cX5_isAtEnd 31 = .ok (.iconst 0, 1) := by decide +kernel
theorem dX5_isAtEnd_32 : decode cX5_isAtEnd 32 = .ok (.ireturn, 1) := by decide +kernel
theorem dX5_take_0 : decode cX5_take 0 = .ok (.aload_n 0, 1) := by decide +kernel
theorem dX5_take_1 : decode cX5_take 1 = .ok (.invokevirtual 22, 3) := by decide +kernel
theorem dX5_take_4 : decode cX5_take 4 = .ok (.ifCond .ne 16, 3) := by decide +kernel
theorem dX5_take_7 : decode cX5_take 7 = .ok (.aload_n 0, 1) := by decide +kernel
theorem dX5_take_8 : decode cX5_take 8 = .ok (.getfield 9, 3) := by decide +kernel
theorem dX5_take_11 : decode cX5_take 11 = .ok (.aload_n 0, 1) := by decide +kernel
theorem dX5_take_12 : decode cX5_take 12 = .ok (.getfield 19, 3) := by decide +kernel
theorem dX5_take_15 : decode cX5_take 15 = .ok (.caload, 1) := by decide +kernel
theorem dX5_take_16 : decode cX5_take 16 = .ok (.iload_n 1, 1) := by decide +kernel
theorem dX5_take_17 : decode cX5_take 17 = .ok (.if_icmp .eq 5, 3) := by decide +kernel
theorem dX5_take_20 : decode cX5_take 20 = .ok (.iconst 0, 1) := by decide +kernel
theorem dX5_take_21 : decode cX5_take 21 = .ok (.ireturn, 1) := by decide +kernel
theorem dX5_take_22 : decode cX5_take 22 = .ok (.aload_n 0, 1) := by decide +kernel
theorem dX5_take_23 : decode cX5_take 23 = .ok (.dup, 1) := by decide +kernel
theorem dX5_take_24 : decode cX5_take 24 = .ok (.getfield 19, 3) := by decide +kernel
theorem dX5_take_27 : decode cX5_take 27 = .ok (.iconst 1, 1) := by decide +kernel
theorem dX5_take_28 : decode cX5_take 28 = .ok (.iadd, 1) := by decide +kernel
theorem dX5_take_29 : decode cX5_take 29 = .ok (.putfield 19, 3) := by decide +kernel
theorem dX5_take_32 : decode cX5_take 32 = .ok (.iconst 1, 1) := by decide +kernel
theorem dX5_take_33 : decode cX5_take 33 = .ok (.ireturn, 1) := by decide +kernel
theorem dX5_takeBetween_0 : decode cX5_takeBetween 0 = .ok (.aload_n 0, 1) := by decide +kernel
theorem dX5_takeBetween_1 : decode cX5_takeBetween 1 = .ok (.getfield 19, 3) := by decide +kernel
theorem dX5_takeBetween_4 : decode cX5_takeBetween 4 = .ok (.ifCond .lt 49, 3) := by decide +kernel
theorem dX5_takeBetween_7 : decode cX5_takeBetween 7 = .ok (.aload_n 0, 1) := by decide +kernel
theorem dX5_takeBetween_8 : decode cX5_takeBetween 8 = .ok (.getfield 19, 3) := by decide +kernel
theorem dX5_takeBetween_11 : decode cX5_takeBetween 11 = .ok (.aload_n 0, 1) := by decide +kernel
theorem dX5_takeBetween_12 : decode cX5_takeBetween 12 = .ok (.getfield 15, 3) := by decide +kernel
theorem dX5_takeBetween_15 : decode cX5_takeBetween 15 = .ok (.if_icmp .ge 38, 3) := by decide +kernel
theorem dX5_takeBetween_18 : decode cX5_takeBetween 18 = .ok (.aload_n 0, 1) := by decide +kernel
theorem dX5_takeBetween_19 : decode cX5_takeBetween 19 = .ok (.getfield 19, 3) := by decide +kernel
theorem dX5_takeBetween_22 : decode cX5_takeBetween 22 = .ok (.bipush 60, 2) := by decide +kernel
theorem dX5_takeBetween_24 : decode cX5_takeBetween 24 = .ok (.if_icmp .ge 29, 3) := by decide +kernel
theorem dX5_takeBetween_27 : decode cX5_takeBetween 27 = .ok (.aload_n 0, 1) := by decide +kernel
theorem dX5_takeBetween_28 : decode cX5_takeBetween 28 = .ok (.getfield 9, 3) := by decide +kernel
theorem dX5_takeBetween_31 : decode cX5_takeBetween 31 = .ok (.aload_n 0, 1) := by decide +kernel
theorem dX5_takeBetween_32 : decode cX5_takeBetween 32 = .ok (.getfield 19, 3) := by decide +kernel
theorem dX5_takeBetween_35 : decode cX5_takeBetween 35 = .ok (.caload, 1) := by decide +kernel
theorem dX5_takeBetween_36 : decode cX5_takeBetween 36 = .ok (.iload_n 1, 1) := by decide +kernel
theorem dX5_takeBetween_37 : decode cX5_takeBetween 37 = .ok (.if_icmp .lt 16, 3) := by decide +kernel
theorem dX5_takeBetween_40 : decode cX5_takeBetween 40 = .ok (.aload_n 0, 1) := by decide +kernel
theorem dX5_takeBetween_41 : decode cX5_takeBetween 41 = .ok (.getfield 9, 3) := by decide +kernel
theorem dX5_takeBetween_44 : decode cX5_takeBetween 44 = .ok (.aload_n 0, 1) := by decide +kernel
theorem dX5_takeBetween_45 : decode cX5_takeBetween 45 = .ok (.getfield 19, 3) := by decide +kernel
theorem dX5_takeBetween_48 : decode cX5_takeBetween 48 = .ok (.caload, 1) := by decide +kernel
theorem dX5_takeBetween_49 : decode cX5_takeBetween 49 = .ok (.iload_n 2, 1) := by decide +kernel
theorem dX5_takeBetween_50 : decode cX5_takeBetween 50 = .ok (.if_icmp .le 5, 3) := by decide +kernel
theorem dX5_takeBetween_53 : decode cX5_takeBetween 53 = .ok (.iconst (-1), 1) := by decide +kernel
theorem dX5_takeBetween_54 : decode cX5_takeBetween 54 = .ok (.ireturn, 1) := by decide +kernel
theorem dX5_takeBetween_55 : decode cX5_takeBetween 55 = .ok (.aload_n 0, 1) := by decide +kernel
theorem dX5_takeBetween_56 : decode cX5_takeBetween 56 = .ok (.getfield 9, 3) := by decide +kernel
theorem dX5_takeBetween_59 : decode cX5_takeBetween 59 = .ok (.aload_n 0, 1) := by decide +kernel
theorem dX5_takeBetween_60 : decode cX5_takeBetween 60 = .ok (.getfield 19, 3) := by decide +kernel
theorem dX5_takeBetween_63 : decode cX5_takeBetween 63 = .ok (.caload, 1) := by decide +kernel
theorem dX5_takeBetween_64 : decode cX5_takeBetween 64 = .ok (.iload_n 1, 1) := by decide +kernel
theorem dX5_takeBetween_65 : decode cX5_takeBetween 65 = .ok (.isub, 1) := by decide +kernel
theorem dX5_takeBetween_66 : decode cX5_takeBetween 66 = .ok (.istore_n 3, 1) := by decide +kernel
theorem dX5_takeBetween_67 : decode cX5_takeBetween 67 = .ok (.aload_n 0, 1) := by decide +kernel
theorem dX5_takeBetween_68 : decode cX5_takeBetween 68 = .ok (.dup, 1) := by decide +kernel
theorem dX5_takeBetween_69 : decode cX5_takeBetween 69 = .ok (.getfield 19, 3) := by decide +kernel
theorem dX5_takeBetween_72 : decode cX5_takeBetween 72 = .ok (.iconst 1, 1) := by decide +kernel
theorem dX5_takeBetween_73 : decode cX5_takeBetween 73 = .ok (.iadd, 1) := by decide +kernel
theorem dX5_takeBetween_74 : decode cX5_takeBetween 74 = .ok (.putfield 19, 3) := by decide +kernel
theorem dX5_takeBetween_77 : decode cX5_takeBetween 77 = .ok (.iload_n 3, 1) := by decide +kernel
theorem dX5_takeBetween_78 : decode cX5_takeBetween 78 = .ok (.ireturn, 1) := by decide +kernel
theorem dX5_takeMap_0 : decode cX5_takeMap 0 = .ok (.aload_n 0, 1) := by decide +kernel
theorem dX5_takeMap_1 : decode cX5_takeMap 1 = .ok (.bipush 65, 2) := by decide +kernel
theorem dX5_takeMap_3 : decode cX5_takeMap 3 = .ok (.bipush 70, 2) := by decide +kernel
theorem dX5_takeMap_5 : decode cX5_takeMap 5 = .ok (.invokevirtual 26, 3) := by decide +kernel
theorem dX5_takeMap_8 : decode cX5_takeMap 8 = .ok (.ireturn, 1) := by decide +kernel
theorem dX5_takeDigit_0 : decode cX5_takeDigit 0 = .ok (.aload_n 0, 1) := by decide +kernel
theorem dX5_takeDigit_1 : decode cX5_takeDigit 1 = .ok (.bipush 48, 2) := by decide +kernel
theorem dX5_takeDigit_3 : decode cX5_takeDigit 3 = .ok (.bipush 57, 2) := by decide +kernel
theorem dX5_takeDigit_5 : decode cX5_takeDigit 5 = .ok (.invokevirtual 26, 3) := by decide +kernel
theorem dX5_takeDigit_8 : decode cX5_takeDigit 8 = .ok (.ireturn, 1) := by decide +kernel
theorem dX5_takeKey_0 : decode cX5_takeKey 0 = .ok (.aload_n 0, 1) := by decide +kernel
theorem dX5_takeKey_1 : decode cX5_takeKey 1 = .ok (.bipush 48, 2) := by decide +kernel
theorem dX5_takeKey_3 : decode cX5_takeKey 3 = .ok (.bipush 57, 2) := by decide +kernel
theorem dX5_takeKey_5 : decode cX5_takeKey 5 = .ok (.invokevirtual 26, 3) := by decide +kernel
theorem dX5_takeKey_8 : decode cX5_takeKey 8 = .ok (.istore_n 1, 1) := by decide +kernel
theorem dX5_takeKey_9 : decode cX5_takeKey 9 = .ok (.iload_n 1, 1) := by decide +kernel
theorem dX5_takeKey_10 : decode cX5_takeKey 10 = .ok (.iconst 1, 1) := by decide +kernel
theorem dX5_takeKey_11 : decode cX5_takeKey 11 = .ok (.if_icmp .eq 5, 3) := by decide +kernel
theorem dX5_takeKey_14 : decode cX5_takeKey 14 = .ok (.iload_n 1, 1) := by decide +kernel
theorem dX5_takeKey_15 : decode cX5_takeKey 15 = .ok (.ireturn, 1) := by decide +kernel
theorem dX5_takeKey_16 : decode cX5_takeKey 16 = .ok (.aload_n 0, 1) := by decide +kernel
theorem dX5_takeKey_17 : decode cX5_takeKey 17 = .ok (.bipush 48, 2) := by decide +kernel
theorem dX5_takeKey_19 : decode cX5_takeKey 19 = .ok (.bipush 53, 2) := by decide +kernel
theorem dX5_takeKey_21 : decode cX5_takeKey 21 = .ok (.invokevirtual 26, 3) := by decide +kernel
theorem dX5_takeKey_24 : decode cX5_takeKey 24 = .ok (.istore_n 2, 1) := by decide +kernel
theorem dX5_takeKey_25 : decode cX5_takeKey 25 = .ok (.iload_n 2, 1) := by decide +kernel
theorem dX5_takeKey_26 : decode cX5_takeKey 26 = .ok (.iconst (-1), 1) := by decide +kernel
theorem dX5_takeKey_27 : decode cX5_takeKey 27 = .ok (.if_icmp .ne 7, 3) := by decide +kernel
theorem dX5_takeKey_30 : decode cX5_takeKey 30 = .ok (.iconst 1, 1) := by decide +kernel
theorem dX5_takeKey_31 : decode cX5_takeKey 31 = .ok (.goto 7, 3) := by decide +kernel
theorem dX5_takeKey_34 : decode cX5_takeKey 34 = .ok (.bipush 10, 2) := by decide +kernel
theorem dX5_takeKey_36 : decode cX5_takeKey 36 = .ok (.iload_n 2, 1) := by decide +kernel
theorem dX5_takeKey_37 : decode cX5_takeKey 37 = .ok (.iadd, 1) := by decide +kernel
theorem dX5_takeKey_38 : decode cX5_takeKey 38 = .ok (.ireturn, 1) := by decide +kernel
theorem dX5_takeKeySet_0 : decode cX5_takeKeySet 0 = .ok (.iconst 0, 1) := by decide +kernel
theorem dX5_takeKeySet_1 : decode cX5_takeKeySet 1 = .ok (.istore_n 1, 1) := by decide +kernel
theorem dX5_takeKeySet_2 : decode cX5_takeKeySet 2 = .ok (.iconst 0, 1) := by decide +kernel
theorem dX5_takeKeySet_3 : decode cX5_takeKeySet 3 = .ok (.istore_n 2, 1) := by decide +kernel
theorem dX5_takeKeySet_4 : decode cX5_takeKeySet 4 = .ok (.iload_n 2, 1) := by decide +kernel
theorem dX5_takeKeySet_5 : decode cX5_takeKeySet 5 = .ok (.bipush 60, 2) := by decide +kernel
theorem dX5_takeKeySet_7 : decode cX5_takeKeySet 7 = .ok (.if_icmp .ge 49, 3) := by decide +kernel
theorem dX5_takeKeySet_10 : decode cX5_takeKeySet 10 = .ok (.aload_n 0, 1) := by decide +kernel
theorem dX5_takeKeySet_11 : decode cX5_takeKeySet 11 = .ok (.invokevirtual 30, 3) := by decide +kernel
theorem dX5_takeKeySet_14 : decode cX5_takeKeySet 14 = .ok (.istore_n 3, 1) := by decide +kernel
theorem dX5_takeKeySet_15 : decode cX5_takeKeySet 15 = .ok (.iload_n 3, 1) := by decide +kernel
theorem dX5_takeKeySet_16 : decode cX5_takeKeySet 16 = .ok (.iconst (-1), 1) := by decide +kernel
theorem dX5_takeKeySet_17 : decode cX5_takeKeySet 17 = .ok (.if_icmp .ne 5, 3) := by decide +kernel
theorem dX5_takeKeySet_20 : decode cX5_takeKeySet 20 = .ok (.iconst (-1), 1) := by decide +kernel
theorem dX5_takeKeySet_21 : decode cX5_takeKeySet 21 = .ok (.ireturn, 1) := by decide +kernel
theorem dX5_takeKeySet_22 : decode cX5_takeKeySet 22 = .ok (.iload_n 1, 1) := by decide +kernel
theorem dX5_takeKeySet_23 : decode cX5_takeKeySet 23 = .ok (.iconst 1, 1) := by decide +kernel
theorem dX5_takeKeySet_24 : decode cX5_takeKeySet 24 = .ok (.iload_n 3, 1) := by decide +kernel
theorem dX5_takeKeySet_25 : decode cX5_takeKeySet 25 = .ok (.ishl, 1) := by decide +kernel
theorem dX5_takeKeySet_26 : decode cX5_takeKeySet 26 = .ok (.ior, 1) := by decide +kernel
theorem dX5_takeKeySet_27 : decode cX5_takeKeySet 27 = .ok (.istore_n 1, 1) := by decide +kernel
theorem dX5_takeKeySet_28 : decode cX5_takeKeySet 28 = .ok (.aload_n 0, 1) := by decide +kernel
theorem dX5_takeKeySet_29 : decode cX5_takeKeySet 29 = .ok (.bipush 125, 2) := by decide +kernel
theorem dX5_takeKeySet_31 : decode cX5_takeKeySet 31 = .ok (.invokevirtual 34, 3) := by decide +kernel
theorem dX5_takeKeySet_34 : decode cX5_takeKeySet 34 = .ok (.ifCond .eq 5, 3) := by decide +kernel
theorem dX5_takeKeySet_37 : decode cX5_takeKeySet 37 = .ok (.iload_n 1, 1) := by decide +kernel
theorem dX5_takeKeySet_38 : decode cX5_takeKeySet 38 = .ok (.ireturn, 1) := by decide +kernel
theorem dX5_takeKeySet_39 : decode cX5_takeKeySet 39 = .ok (.aload_n 0, 1) := by decide +kernel
theorem dX5_takeKeySet_40 : decode cX5_takeKeySet 40 = .ok (.bipush 44, 2) := by decide +kernel
theorem dX5_takeKeySet_42 : decode cX5_takeKeySet 42 = .ok (.invokevirtual 34, 3) := by decide +kernel
theorem dX5_takeKeySet_45 : decode cX5_takeKeySet 45 = .ok (.ifCond .ne 5, 3) := by decide +kernel
theorem dX5_takeKeySet_48 : decode cX5_takeKeySet 48 = .ok (.iconst (-1), 1) := by decide +kernel
theorem dX5_takeKeySet_49 : decode cX5_takeKeySet 49 = .ok (.ireturn, 1) := by decide +kernel
theorem dX5_takeKeySet_50 : decode cX5_takeKeySet 50 = .ok (.iinc 2 1, 3) := by decide +kernel
theorem dX5_takeKeySet_53 : decode cX5_takeKeySet 53 = .ok (.goto (-49), 3) := by decide +kernel
theorem dX5_takeKeySet_56 : decode cX5_takeKeySet 56 = .ok (.iconst (-1), 1) := by decide +kernel
theorem dX5_takeKeySet_57 : decode cX5_takeKeySet 57 = .ok (.ireturn, 1) := by decide +kernel
theorem dX6_init_0 : decode cX6_init 0 = .ok (.aload_n 0, 1) := by decide +kernel
theorem dX6_init_1 : decode cX6_init 1 = .ok (.invokespecial 1, 3) := by decide +kernel
theorem dX6_init_4 : decode cX6_init 4 = .ok (.aload_n 0, 1) := by decide +kernel
theorem dX6_init_5 : decode cX6_init 5 = .ok (.new 7, 3) := by decide +kernel
theorem dX6_init_8 : decode cX6_init 8 = .ok (.dup, 1) := by decide +kernel
theorem dX6_init_9 : decode cX6_init 9 = .ok (.invokespecial 9, 3) := by decide +kernel
theorem dX6_init_12 : decode cX6_init 12 = .ok (.putfield 10, 3) := by decide +kernel
theorem dX6_init_15 : decode cX6_init 15 = .ok (.aload_n 0, 1) := by decide +kernel
theorem dX6_init_16 : decode cX6_init 16 = .ok (.iconst 4, 1) := by decide +kernel
theorem dX6_init_17 : decode cX6_init 17 = .ok (.anewarray 7, 3) := by decide +kernel
theorem dX6_init_20 : decode cX6_init 20 = .ok (.putfield 16, 3) := by decide +kernel
theorem dX6_init_23 : decode cX6_init 23 = .ok (.iconst 0, 1) := by decide +kernel
theorem dX6_init_24 : decode cX6_init 24 = .ok (.istore_n 1, 1) := by decide +kernel
theorem dX6_init_25 : decode cX6_init 25 = .ok (.iload_n 1, 1) := by decide +kernel
theorem dX6_init_26 : decode cX6_init 26 = .ok (.iconst 4, 1) := by decide +kernel
theorem dX6_init_27 : decode cX6_init 27 = .ok (.if_icmp .ge 22, 3) := by decide +kernel
theorem dX6_init_30 : decode cX6_init 30 = .ok (.aload_n 0, 1) := by decide +kernel
theorem dX6_init_31 : decode cX6_init 31 = .ok (.getfield 16, 3) := by decide +kernel
theorem dX6_init_34 : decode cX6_init 34 = .ok (.iload_n 1, 1) := by decide +kernel
theorem dX6_init_35 : decode cX6_init 35 = .ok (.new 7, 3) := by decide +kernel
theorem dX6_init_38 : decode cX6_init 38 = .ok (.dup, 1) := by decide +kernel
theorem dX6_init_39 : decode cX6_init 39 = .ok (.invokespecial 9, 3) := by decide +kernel
theorem dX6_init_42 : decode cX6_init 42 = .ok (.aastore, 1) := by decide +kernel
theorem dX6_init_43 : decode cX6_init 43 = .ok (.iinc 1 1, 3) := by decide +kernel
theorem dX6_init_46 : decode cX6_init 46 = .ok (.goto (-21), 3) := by decide +kernel
theorem dX6_init_49 : decode cX6_init 49 = .ok (.aload_n 0, 1) := by decide +kernel
theorem dX6_init_50 : decode cX6_init 50 = .ok (.new 7, 3) := by decide +kernel
theorem dX6_init_53 : decode cX6_init 53 = .ok (.dup, 1) := by decide +kernel
theorem dX6_init_54 : decode cX6_init 54 = .ok (.invokespecial 9, 3) := by decide +kernel
theorem dX6_init_57 : decode cX6_init 57 = .ok (.putfield 20, 3) := by decide +kernel
theorem dX6_init_60 : decode cX6_init 60 = .ok (.aload_n 0, 1) := by decide +kernel
theorem dX6_init_61 : decode cX6_init 61 = .ok (.new 23, 3) := by decide +kernel
theorem dX6_init_64 : decode cX6_init 64 = .ok (.dup, 1) := by decide +kernel
theorem dX6_init_65 : decode cX6_init 65 = .ok (.invokespecial 25, 3) := by decide +kernel
theorem dX6_init_68 : decode cX6_init 68 = .ok (.putfield 26, 3) := by decide +kernel
theorem dX6_init_71 : decode cX6_init 71 = .ok (.aload_n 0, 1) := by decide +kernel
theorem dX6_init_72 : decode cX6_init 72 = .ok (.bipush 15, 2) := by decide +kernel
theorem dX6_init_74 : decode cX6_init 74 = .ok (.newarray .int, 2) := by decide +kernel
theorem dX6_init_76 : decode cX6_init 76 = .ok (.putfield 30, 3) := by decide +kernel
theorem dX6_init_79 : decode cX6_init 79 = .ok (.aload_n 0, 1) := by decide +kernel
theorem dX6_init_80 : decode cX6_init 80 = .ok (.iconst 0, 1) := by decide +kernel
theorem dX6_init_81 : decode cX6_init 81 = .ok (.putfield 34, 3) := by decide +kernel
theorem dX6_init_84 : decode cX6_init 84 = .ok (.aload_n 0, 1) := by decide +kernel
theorem dX6_init_85 : decode cX6_init 85 = .ok (.iconst 0, 1) := by decide +kernel
theorem dX6_init_86 : decode cX6_init 86 = .ok (.putfield 38, 3) := by decide +kernel
theorem dX6_init_89 : decode cX6_init 89 = .ok (.return_, 1) := by decide +kernel
theorem dX6_push_0 : decode cX6_push 0 = .ok (.iload_n 1, 1) := by decide +kernel
theorem dX6_push_1 : decode cX6_push 1 = .ok (.invokestatic 42, 3) := by decide +kernel
theorem dX6_push_4 : decode cX6_push 4 = .ok (.ifCond .ne 5, 3) := by decide +kernel
theorem dX6_push_7 : decode cX6_push 7 = .ok (.iconst (-1), 1) := by decide +kernel
theorem dX6_push_8 : decode cX6_push 8 = .ok (.ireturn, 1) := by decide +kernel
theorem dX6_push_9 : decode cX6_push 9 = .ok (.aload_n 0, 1) := by decide +kernel
theorem dX6_push_10 : decode cX6_push 10 = .ok (.getfield 26, 3) := by decide +kernel
theorem dX6_push_13 : decode cX6_push 13 = .ok (.invokevirtual 46, 3) := by decide +kernel
theorem dX6_push_16 : decode cX6_push 16 = .ok (.istore_n 2, 1) := by decide +kernel
theorem dX6_push_17 : decode cX6_push 17 = .ok (.iload_n 2, 1) := by decide +kernel
theorem dX6_push_18 : decode cX6_push 18 = .ok (.iconst (-1), 1) := by decide +kernel
theorem dX6_push_19 : decode cX6_push 19 = .ok (.if_icmp .eq 8, 3) := by decide +kernel
theorem dX6_push_22 : decode cX6_push 22 = .ok (.bipush (-100), 2) := by decide +kernel
theorem dX6_push_24 : decode cX6_push 24 = .ok (.iload_n 2, 1) := by decide +kernel
theorem dX6_push_25 : decode cX6_push 25 = .ok (.isub, 1) := by decide +kernel
theorem dX6_push_26 : decode cX6_push 26 = .ok (.ireturn, 1) := by decide +kernel
theorem dX6_push_27 : decode cX6_push 27 = .ok (.aload_n 0, 1) := by decide +kernel
theorem dX6_push_28 : decode cX6_push 28 = .ok (.getfield 10, 3) := by decide +kernel
theorem dX6_push_31 : decode cX6_push 31 = .ok (.getfield 50, 3) := by decide +kernel
theorem dX6_push_34 : decode cX6_push 34 = .ok (.iload_n 1, 1) := by decide +kernel
theorem dX6_push_35 : decode cX6_push 35 = .ok (.aaload, 1) := by decide +kernel
theorem dX6_push_36 : decode cX6_push 36 = .ok (.astore_n 3, 1) := by decide +kernel
theorem dX6_push_37 : decode cX6_push 37 = .ok (.aload_n 3, 1) := by decide +kernel
theorem dX6_push_38 : decode cX6_push 38 = .ok (.getfield 54, 3) := by decide +kernel
theorem dX6_push_41 : decode cX6_push 41 = .ok (.iconst 4, 1) := by decide +kernel
theorem dX6_push_42 : decode cX6_push 42 = .ok (.if_icmp .lt 6, 3) := by decide +kernel
theorem dX6_push_45 : decode cX6_push 45 = .ok (.bipush (-3), 2) := by decide +kernel
theorem dX6_push_47 : decode cX6_push 47 = .ok (.ireturn, 1) := by decide +kernel
theorem dX6_push_48 : decode cX6_push 48 = .ok (.aload_n 0, 1) := by decide +kernel
theorem dX6_push_49 : decode cX6_push 49 = .ok (.invokevirtual 59, 3) := by decide +kernel
theorem dX6_push_52 : decode cX6_push 52 = .ok (.aload_n 3, 1) := by decide +kernel
theorem dX6_push_53 : decode cX6_push 53 = .ok (.aload_n 0, 1) := by decide +kernel
theorem dX6_push_54 : decode cX6_push 54 = .ok (.getfield 26, 3) := by decide +kernel
theorem dX6_push_57 : decode cX6_push 57 = .ok (.getfield 62, 3) := by decide +kernel
theorem dX6_push_60 : decode cX6_push 60 = .ok (.invokevirtual 65, 3) := by decide +kernel
theorem dX6_push_63 : decode cX6_push 63 = .ok (.aload_n 3, 1) := by decide +kernel
theorem dX6_push_64 : decode cX6_push 64 = .ok (.getfield 54, 3) := by decide +kernel
theorem dX6_push_67 : decode cX6_push 67 = .ok (.ireturn, 1) := by decide +kernel
theorem dX6_pop_0 : decode cX6_pop 0 = .ok (.iload_n 1, 1) := by decide +kernel
theorem dX6_pop_1 : decode cX6_pop 1 = .ok (.invokestatic 42, 3) := by decide +kernel
theorem dX6_pop_4 : decode cX6_pop 4 = .ok (.ifCond .ne 5, 3) := by decide +kernel
theorem dX6_pop_7 : decode cX6_pop 7 = .ok (.iconst (-1), 1) := by decide +kernel
theorem dX6_pop_8 : decode cX6_pop 8 = .ok (.ireturn, 1) := by decide +kernel
theorem dX6_pop_9 : decode cX6_pop 9 = .ok (.aload_n 0, 1) := by decide +kernel
theorem dX6_pop_10 : decode cX6_pop 10 = .ok (.getfield 10, 3) := by decide +kernel
theorem dX6_pop_13 : decode cX6_pop 13 = .ok (.getfield 50, 3) := by decide +kernel
theorem dX6_pop_16 : decode cX6_pop 16 = .ok (.iload_n 1, 1) := by decide +kernel
theorem dX6_pop_17 : decode cX6_pop 17 = .ok (.aaload, 1) := by decide +kernel
theorem dX6_pop_18 : decode cX6_pop 18 = .ok (.astore_n 2, 1) := by decide +kernel
theorem dX6_pop_19 : decode cX6_pop 19 = .ok (.aload_n 2, 1) := by decide +kernel
theorem dX6_pop_20 : decode cX6_pop 20 = .ok (.getfield 54, 3) := by decide +kernel
theorem dX6_pop_23 : decode cX6_pop 23 = .ok (.ifCond .gt 6, 3) := by decide +kernel
theorem dX6_pop_26 : decode cX6_pop 26 = .ok (.bipush (-5), 2) := by decide +kernel
theorem dX6_pop_28 : decode cX6_pop 28 = .ok (.ireturn, 1) := by decide +kernel
theorem dX6_pop_29 : decode cX6_pop 29 = .ok (.aload_n 0, 1) := by decide +kernel
theorem dX6_pop_30 : decode cX6_pop 30 = .ok (.invokevirtual 59, 3) := by decide +kernel
theorem dX6_pop_33 : decode cX6_pop 33 = .ok (.aload_n 2, 1) := by decide +kernel
theorem dX6_pop_34 : decode cX6_pop 34 = .ok (.invokevirtual 69, 3) := by decide +kernel
theorem dX6_pop_37 : decode cX6_pop 37 = .ok (.ireturn, 1) := by decide +kernel
theorem dX6_turn_0 : decode cX6_turn 0 = .ok (.aload_n 0, 1) := by decide +kernel
theorem dX6_turn_1 : decode cX6_turn 1 = .ok (.iload_n 1, 1) := by decide +kernel
theorem dX6_turn_2 : decode cX6_turn 2 = .ok (.iload_n 2, 1) := by decide +kernel
theorem dX6_turn_3 : decode cX6_turn 3 = .ok (.invokevirtual 72, 3) := by decide +kernel
theorem dX6_turn_6 : decode cX6_turn 6 = .ok (.ifCond .ne 5, 3) := by decide +kernel
theorem dX6_turn_9 : decode cX6_turn 9 = .ok (.iconst (-1), 1) := by decide +kernel
theorem dX6_turn_10 : decode cX6_turn 10 = .ok (.ireturn, 1) := by decide +kernel
theorem dX6_turn_11 : decode cX6_turn 11 = .ok (.aload_n 0, 1) := by decide +kernel
theorem dX6_turn_12 : decode cX6_turn 12 = .ok (.getfield 10, 3) := by decide +kernel
theorem dX6_turn_15 : decode cX6_turn 15 = .ok (.getfield 50, 3) := by decide +kernel
theorem dX6_turn_18 : decode cX6_turn 18 = .ok (.iload_n 1, 1) := by decide +kernel
theorem dX6_turn_19 : decode cX6_turn 19 = .ok (.aaload, 1) := by decide +kernel
theorem dX6_turn_20 : decode cX6_turn 20 = .ok (.astore 4, 2) := by decide +kernel
theorem dX6_turn_22 : decode cX6_turn 22 = .ok (.aload 4, 2) := by decide +kernel
theorem dX6_turn_24 : decode cX6_turn 24 = .ok (.getfield 76, 3) := by decide +kernel
theorem dX6_turn_27 : decode cX6_turn 27 = .ok (.iload_n 2, 1) := by decide +kernel
theorem dX6_turn_28 : decode cX6_turn 28 = .ok (.baload, 1) := by decide +kernel
theorem dX6_turn_29 : decode cX6_turn 29 = .ok (.iload_n 3, 1) := by decide +kernel
theorem dX6_turn_30 : decode cX6_turn 30 = .ok (.if_icmp .ne 6, 3) := by decide +kernel
theorem dX6_turn_33 : decode cX6_turn 33 = .ok (.bipush (-5), 2) := by decide +kernel
theorem dX6_turn_35 : decode cX6_turn 35 = .ok (.ireturn, 1) := by decide +kernel
theorem dX6_turn_36 : decode cX6_turn 36 = .ok (.aload_n 0, 1) := by decide +kernel
theorem dX6_turn_37 : decode cX6_turn 37 = .ok (.invokevirtual 59, 3) := by decide +kernel
theorem dX6_turn_40 : decode cX6_turn 40 = .ok (.aload 4, 2) := by decide +kernel
theorem dX6_turn_42 : decode cX6_turn 42 = .ok (.getfield 76, 3) := by decide +kernel
theorem dX6_turn_45 : decode cX6_turn 45 = .ok (.iload_n 2, 1) := by decide +kernel
theorem dX6_turn_46 : decode cX6_turn 46 = .ok (.iload_n 3, 1) := by decide +kernel
theorem dX6_turn_47 : decode cX6_turn 47 = .ok (.bastore, 1) := by decide +kernel
theorem dX6_turn_48 : decode cX6_turn 48 = .ok (.aload 4, 2) := by decide +kernel
theorem dX6_turn_50 : decode cX6_turn 50 = .ok (.invokevirtual 80, 3) := by decide +kernel
theorem dX6_turn_53 : decode cX6_turn 53 = .ok (.ireturn, 1) := by decide +kernel
theorem dX6_lift_0 : decode cX6_lift 0 = .ok (.aload_n 0, 1) := by decide +kernel
theorem dX6_lift_1 : decode cX6_lift 1 = .ok (.iload_n 1, 1) := by decide +kernel
theorem dX6_lift_2 : decode cX6_lift 2 = .ok (.iload_n 2, 1) := by decide +kernel
theorem dX6_lift_3 : decode cX6_lift 3 = .ok (.invokevirtual 72, 3) := by decide +kernel
theorem dX6_lift_6 : decode cX6_lift 6 = .ok (.ifCond .ne 5, 3) := by decide +kernel
theorem dX6_lift_9 : decode cX6_lift 9 = .ok (.iconst (-1), 1) := by decide +kernel
theorem dX6_lift_10 : decode cX6_lift 10 = .ok (.ireturn, 1) := by decide +kernel
theorem dX6_lift_11 : decode cX6_lift 11 = .ok (.aload_n 0, 1) := by decide +kernel
theorem dX6_lift_12 : decode cX6_lift 12 = .ok (.iload_n 1, 1) := by decide +kernel
theorem dX6_lift_13 : decode cX6_lift 13 = .ok (.iload_n 3, 1) := by decide +kernel
theorem dX6_lift_14 : decode cX6_lift 14 = .ok (.invokevirtual 72, 3) := by decide +kernel
theorem dX6_lift_17 : decode cX6_lift 17 = .ok (.ifCond .ne 6, 3) := by decide +kernel
theorem dX6_lift_20 : decode cX6_lift 20 = .ok (.bipush (-2), 2) := by decide +kernel
theorem dX6_lift_22 : decode cX6_lift 22 = .ok (.ireturn, 1) := by decide +kernel
theorem dX6_lift_23 : decode cX6_lift 23 = .ok (.iload_n 2, 1) := by decide +kernel
theorem dX6_lift_24 : decode cX6_lift 24 = .ok (.iload_n 3, 1) := by decide +kernel
theorem dX6_lift_25 : decode cX6_lift 25 = .ok (.if_icmp .ne 6, 3) := by decide +kernel
theorem dX6_lift_28 : decode cX6_lift 28 = .ok (.bipush (-5), 2) := by decide +kernel
theorem dX6_lift_30 : decode cX6_lift 30 = .ok (.ireturn, 1) := by decide +kernel
theorem dX6_lift_31 : decode cX6_lift 31 = .ok (.aload_n 0, 1) := by decide +kernel
theorem dX6_lift_32 : decode cX6_lift 32 = .ok (.invokevirtual 59, 3) := by decide +kernel
theorem dX6_lift_35 : decode cX6_lift 35 = .ok (.aload_n 0, 1) := by decide +kernel
theorem dX6_lift_36 : decode cX6_lift 36 = .ok (.getfield 10, 3) := by decide +kernel
theorem dX6_lift_39 : decode cX6_lift 39 = .ok (.getfield 50, 3) := by decide +kernel
theorem dX6_lift_42 : decode cX6_lift 42 = .ok (.iload_n 1, 1) := by decide +kernel
theorem dX6_lift_43 : decode cX6_lift 43 = .ok (.aaload, 1) := by decide +kernel
theorem dX6_lift_44 : decode cX6_lift 44 = .ok (.astore 4, 2) := by decide +kernel
theorem dX6_lift_46 : decode cX6_lift 46 = .ok (.aload 4, 2) := by decide +kernel
theorem dX6_lift_48 : decode cX6_lift 48 = .ok (.iload_n 2, 1) := by decide +kernel
theorem dX6_lift_49 : decode cX6_lift 49 = .ok (.iload_n 3, 1) := by decide +kernel
theorem dX6_lift_50 : decode cX6_lift 50 = .ok (.invokevirtual 83, 3) := by decide +kernel
theorem dX6_lift_53 : decode cX6_lift 53 = .ok (.aload 4, 2) := by decide +kernel
theorem dX6_lift_55 : decode cX6_lift 55 = .ok (.invokevirtual 80, 3) := by decide +kernel
theorem dX6_lift_58 : decode cX6_lift 58 = .ok (.ireturn, 1) := by decide +kernel
theorem dX6_setEntry_0 : decode cX6_setEntry 0 = .ok (.aload_n 0, 1) := by decide +kernel
theorem dX6_setEntry_1 : decode cX6_setEntry 1 = .ok (.iload_n 1, 1) := by decide +kernel
theorem dX6_setEntry_2 : decode cX6_setEntry 2 = .ok (.iload_n 2, 1) := by decide +kernel
theorem dX6_setEntry_3 : decode cX6_setEntry 3 = .ok (.invokevirtual 72, 3) := by decide +kernel
theorem dX6_setEntry_6 : decode cX6_setEntry 6 = .ok (.ifCond .eq 10, 3) := by decide +kernel
theorem dX6_setEntry_9 : decode cX6_setEntry 9 = .ok (.iload_n 3, 1) := by decide +kernel
theorem dX6_setEntry_10 : decode cX6_setEntry 10 = .ok (.invokestatic 87, 3) := by decide +kernel
theorem dX6_setEntry_13 : decode cX6_setEntry 13 = .ok (.ifCond .ne 5, 3) := by decide +kernel
theorem dX6_setEntry_16 : decode cX6_setEntry 16 = .ok (.iconst (-1), 1) := by decide +kernel
theorem dX6_setEntry_17 : decode cX6_setEntry 17 = .ok (.ireturn, 1) := by decide +kernel
theorem dX6_setEntry_18 : decode cX6_setEntry 18 = .ok (.iload 4, 2) := by decide +kernel
theorem dX6_setEntry_20 : decode cX6_setEntry 20 = .ok (.ifCond .lt 10, 3) := by decide +kernel
theorem dX6_setEntry_23 : decode cX6_setEntry 23 = .ok (.iload 4, 2) := by decide +kernel
theorem dX6_setEntry_25 : decode cX6_setEntry 25 = .ok (.bipush 17, 2) := by decide +kernel
theorem dX6_setEntry_27 : decode cX6_setEntry 27 = .ok (.if_icmp .le 6, 3) := by decide +kernel
theorem dX6_setEntry_30 : decode cX6_setEntry 30 = .ok (.bipush (-2), 2) := by decide +kernel
theorem dX6_setEntry_32 : decode cX6_setEntry 32 = .ok (.ireturn, 1) := by decide +kernel
theorem dX6_setEntry_33 : decode cX6_setEntry 33 = .ok (.aload_n 0, 1) := by decide +kernel
theorem dX6_setEntry_34 : decode cX6_setEntry 34 = .ok (.getfield 10, 3) := by decide +kernel
theorem dX6_setEntry_37 : decode cX6_setEntry 37 = .ok (.getfield 50, 3) := by decide +kernel
theorem dX6_setEntry_40 : decode cX6_setEntry 40 = .ok (.iload_n 1, 1) := by decide +kernel
theorem dX6_setEntry_41 : decode cX6_setEntry 41 = .ok (.aaload, 1) := by decide +kernel
theorem dX6_setEntry_42 : decode cX6_setEntry 42 = .ok (.astore 5, 2) := by decide +kernel
theorem dX6_setEntry_44 : decode cX6_setEntry 44 = .ok (.aload 5, 2) := by decide +kernel
theorem dX6_setEntry_46 : decode cX6_setEntry 46 = .ok (.getfield 90, 3) := by decide +kernel
theorem dX6_setEntry_49 : decode cX6_setEntry 49 = .ok (.iload_n 2, 1) := by decide +kernel
theorem dX6_setEntry_50 : decode cX6_setEntry 50 = .ok (.aaload, 1) := by decide +kernel
theorem dX6_setEntry_51 : decode cX6_setEntry 51 = .ok (.iload_n 3, 1) := by decide +kernel
theorem dX6_setEntry_52 : decode cX6_setEntry 52 = .ok (.iaload, 1) := by decide +kernel
theorem dX6_setEntry_53 : decode cX6_setEntry 53 = .ok (.istore 6, 2) := by decide +kernel
theorem dX6_setEntry_55 : decode cX6_setEntry 55 = .ok (.iload 6, 2) := by decide +kernel
theorem dX6_setEntry_57 : decode cX6_setEntry 57 = .ok (.iload 4, 2) := by decide +kernel
theorem dX6_setEntry_59 : decode cX6_setEntry 59 = .ok (.if_icmp .ne 6, 3) := by decide +kernel
theorem dX6_setEntry_62 : decode cX6_setEntry 62 = .ok (.bipush (-5), 2) := by decide +kernel
theorem dX6_setEntry_64 : decode cX6_setEntry 64 = .ok (.ireturn, 1) := by decide +kernel
theorem dX6_setEntry_65 : decode cX6_setEntry 65 = .ok (.aload_n 0, 1) := by decide +kernel
theorem dX6_setEntry_66 : decode cX6_setEntry 66 = .ok (.invokevirtual 59, 3) := by decide +kernel
theorem dX6_setEntry_69 : decode cX6_setEntry 69 = .ok (.aload 5, 2) := by decide +kernel
theorem dX6_setEntry_71 : decode cX6_setEntry 71 = .ok (.getfield 90, 3) := by decide +kernel
theorem dX6_setEntry_74 : decode cX6_setEntry 74 = .ok (.iload_n 2, 1) := by decide +kernel
theorem dX6_setEntry_75 : decode cX6_setEntry 75 = .ok (.aaload, 1) := by decide +kernel
theorem dX6_setEntry_76 : decode cX6_setEntry 76 = .ok (.iload_n 3, 1) := by decide +kernel
theorem dX6_setEntry_77 : decode cX6_setEntry 77 = .ok (.iload 4, 2) := by decide +kernel
theorem dX6_setEntry_79 : decode cX6_setEntry 79 = .ok (.iastore, 1) := by decide +kernel
theorem dX6_setEntry_80 : decode cX6_setEntry 80 = .ok (.aload 5, 2) := by decide +kernel
theorem dX6_setEntry_82 : decode cX6_setEntry 82 = .ok (.invokevirtual 80, 3) := by decide +kernel
theorem dX6_setEntry_85 : decode cX6_setEntry 85 = .ok (.pop, 1) := by decide +kernel
theorem dX6_setEntry_86 : decode cX6_setEntry 86 = .ok (.iload 6, 2) := by decide +kernel
theorem dX6_setEntry_88 : decode cX6_setEntry 88 = .ok (.ireturn, 1) := by decide +kernel
theorem dX6_flatten_0 : decode cX6_flatten 0 = .ok (.iload_n 1, 1) := by decide +kernel
theorem dX6_flatten_1 : decode cX6_flatten 1 = .ok (.invokestatic 42, 3) := by decide +kernel
theorem dX6_flatten_4 : decode cX6_flatten 4 = .ok (.ifCond .ne 5, 3) := by decide +kernel
theorem dX6_flatten_7 : decode cX6_flatten 7 = .ok (.iconst (-1), 1) := by decide +kernel
theorem dX6_flatten_8 : decode cX6_flatten 8 = .ok (.ireturn, 1) := by decide +kernel
theorem dX6_flatten_9 : decode cX6_flatten 9 = .ok (.aload_n 0, 1) := by decide +kernel
theorem dX6_flatten_10 : decode cX6_flatten 10 = .ok (.getfield 10, 3) := by decide +kernel
theorem dX6_flatten_13 : decode cX6_flatten 13 = .ok (.getfield 50, 3) := by decide +kernel
theorem dX6_flatten_16 : decode cX6_flatten 16 = .ok (.iload_n 1, 1) := by decide +kernel
theorem dX6_flatten_17 : decode cX6_flatten 17 = .ok (.aaload, 1) := by decide +kernel
theorem dX6_flatten_18 : decode cX6_flatten 18 = .ok (.astore_n 2, 1) := by decide +kernel
theorem dX6_flatten_19 : decode cX6_flatten 19 = .ok (.aload_n 2, 1) := by decide +kernel
theorem dX6_flatten_20 : decode cX6_flatten 20 = .ok (.invokevirtual 94, 3) := by decide +kernel
theorem dX6_flatten_23 : decode cX6_flatten 23 = .ok (.ifCond .eq 6, 3) := by decide +kernel
theorem dX6_flatten_26 : decode cX6_flatten 26 = .ok (.bipush (-5), 2) := by decide +kernel
theorem dX6_flatten_28 : decode cX6_flatten 28 = .ok (.ireturn, 1) := by decide +kernel
theorem dX6_flatten_29 : decode cX6_flatten 29 = .ok (.aload_n 0, 1) := by decide +kernel
theorem dX6_flatten_30 : decode cX6_flatten 30 = .ok (.invokevirtual 59, 3) := by decide +kernel
theorem dX6_flatten_33 : decode cX6_flatten 33 = .ok (.aload_n 2, 1) := by decide +kernel
theorem dX6_flatten_34 : decode cX6_flatten 34 = .ok (.aload_n 2, 1) := by decide +kernel
theorem dX6_flatten_35 : decode cX6_flatten 35 = .ok (.getfield 98, 3) := by decide +kernel
theorem dX6_flatten_38 : decode cX6_flatten 38 = .ok (.invokevirtual 101, 3) := by decide +kernel
theorem dX6_flatten_41 : decode cX6_flatten 41 = .ok (.ireturn, 1) := by decide +kernel
theorem dX6_assign_0 : decode cX6_assign 0 = .ok (.aload_n 0, 1) := by decide +kernel
theorem dX6_assign_1 : decode cX6_assign 1 = .ok (.getfield 26, 3) := by decide +kernel
theorem dX6_assign_4 : decode cX6_assign 4 = .ok (.aload_n 0, 1) := by decide +kernel
theorem dX6_assign_5 : decode cX6_assign 5 = .ok (.getfield 10, 3) := by decide +kernel
theorem dX6_assign_8 : decode cX6_assign 8 = .ok (.invokevirtual 105, 3) := by decide +kernel
theorem dX6_assign_11 : decode cX6_assign 11 = .ok (.istore_n 1, 1) := by decide +kernel
theorem dX6_assign_12 : decode cX6_assign 12 = .ok (.iload_n 1, 1) := by decide +kernel
theorem dX6_assign_13 : decode cX6_assign 13 = .ok (.iconst (-1), 1) := by decide +kernel
theorem dX6_assign_14 : decode cX6_assign 14 = .ok (.if_icmp .eq 8, 3) := by decide +kernel
theorem dX6_assign_17 : decode cX6_assign 17 = .ok (.bipush (-100), 2) := by decide +kernel
theorem dX6_assign_19 : decode cX6_assign 19 = .ok (.iload_n 1, 1) := by decide +kernel
theorem dX6_assign_20 : decode cX6_assign 20 = .ok (.isub, 1) := by decide +kernel
theorem dX6_assign_21 : decode cX6_assign 21 = .ok (.ireturn, 1) := by decide +kernel
theorem dX6_assign_22 : decode cX6_assign 22 = .ok (.aload_n 0, 1) := by decide +kernel
theorem dX6_assign_23 : decode cX6_assign 23 = .ok (.getfield 26, 3) := by decide +kernel
theorem dX6_assign_26 : decode cX6_assign 26 = .ok (.getfield 109, 3) := by decide +kernel
theorem dX6_assign_29 : decode cX6_assign 29 = .ok (.istore_n 2, 1) := by decide +kernel
theorem dX6_assign_30 : decode cX6_assign 30 = .ok (.iload_n 2, 1) := by decide +kernel
theorem dX6_assign_31 : decode cX6_assign 31 = .ok (.invokestatic 42, 3) := by decide +kernel
theorem dX6_assign_34 : decode cX6_assign 34 = .ok (.ifCond .ne 5, 3) := by decide +kernel
theorem dX6_assign_37 : decode cX6_assign 37 = .ok (.iconst (-1), 1) := by decide +kernel
theorem dX6_assign_38 : decode cX6_assign 38 = .ok (.ireturn, 1) := by decide +kernel
theorem dX6_assign_39 : decode cX6_assign 39 = .ok (.aload_n 0, 1) := by decide +kernel
theorem dX6_assign_40 : decode cX6_assign 40 = .ok (.invokevirtual 59, 3) := by decide +kernel
theorem dX6_assign_43 : decode cX6_assign 43 = .ok (.aload_n 0, 1) := by decide +kernel
theorem dX6_assign_44 : decode cX6_assign 44 = .ok (.getfield 10, 3) := by decide +kernel
theorem dX6_assign_47 : decode cX6_assign 47 = .ok (.getfield 50, 3) := by decide +kernel
theorem dX6_assign_50 : decode cX6_assign 50 = .ok (.iload_n 2, 1) := by decide +kernel
theorem dX6_assign_51 : decode cX6_assign 51 = .ok (.aaload, 1) := by decide +kernel
theorem dX6_assign_52 : decode cX6_assign 52 = .ok (.aload_n 0, 1) := by decide +kernel
theorem dX6_assign_53 : decode cX6_assign 53 = .ok (.getfield 26, 3) := by decide +kernel
theorem dX6_assign_56 : decode cX6_assign 56 = .ok (.getfield 62, 3) := by decide +kernel
theorem dX6_assign_59 : decode cX6_assign 59 = .ok (.invokevirtual 101, 3) := by decide +kernel
theorem dX6_assign_62 : decode cX6_assign 62 = .ok (.ireturn, 1) := by decide +kernel
theorem dX6_setRule_0 : decode cX6_setRule 0 = .ok (.iload_n 1, 1) := by decide +kernel
theorem dX6_setRule_1 : decode cX6_setRule 1 = .ok (.ifCond .lt 8, 3) := by decide +kernel
theorem dX6_setRule_4 : decode cX6_setRule 4 = .ok (.iload_n 1, 1) := by decide +kernel
theorem dX6_setRule_5 : decode cX6_setRule 5 = .ok (.iconst 3, 1) := by decide +kernel
theorem dX6_setRule_6 : decode cX6_setRule 6 = .ok (.if_icmp .lt 6, 3) := by decide +kernel
theorem dX6_setRule_9 : decode cX6_setRule 9 = .ok (.bipush (-2), 2) := by decide +kernel
theorem dX6_setRule_11 : decode cX6_setRule 11 = .ok (.ireturn, 1) := by decide +kernel
theorem dX6_setRule_12 : decode cX6_setRule 12 = .ok (.aload_n 0, 1) := by decide +kernel
theorem dX6_setRule_13 : decode cX6_setRule 13 = .ok (.getfield 10, 3) := by decide +kernel
theorem dX6_setRule_16 : decode cX6_setRule 16 = .ok (.getfield 112, 3) := by decide +kernel
theorem dX6_setRule_19 : decode cX6_setRule 19 = .ok (.istore_n 2, 1) := by decide +kernel
theorem dX6_setRule_20 : decode cX6_setRule 20 = .ok (.iload_n 2, 1) := by decide +kernel
theorem dX6_setRule_21 : decode cX6_setRule 21 = .ok (.iload_n 1, 1) := by decide +kernel
theorem dX6_setRule_22 : decode cX6_setRule 22 = .ok (.if_icmp .ne 6, 3) := by decide +kernel
theorem dX6_setRule_25 : decode cX6_setRule 25 = .ok (.bipush (-5), 2) := by decide +kernel
theorem dX6_setRule_27 : decode cX6_setRule 27 = .ok (.ireturn, 1) := by decide +kernel
theorem dX6_setRule_28 : decode cX6_setRule 28 = .ok (.aload_n 0, 1) := by decide +kernel
theorem dX6_setRule_29 : decode cX6_setRule 29 = .ok (.invokevirtual 59, 3) := by decide +kernel
theorem dX6_setRule_32 : decode cX6_setRule 32 = .ok (.aload_n 0, 1) := by decide +kernel
theorem dX6_setRule_33 : decode cX6_setRule 33 = .ok (.getfield 10, 3) := by decide +kernel
theorem dX6_setRule_36 : decode cX6_setRule 36 = .ok (.iload_n 1, 1) := by decide +kernel
theorem dX6_setRule_37 : decode cX6_setRule 37 = .ok (.putfield 112, 3) := by decide +kernel
theorem dX6_setRule_40 : decode cX6_setRule 40 = .ok (.iload_n 2, 1) := by decide +kernel
theorem dX6_setRule_41 : decode cX6_setRule 41 = .ok (.ireturn, 1) := by decide +kernel
theorem dX6_hide_0 : decode cX6_hide 0 = .ok (.iload_n 1, 1) := by decide +kernel
theorem dX6_hide_1 : decode cX6_hide 1 = .ok (.invokestatic 42, 3) := by decide +kernel
theorem dX6_hide_4 : decode cX6_hide 4 = .ok (.ifCond .ne 5, 3) := by decide +kernel
theorem dX6_hide_7 : decode cX6_hide 7 = .ok (.iconst (-1), 1) := by decide +kernel
theorem dX6_hide_8 : decode cX6_hide 8 = .ok (.ireturn, 1) := by decide +kernel
theorem dX6_hide_9 : decode cX6_hide 9 = .ok (.iload_n 2, 1) := by decide +kernel
theorem dX6_hide_10 : decode cX6_hide 10 = .ok (.iconst 1, 1) := by decide +kernel
theorem dX6_hide_11 : decode cX6_hide 11 = .ok (.if_icmp .lt 17, 3) := by decide +kernel
theorem dX6_hide_14 : decode cX6_hide 14 = .ok (.iload_n 2, 1) := by decide +kernel
theorem dX6_hide_15 : decode cX6_hide 15 = .ok (.bipush 63, 2) := by decide +kernel
theorem dX6_hide_17 : decode cX6_hide 17 = .ok (.if_icmp .gt 11, 3) := by decide +kernel
theorem dX6_hide_20 : decode cX6_hide 20 = .ok (.iload_n 2, 1) := by decide +kernel
theorem dX6_hide_21 : decode cX6_hide 21 = .ok (.iload_n 1, 1) := by decide +kernel
theorem dX6_hide_22 : decode cX6_hide 22 = .ok (.ishr, 1) := by decide +kernel
theorem dX6_hide_23 : decode cX6_hide 23 = .ok (.iconst 1, 1) := by decide +kernel
theorem dX6_hide_24 : decode cX6_hide 24 = .ok (.iand, 1) := by decide +kernel
theorem dX6_hide_25 : decode cX6_hide 25 = .ok (.ifCond .ne 6, 3) := by decide +kernel
theorem dX6_hide_28 : decode cX6_hide 28 = .ok (.bipush (-2), 2) := by decide +kernel
theorem dX6_hide_30 : decode cX6_hide 30 = .ok (.ireturn, 1) := by decide +kernel
theorem dX6_hide_31 : decode cX6_hide 31 = .ok (.aload_n 0, 1) := by decide +kernel
theorem dX6_hide_32 : decode cX6_hide 32 = .ok (.invokevirtual 59, 3) := by decide +kernel
theorem dX6_hide_35 : decode cX6_hide 35 = .ok (.aload_n 0, 1) := by decide +kernel
theorem dX6_hide_36 : decode cX6_hide 36 = .ok (.getfield 10, 3) := by decide +kernel
theorem dX6_hide_39 : decode cX6_hide 39 = .ok (.getfield 115, 3) := by decide +kernel
theorem dX6_hide_42 : decode cX6_hide 42 = .ok (.iload_n 1, 1) := by decide +kernel
theorem dX6_hide_43 : decode cX6_hide 43 = .ok (.iload_n 2, 1) := by decide +kernel
theorem dX6_hide_44 : decode cX6_hide 44 = .ok (.aload_n 0, 1) := by decide +kernel
theorem dX6_hide_45 : decode cX6_hide 45 = .ok (.getfield 10, 3) := by decide +kernel
theorem dX6_hide_48 : decode cX6_hide 48 = .ok (.getfield 50, 3) := by decide +kernel
theorem dX6_hide_51 : decode cX6_hide 51 = .ok (.invokevirtual 119, 3) := by decide +kernel
theorem dX6_hide_54 : decode cX6_hide 54 = .ok (.iload_n 2, 1) := by decide +kernel
theorem dX6_hide_55 : decode cX6_hide 55 = .ok (.invokestatic 125, 3) := by decide +kernel
theorem dX6_hide_58 : decode cX6_hide 58 = .ok (.ireturn, 1) := by decide +kernel
theorem dX6_ask_0 : decode cX6_ask 0 = .ok (.iload_n 1, 1) := by decide +kernel
theorem dX6_ask_1 : decode cX6_ask 1 = .ok (.invokestatic 87, 3) := by decide +kernel
theorem dX6_ask_4 : decode cX6_ask 4 = .ok (.ifCond .ne 5, 3) := by decide +kernel
theorem dX6_ask_7 : decode cX6_ask 7 = .ok (.iconst (-1), 1) := by decide +kernel
theorem dX6_ask_8 : decode cX6_ask 8 = .ok (.ireturn, 1) := by decide +kernel
theorem dX6_ask_9 : decode cX6_ask 9 = .ok (.aload_n 0, 1) := by decide +kernel
theorem dX6_ask_10 : decode cX6_ask 10 = .ok (.getfield 10, 3) := by decide +kernel
theorem dX6_ask_13 : decode cX6_ask 13 = .ok (.getfield 115, 3) := by decide +kernel
theorem dX6_ask_16 : decode cX6_ask 16 = .ok (.invokevirtual 131, 3) := by decide +kernel
theorem dX6_ask_19 : decode cX6_ask 19 = .ok (.ifCond .ne 6, 3) := by decide +kernel
theorem dX6_ask_22 : decode cX6_ask 22 = .ok (.bipush (-4), 2) := by decide +kernel
theorem dX6_ask_24 : decode cX6_ask 24 = .ok (.ireturn, 1) := by decide +kernel
theorem dX6_ask_25 : decode cX6_ask 25 = .ok (.aload_n 0, 1) := by decide +kernel
theorem dX6_ask_26 : decode cX6_ask 26 = .ok (.invokevirtual 59, 3) := by decide +kernel
theorem dX6_ask_29 : decode cX6_ask 29 = .ok (.aload_n 0, 1) := by decide +kernel
theorem dX6_ask_30 : decode cX6_ask 30 = .ok (.getfield 10, 3) := by decide +kernel
theorem dX6_ask_33 : decode cX6_ask 33 = .ok (.getfield 115, 3) := by decide +kernel
theorem dX6_ask_36 : decode cX6_ask 36 = .ok (.iload_n 1, 1) := by decide +kernel
theorem dX6_ask_37 : decode cX6_ask 37 = .ok (.invokevirtual 134, 3) := by decide +kernel
theorem dX6_ask_40 : decode cX6_ask 40 = .ok (.ireturn, 1) := by decide +kernel
theorem dX6_type_0 : decode cX6_type 0 = .ok (.aload_n 0, 1) := by decide +kernel
theorem dX6_type_1 : decode cX6_type 1 = .ok (.getfield 26, 3) := by decide +kernel
theorem dX6_type_4 : decode cX6_type 4 = .ok (.getfield 137, 3) := by decide +kernel
theorem dX6_type_7 : decode cX6_type 7 = .ok (.iload_n 1, 1) := by decide +kernel
theorem dX6_type_8 : decode cX6_type 8 = .ok (.invokevirtual 141, 3) := by decide +kernel
theorem dX6_type_11 : decode cX6_type 11 = .ok (.ifCond .eq 16, 3) := by decide +kernel
theorem dX6_type_14 : decode cX6_type 14 = .ok (.aload_n 0, 1) := by decide +kernel
theorem dX6_type_15 : decode cX6_type 15 = .ok (.getfield 26, 3) := by decide +kernel
theorem dX6_type_18 : decode cX6_type 18 = .ok (.getfield 137, 3) := by decide +kernel
theorem dX6_type_21 : decode cX6_type 21 = .ok (.getfield 147, 3) := by decide +kernel
theorem dX6_type_24 : decode cX6_type 24 = .ok (.goto 5, 3) := by decide +kernel
theorem dX6_type_27 : decode cX6_type 27 = .ok (.bipush (-3), 2) := by decide +kernel
theorem dX6_type_29 : decode cX6_type 29 = .ok (.ireturn, 1) := by decide +kernel
theorem dX6_clearText_0 : decode cX6_clearText 0 = .ok (.aload_n 0, 1) := by decide +kernel
theorem dX6_clearText_1 : decode cX6_clearText 1 = .ok (.getfield 26, 3) := by decide +kernel
theorem dX6_clearText_4 : decode cX6_clearText 4 = .ok (.getfield 137, 3) := by decide +kernel
theorem dX6_clearText_7 : decode cX6_clearText 7 = .ok (.getfield 147, 3) := by decide +kernel
theorem dX6_clearText_10 : decode cX6_clearText 10 = .ok (.istore_n 1, 1) := by decide +kernel
theorem dX6_clearText_11 : decode cX6_clearText 11 = .ok (.aload_n 0, 1) := by decide +kernel
theorem dX6_clearText_12 : decode cX6_clearText 12 = .ok (.getfield 26, 3) := by decide +kernel
theorem dX6_clearText_15 : decode cX6_clearText 15 = .ok (.getfield 137, 3) := by decide +kernel
theorem dX6_clearText_18 : decode cX6_clearText 18 = .ok (.iconst 0, 1) := by decide +kernel
theorem dX6_clearText_19 : decode cX6_clearText 19 = .ok (.putfield 147, 3) := by decide +kernel
theorem dX6_clearText_22 : decode cX6_clearText 22 = .ok (.iload_n 1, 1) := by decide +kernel
theorem dX6_clearText_23 : decode cX6_clearText 23 = .ok (.ireturn, 1) := by decide +kernel
theorem dX6_undo_0 : decode cX6_undo 0 = .ok (.aload_n 0, 1) := by decide +kernel
theorem dX6_undo_1 : decode cX6_undo 1 = .ok (.getfield 34, 3) := by decide +kernel
theorem dX6_undo_4 : decode cX6_undo 4 = .ok (.ifCond .le 11, 3) := by decide +kernel
theorem dX6_undo_7 : decode cX6_undo 7 = .ok (.aload_n 0, 1) := by decide +kernel
theorem dX6_undo_8 : decode cX6_undo 8 = .ok (.getfield 34, 3) := by decide +kernel
theorem dX6_undo_11 : decode cX6_undo 11 = .ok (.iconst 4, 1) := by decide +kernel
theorem dX6_undo_12 : decode cX6_undo 12 = .ok (.if_icmp .le 6, 3) := by decide +kernel
theorem dX6_undo_15 : decode cX6_undo 15 = .ok (.bipush (-5), 2) := by decide +kernel
theorem dX6_undo_17 : decode cX6_undo 17 = .ok (.ireturn, 1) := by decide +kernel
theorem dX6_undo_18 : decode cX6_undo 18 = .ok (.aload_n 0, 1) := by decide +kernel
theorem dX6_undo_19 : decode cX6_undo 19 = .ok (.dup, 1) := by decide +kernel
theorem dX6_undo_20 : decode cX6_undo 20 = .ok (.getfield 34, 3) := by decide +kernel
theorem dX6_undo_23 : decode cX6_undo 23 = .ok (.iconst 1, 1) := by decide +kernel
theorem dX6_undo_24 : decode cX6_undo 24 = .ok (.isub, 1) := by decide +kernel
theorem dX6_undo_25 : decode cX6_undo 25 = .ok (.putfield 34, 3) := by decide +kernel
theorem dX6_undo_28 : decode cX6_undo 28 = .ok (.aload_n 0, 1) := by decide +kernel
theorem dX6_undo_29 : decode cX6_undo 29 = .ok (.getfield 10, 3) := by decide +kernel
theorem dX6_undo_32 : decode cX6_undo 32 = .ok (.aload_n 0, 1) := by decide +kernel
theorem dX6_undo_33 : decode cX6_undo 33 = .ok (.getfield 16, 3) := by decide +kernel
theorem dX6_undo_36 : decode cX6_undo 36 = .ok (.aload_n 0, 1) := by decide +kernel
theorem dX6_undo_37 : decode cX6_undo 37 = .ok (.getfield 34, 3) := by decide +kernel
theorem dX6_undo_40 : decode cX6_undo 40 = .ok (.aaload, 1) := by decide +kernel
theorem dX6_undo_41 : decode cX6_undo 41 = .ok (.invokevirtual 150, 3) := by decide +kernel
theorem dX6_undo_44 : decode cX6_undo 44 = .ok (.aload_n 0, 1) := by decide +kernel
theorem dX6_undo_45 : decode cX6_undo 45 = .ok (.getfield 34, 3) := by decide +kernel
theorem dX6_undo_48 : decode cX6_undo 48 = .ok (.ireturn, 1) := by decide +kernel
theorem dX6_keep_0 : decode cX6_keep 0 = .ok (.aload_n 0, 1) := by decide +kernel
theorem dX6_keep_1 : decode cX6_keep 1 = .ok (.getfield 20, 3) := by decide +kernel
theorem dX6_keep_4 : decode cX6_keep 4 = .ok (.aload_n 0, 1) := by decide +kernel
theorem dX6_keep_5 : decode cX6_keep 5 = .ok (.getfield 10, 3) := by decide +kernel
theorem dX6_keep_8 : decode cX6_keep 8 = .ok (.invokevirtual 150, 3) := by decide +kernel
theorem dX6_keep_11 : decode cX6_keep 11 = .ok (.aload_n 0, 1) := by decide +kernel
theorem dX6_keep_12 : decode cX6_keep 12 = .ok (.iconst 1, 1) := by decide +kernel
theorem dX6_keep_13 : decode cX6_keep 13 = .ok (.putfield 38, 3) := by decide +kernel
theorem dX6_keep_16 : decode cX6_keep 16 = .ok (.aload_n 0, 1) := by decide +kernel
theorem dX6_keep_17 : decode cX6_keep 17 = .ok (.getfield 10, 3) := by decide +kernel
theorem dX6_keep_20 : decode cX6_keep 20 = .ok (.invokevirtual 154, 3) := by decide +kernel
theorem dX6_keep_23 : decode cX6_keep 23 = .ok (.ireturn, 1) := by decide +kernel
theorem dX6_restore_0 : decode cX6_restore 0 = .ok (.aload_n 0, 1) := by decide +kernel
theorem dX6_restore_1 : decode cX6_restore 1 = .ok (.getfield 38, 3) := by decide +kernel
theorem dX6_restore_4 : decode cX6_restore 4 = .ok (.ifCond .ne 6, 3) := by decide +kernel
theorem dX6_restore_7 : decode cX6_restore 7 = .ok (.bipush (-5), 2) := by decide +kernel
theorem dX6_restore_9 : decode cX6_restore 9 = .ok (.ireturn, 1) := by decide +kernel
theorem dX6_restore_10 : decode cX6_restore 10 = .ok (.aload_n 0, 1) := by decide +kernel
theorem dX6_restore_11 : decode cX6_restore 11 = .ok (.invokevirtual 59, 3) := by decide +kernel
theorem dX6_restore_14 : decode cX6_restore 14 = .ok (.aload_n 0, 1) := by decide +kernel
theorem dX6_restore_15 : decode cX6_restore 15 = .ok (.getfield 10, 3) := by decide +kernel
theorem dX6_restore_18 : decode cX6_restore 18 = .ok (.aload_n 0, 1) := by decide +kernel
theorem dX6_restore_19 : decode cX6_restore 19 = .ok (.getfield 20, 3) := by decide +kernel
theorem dX6_restore_22 : decode cX6_restore 22 = .ok (.invokevirtual 150, 3) := by decide +kernel
theorem dX6_restore_25 : decode cX6_restore 25 = .ok (.aload_n 0, 1) := by decide +kernel
theorem dX6_restore_26 : decode cX6_restore 26 = .ok (.getfield 10, 3) := by decide +kernel
theorem dX6_restore_29 : decode cX6_restore 29 = .ok (.invokevirtual 154, 3) := by decide +kernel
theorem dX6_restore_32 : decode cX6_restore 32 = .ok (.ireturn, 1) := by decide +kernel
theorem dX6_get_0 : decode cX6_get 0 = .ok (.iload_n 1, 1) := by decide +kernel
theorem dX6_get_1 : decode cX6_get 1 = .ok (.invokestatic 42, 3) := by decide +kernel
theorem dX6_get_4 : decode cX6_get 4 = .ok (.ifCond .eq 10, 3) := by decide +kernel
theorem dX6_get_7 : decode cX6_get 7 = .ok (.iload_n 2, 1) := by decide +kernel
theorem dX6_get_8 : decode cX6_get 8 = .ok (.invokestatic 87, 3) := by decide +kernel
theorem dX6_get_11 : decode cX6_get 11 = .ok (.ifCond .ne 5, 3) := by decide +kernel
theorem dX6_get_14 : decode cX6_get 14 = .ok (.iconst (-1), 1) := by decide +kernel
theorem dX6_get_15 : decode cX6_get 15 = .ok (.ireturn, 1) := by decide +kernel
theorem dX6_get_16 : decode cX6_get 16 = .ok (.aload_n 0, 1) := by decide +kernel
theorem dX6_get_17 : decode cX6_get 17 = .ok (.getfield 10, 3) := by decide +kernel
theorem dX6_get_20 : decode cX6_get 20 = .ok (.getfield 50, 3) := by decide +kernel
theorem dX6_get_23 : decode cX6_get 23 = .ok (.iload_n 1, 1) := by decide +kernel
theorem dX6_get_24 : decode cX6_get 24 = .ok (.aaload, 1) := by decide +kernel
theorem dX6_get_25 : decode cX6_get 25 = .ok (.getfield 98, 3) := by decide +kernel
theorem dX6_get_28 : decode cX6_get 28 = .ok (.iload_n 2, 1) := by decide +kernel
theorem dX6_get_29 : decode cX6_get 29 = .ok (.iaload, 1) := by decide +kernel
theorem dX6_get_30 : decode cX6_get 30 = .ok (.invokestatic 157, 3) := by decide +kernel
theorem dX6_get_33 : decode cX6_get 33 = .ok (.ireturn, 1) := by decide +kernel
theorem dX6_tells_0 : decode cX6_tells 0 = .ok (.iload_n 1, 1) := by decide +kernel
theorem dX6_tells_1 : decode cX6_tells 1 = .ok (.invokestatic 42, 3) := by decide +kernel
theorem dX6_tells_4 : decode cX6_tells 4 = .ok (.ifCond .eq 10, 3) := by decide +kernel
theorem dX6_tells_7 : decode cX6_tells 7 = .ok (.iload_n 2, 1) := by decide +kernel
theorem dX6_tells_8 : decode cX6_tells 8 = .ok (.invokestatic 87, 3) := by decide +kernel
theorem dX6_tells_11 : decode cX6_tells 11 = .ok (.ifCond .ne 5, 3) := by decide +kernel
theorem dX6_tells_14 : decode cX6_tells 14 = .ok (.iconst (-1), 1) := by decide +kernel
theorem dX6_tells_15 : decode cX6_tells 15 = .ok (.ireturn, 1) := by decide +kernel
theorem dX6_tells_16 : decode cX6_tells 16 = .ok (.aload_n 0, 1) := by decide +kernel
theorem dX6_tells_17 : decode cX6_tells 17 = .ok (.getfield 10, 3) := by decide +kernel
theorem dX6_tells_20 : decode cX6_tells 20 = .ok (.getfield 50, 3) := by decide +kernel
theorem dX6_tells_23 : decode cX6_tells 23 = .ok (.iload_n 1, 1) := by decide +kernel
theorem dX6_tells_24 : decode cX6_tells 24 = .ok (.aaload, 1) := by decide +kernel
theorem dX6_tells_25 : decode cX6_tells 25 = .ok (.iload_n 2, 1) := by decide +kernel
theorem dX6_tells_26 : decode cX6_tells 26 = .ok (.invokevirtual 160, 3) := by decide +kernel
theorem dX6_tells_29 : decode cX6_tells 29 = .ok (.istore_n 3, 1) := by decide +kernel
theorem dX6_tells_30 : decode cX6_tells 30 = .ok (.iload_n 3, 1) := by decide +kernel
theorem dX6_tells_31 : decode cX6_tells 31 = .ok (.iconst (-1), 1) := by decide +kernel
theorem dX6_tells_32 : decode cX6_tells 32 = .ok (.if_icmp .ne 8, 3) := by decide +kernel
theorem dX6_tells_35 : decode cX6_tells 35 = .ok (.bipush (-5), 2) := by decide +kernel
theorem dX6_tells_37 : decode cX6_tells 37 = .ok (.goto 4, 3) := by decide +kernel
theorem dX6_tells_40 : decode cX6_tells 40 = .ok (.iload_n 3, 1) := by decide +kernel
theorem dX6_tells_41 : decode cX6_tells 41 = .ok (.ireturn, 1) := by decide +kernel
theorem dX6_map_0 : decode cX6_map 0 = .ok (.iload_n 1, 1) := by decide +kernel
theorem dX6_map_1 : decode cX6_map 1 = .ok (.invokestatic 42, 3) := by decide +kernel
theorem dX6_map_4 : decode cX6_map 4 = .ok (.ifCond .ne 5, 3) := by decide +kernel
theorem dX6_map_7 : decode cX6_map 7 = .ok (.iconst (-1), 1) := by decide +kernel
theorem dX6_map_8 : decode cX6_map 8 = .ok (.ireturn, 1) := by decide +kernel
theorem dX6_map_9 : decode cX6_map 9 = .ok (.aload_n 0, 1) := by decide +kernel
theorem dX6_map_10 : decode cX6_map 10 = .ok (.getfield 10, 3) := by decide +kernel
theorem dX6_map_13 : decode cX6_map 13 = .ok (.getfield 50, 3) := by decide +kernel
theorem dX6_map_16 : decode cX6_map 16 = .ok (.iload_n 1, 1) := by decide +kernel
theorem dX6_map_17 : decode cX6_map 17 = .ok (.aaload, 1) := by decide +kernel
theorem dX6_map_18 : decode cX6_map 18 = .ok (.astore_n 3, 1) := by decide +kernel
theorem dX6_map_19 : decode cX6_map 19 = .ok (.iload_n 2, 1) := by decide +kernel
theorem dX6_map_20 : decode cX6_map 20 = .ok (.tableswitch 123 0 8 #[52, 57, 62, 70, 78, 94, 102, 107, 115], 52) := by decide +kernel
theorem dX6_map_72 : decode cX6_map 72 = .ok (.aload_n 3, 1) := by decide +kernel
theorem dX6_map_73 : decode cX6_map 73 = .ok (.getfield 54, 3) := by decide +kernel
theorem dX6_map_76 : decode cX6_map 76 = .ok (.ireturn, 1) := by decide +kernel
theorem dX6_map_77 : decode cX6_map 77 = .ok (.aload_n 3, 1) := by decide +kernel
theorem dX6_map_78 : decode cX6_map 78 = .ok (.invokevirtual 163, 3) := by decide +kernel
theorem dX6_map_81 : decode cX6_map 81 = .ok (.ireturn, 1) := by decide +kernel
theorem dX6_map_82 : decode cX6_map 82 = .ok (.aload_n 3, 1) := by decide +kernel
theorem dX6_map_83 : decode cX6_map 83 = .ok (.getfield 98, 3) := by decide +kernel
theorem dX6_map_86 : decode cX6_map 86 = .ok (.invokestatic 166, 3) := by decide +kernel
theorem dX6_map_89 : decode cX6_map 89 = .ok (.ireturn, 1) := by decide +kernel
theorem dX6_map_90 : decode cX6_map 90 = .ok (.aload_n 3, 1) := by decide +kernel
theorem dX6_map_91 : decode cX6_map 91 = .ok (.getfield 98, 3) := by decide +kernel
theorem dX6_map_94 : decode cX6_map 94 = .ok (.invokestatic 171, 3) := by decide +kernel
theorem dX6_map_97 : decode cX6_map 97 = .ok (.ireturn, 1) := by decide +kernel
theorem dX6_map_98 : decode cX6_map 98 = .ok (.aload_n 3, 1) := by decide +kernel
theorem dX6_map_99 : decode cX6_map 99 = .ok (.getfield 98, 3) := by decide +kernel
theorem dX6_map_102 : decode cX6_map 102 = .ok (.invokestatic 174, 3) := by decide +kernel
theorem dX6_map_105 : decode cX6_map 105 = .ok (.ifCond .eq 7, 3) := by decide +kernel
theorem dX6_map_108 : decode cX6_map 108 = .ok (.iconst 1, 1) := by decide +kernel
theorem dX6_map_109 : decode cX6_map 109 = .ok (.goto 4, 3) := by decide +kernel
theorem dX6_map_112 : decode cX6_map 112 = .ok (.iconst 0, 1) := by decide +kernel
theorem dX6_map_113 : decode cX6_map 113 = .ok (.ireturn, 1) := by decide +kernel
theorem dX6_map_114 : decode cX6_map 114 = .ok (.aload_n 3, 1) := by decide +kernel
theorem dX6_map_115 : decode cX6_map 115 = .ok (.getfield 98, 3) := by decide +kernel
theorem dX6_map_118 : decode cX6_map 118 = .ok (.invokestatic 178, 3) := by decide +kernel
theorem dX6_map_121 : decode cX6_map 121 = .ok (.ireturn, 1) := by decide +kernel
theorem dX6_map_122 : decode cX6_map 122 = .ok (.aload_n 3, 1) := by decide +kernel
theorem dX6_map_123 : decode cX6_map 123 = .ok (.invokevirtual 181, 3) := by decide +kernel
theorem dX6_map_126 : decode cX6_map 126 = .ok (.ireturn, 1) := by decide +kernel
theorem dX6_map_127 : decode cX6_map 127 = .ok (.aload_n 3, 1) := by decide +kernel
theorem dX6_map_128 : decode cX6_map 128 = .ok (.getfield 98, 3) := by decide +kernel
theorem dX6_map_131 : decode cX6_map 131 = .ok (.invokestatic 184, 3) := by decide +kernel
theorem dX6_map_134 : decode cX6_map 134 = .ok (.ireturn, 1) := by decide +kernel
theorem dX6_map_135 : decode cX6_map 135 = .ok (.aload_n 3, 1) := by decide +kernel
theorem dX6_map_136 : decode cX6_map 136 = .ok (.getfield 98, 3) := by decide +kernel
theorem dX6_map_139 : decode cX6_map 139 = .ok (.invokestatic 187, 3) := by decide +kernel
theorem dX6_map_142 : decode cX6_map 142 = .ok (.ireturn, 1) := by decide +kernel
theorem dX6_map_143 : decode cX6_map 143 = .ok (.bipush (-2), 2) := by decide +kernel
theorem dX6_map_145 : decode cX6_map 145 = .ok (.ireturn, 1) := by decide +kernel
theorem dX6_layer_0 : decode cX6_layer 0 = .ok (.aload_n 0, 1) := by decide +kernel
theorem dX6_layer_1 : decode cX6_layer 1 = .ok (.iload_n 1, 1) := by decide +kernel
theorem dX6_layer_2 : decode cX6_layer 2 = .ok (.iload_n 2, 1) := by decide +kernel
theorem dX6_layer_3 : decode cX6_layer 3 = .ok (.invokevirtual 72, 3) := by decide +kernel
theorem dX6_layer_6 : decode cX6_layer 6 = .ok (.ifCond .ne 5, 3) := by decide +kernel
theorem dX6_layer_9 : decode cX6_layer 9 = .ok (.iconst (-1), 1) := by decide +kernel
theorem dX6_layer_10 : decode cX6_layer 10 = .ok (.ireturn, 1) := by decide +kernel
theorem dX6_layer_11 : decode cX6_layer 11 = .ok (.aload_n 0, 1) := by decide +kernel
theorem dX6_layer_12 : decode cX6_layer 12 = .ok (.getfield 10, 3) := by decide +kernel
theorem dX6_layer_15 : decode cX6_layer 15 = .ok (.getfield 50, 3) := by decide +kernel
theorem dX6_layer_18 : decode cX6_layer 18 = .ok (.iload_n 1, 1) := by decide +kernel
theorem dX6_layer_19 : decode cX6_layer 19 = .ok (.aaload, 1) := by decide +kernel
theorem dX6_layer_20 : decode cX6_layer 20 = .ok (.astore 4, 2) := by decide +kernel
theorem dX6_layer_22 : decode cX6_layer 22 = .ok (.iload_n 3, 1) := by decide +kernel
theorem dX6_layer_23 : decode cX6_layer 23 = .ok (.tableswitch 66 0 3 #[29, 36, 52, 59], 29) := by decide +kernel
theorem dX6_layer_52 : decode cX6_layer 52 = .ok (.aload 4, 2) := by decide +kernel
theorem dX6_layer_54 : decode cX6_layer 54 = .ok (.iload_n 2, 1) := by decide +kernel
theorem dX6_layer_55 : decode cX6_layer 55 = .ok (.invokevirtual 190, 3) := by decide +kernel
theorem dX6_layer_58 : decode cX6_layer 58 = .ok (.ireturn, 1) := by decide +kernel
theorem dX6_layer_59 : decode cX6_layer 59 = .ok (.aload 4, 2) := by decide +kernel
theorem dX6_layer_61 : decode cX6_layer 61 = .ok (.getfield 76, 3) := by decide +kernel
theorem dX6_layer_64 : decode cX6_layer 64 = .ok (.iload_n 2, 1) := by decide +kernel
theorem dX6_layer_65 : decode cX6_layer 65 = .ok (.baload, 1) := by decide +kernel
theorem dX6_layer_66 : decode cX6_layer 66 = .ok (.ifCond .eq 7, 3) := by decide +kernel
theorem dX6_layer_69 : decode cX6_layer 69 = .ok (.iconst 1, 1) := by decide +kernel
theorem dX6_layer_70 : decode cX6_layer 70 = .ok (.goto 4, 3) := by decide +kernel
theorem dX6_layer_73 : decode cX6_layer 73 = .ok (.iconst 0, 1) := by decide +kernel
theorem dX6_layer_74 : decode cX6_layer 74 = .ok (.ireturn, 1) := by decide +kernel
theorem dX6_layer_75 : decode cX6_layer 75 = .ok (.aload 4, 2) := by decide +kernel
theorem dX6_layer_77 : decode cX6_layer 77 = .ok (.iload_n 2, 1) := by decide +kernel
theorem dX6_layer_78 : decode cX6_layer 78 = .ok (.invokevirtual 193, 3) := by decide +kernel
theorem dX6_layer_81 : decode cX6_layer 81 = .ok (.ireturn, 1) := by decide +kernel
theorem dX6_layer_82 : decode cX6_layer 82 = .ok (.aload 4, 2) := by decide +kernel
theorem dX6_layer_84 : decode cX6_layer 84 = .ok (.iload_n 2, 1) := by decide +kernel
theorem dX6_layer_85 : decode cX6_layer 85 = .ok (.invokevirtual 196, 3) := by decide +kernel
theorem dX6_layer_88 : decode cX6_layer 88 = .ok (.ireturn, 1) := by decide +kernel
theorem dX6_layer_89 : decode cX6_layer 89 = .ok (.bipush (-2), 2) := by decide +kernel
theorem dX6_layer_91 : decode cX6_layer 91 = .ok (.ireturn, 1) := by decide +kernel
theorem dX6_entry_0 : decode cX6_entry 0 = .ok (.aload_n 0, 1) := by decide +kernel
theorem dX6_entry_1 : decode cX6_entry 1 = .ok (.iload_n 1, 1) := by decide +kernel
theorem dX6_entry_2 : decode cX6_entry 2 = .ok (.iload_n 2, 1) := by decide +kernel
theorem dX6_entry_3 : decode cX6_entry 3 = .ok (.invokevirtual 72, 3) := by decide +kernel
theorem dX6_entry_6 : decode cX6_entry 6 = .ok (.ifCond .eq 10, 3) := by decide +kernel
theorem dX6_entry_9 : decode cX6_entry 9 = .ok (.iload_n 3, 1) := by decide +kernel
theorem dX6_entry_10 : decode cX6_entry 10 = .ok (.invokestatic 87, 3) := by decide +kernel
theorem dX6_entry_13 : decode cX6_entry 13 = .ok (.ifCond .ne 5, 3) := by decide +kernel
theorem dX6_entry_16 : decode cX6_entry 16 = .ok (.iconst (-1), 1) := by decide +kernel
theorem dX6_entry_17 : decode cX6_entry 17 = .ok (.ireturn, 1) := by decide +kernel
theorem dX6_entry_18 : decode cX6_entry 18 = .ok (.aload_n 0, 1) := by decide +kernel
theorem dX6_entry_19 : decode cX6_entry 19 = .ok (.getfield 10, 3) := by decide +kernel
theorem dX6_entry_22 : decode cX6_entry 22 = .ok (.getfield 50, 3) := by decide +kernel
theorem dX6_entry_25 : decode cX6_entry 25 = .ok (.iload_n 1, 1) := by decide +kernel
theorem dX6_entry_26 : decode cX6_entry 26 = .ok (.aaload, 1) := by decide +kernel
theorem dX6_entry_27 : decode cX6_entry 27 = .ok (.getfield 90, 3) := by decide +kernel
theorem dX6_entry_30 : decode cX6_entry 30 = .ok (.iload_n 2, 1) := by decide +kernel
theorem dX6_entry_31 : decode cX6_entry 31 = .ok (.aaload, 1) := by decide +kernel
theorem dX6_entry_32 : decode cX6_entry 32 = .ok (.iload_n 3, 1) := by decide +kernel
theorem dX6_entry_33 : decode cX6_entry 33 = .ok (.iaload, 1) := by decide +kernel
theorem dX6_entry_34 : decode cX6_entry 34 = .ok (.ireturn, 1) := by decide +kernel
theorem dX6_follow_0 : decode cX6_follow 0 = .ok (.iload_n 1, 1) := by decide +kernel
theorem dX6_follow_1 : decode cX6_follow 1 = .ok (.invokestatic 42, 3) := by decide +kernel
theorem dX6_follow_4 : decode cX6_follow 4 = .ok (.ifCond .eq 10, 3) := by decide +kernel
theorem dX6_follow_7 : decode cX6_follow 7 = .ok (.iload_n 2, 1) := by decide +kernel
theorem dX6_follow_8 : decode cX6_follow 8 = .ok (.invokestatic 87, 3) := by decide +kernel
theorem dX6_follow_11 : decode cX6_follow 11 = .ok (.ifCond .ne 5, 3) := by decide +kernel
theorem dX6_follow_14 : decode cX6_follow 14 = .ok (.iconst (-1), 1) := by decide +kernel
theorem dX6_follow_15 : decode cX6_follow 15 = .ok (.ireturn, 1) := by decide +kernel
theorem dX6_follow_16 : decode cX6_follow 16 = .ok (.aload_n 0, 1) := by decide +kernel
theorem dX6_follow_17 : decode cX6_follow 17 = .ok (.getfield 10, 3) := by decide +kernel
theorem dX6_follow_20 : decode cX6_follow 20 = .ok (.getfield 50, 3) := by decide +kernel
theorem dX6_follow_23 : decode cX6_follow 23 = .ok (.iload_n 1, 1) := by decide +kernel
theorem dX6_follow_24 : decode cX6_follow 24 = .ok (.aaload, 1) := by decide +kernel
theorem dX6_follow_25 : decode cX6_follow 25 = .ok (.getfield 98, 3) := by decide +kernel
theorem dX6_follow_28 : decode cX6_follow 28 = .ok (.astore 4, 2) := by decide +kernel
theorem dX6_follow_30 : decode cX6_follow 30 = .ok (.iload_n 3, 1) := by decide +kernel
theorem dX6_follow_31 : decode cX6_follow 31 = .ok (.tableswitch 46 0 2 #[25, 32, 39], 25) := by decide +kernel
theorem dX6_follow_56 : decode cX6_follow 56 = .ok (.aload 4, 2) := by decide +kernel
theorem dX6_follow_58 : decode cX6_follow 58 = .ok (.iload_n 2, 1) := by decide +kernel
theorem dX6_follow_59 : decode cX6_follow 59 = .ok (.invokestatic 199, 3) := by decide +kernel
theorem dX6_follow_62 : decode cX6_follow 62 = .ok (.ireturn, 1) := by decide +kernel
theorem dX6_follow_63 : decode cX6_follow 63 = .ok (.aload 4, 2) := by decide +kernel
theorem dX6_follow_65 : decode cX6_follow 65 = .ok (.iload_n 2, 1) := by decide +kernel
theorem dX6_follow_66 : decode cX6_follow 66 = .ok (.invokestatic 203, 3) := by decide +kernel
theorem dX6_follow_69 : decode cX6_follow 69 = .ok (.ireturn, 1) := by decide +kernel
theorem dX6_follow_70 : decode cX6_follow 70 = .ok (.aload 4, 2) := by decide +kernel
theorem dX6_follow_72 : decode cX6_follow 72 = .ok (.iload_n 2, 1) := by decide +kernel
theorem dX6_follow_73 : decode cX6_follow 73 = .ok (.invokestatic 206, 3) := by decide +kernel
theorem dX6_follow_76 : decode cX6_follow 76 = .ok (.ireturn, 1) := by decide +kernel
theorem dX6_follow_77 : decode cX6_follow 77 = .ok (.bipush (-2), 2) := by decide +kernel
theorem dX6_follow_79 : decode cX6_follow 79 = .ok (.ireturn, 1) := by decide +kernel
theorem dX6_after_0 : decode cX6_after 0 = .ok (.iload_n 1, 1) := by decide +kernel
theorem dX6_after_1 : decode cX6_after 1 = .ok (.invokestatic 42, 3) := by decide +kernel
theorem dX6_after_4 : decode cX6_after 4 = .ok (.ifCond .eq 10, 3) := by decide +kernel
theorem dX6_after_7 : decode cX6_after 7 = .ok (.iload_n 2, 1) := by decide +kernel
theorem dX6_after_8 : decode cX6_after 8 = .ok (.invokestatic 87, 3) := by decide +kernel
theorem dX6_after_11 : decode cX6_after 11 = .ok (.ifCond .ne 5, 3) := by decide +kernel
theorem dX6_after_14 : decode cX6_after 14 = .ok (.iconst (-1), 1) := by decide +kernel
theorem dX6_after_15 : decode cX6_after 15 = .ok (.ireturn, 1) := by decide +kernel
theorem dX6_after_16 : decode cX6_after 16 = .ok (.iload_n 3, 1) := by decide +kernel
theorem dX6_after_17 : decode cX6_after 17 = .ok (.ifCond .lt 9, 3) := by decide +kernel
theorem dX6_after_20 : decode cX6_after 20 = .ok (.iload_n 3, 1) := by decide +kernel
theorem dX6_after_21 : decode cX6_after 21 = .ok (.ldc 209, 2) := by decide +kernel
theorem dX6_after_23 : decode cX6_after 23 = .ok (.if_icmp .le 6, 3) := by decide +kernel
theorem dX6_after_26 : decode cX6_after 26 = .ok (.bipush (-2), 2) := by decide +kernel
theorem dX6_after_28 : decode cX6_after 28 = .ok (.ireturn, 1) := by decide +kernel
theorem dX6_after_29 : decode cX6_after 29 = .ok (.aload_n 0, 1) := by decide +kernel
theorem dX6_after_30 : decode cX6_after 30 = .ok (.getfield 10, 3) := by decide +kernel
theorem dX6_after_33 : decode cX6_after 33 = .ok (.getfield 50, 3) := by decide +kernel
theorem dX6_after_36 : decode cX6_after 36 = .ok (.iload_n 1, 1) := by decide +kernel
theorem dX6_after_37 : decode cX6_after 37 = .ok (.aaload, 1) := by decide +kernel
theorem dX6_after_38 : decode cX6_after 38 = .ok (.getfield 98, 3) := by decide +kernel
theorem dX6_after_41 : decode cX6_after 41 = .ok (.iload_n 2, 1) := by decide +kernel
theorem dX6_after_42 : decode cX6_after 42 = .ok (.iload_n 3, 1) := by decide +kernel
theorem dX6_after_43 : decode cX6_after 43 = .ok (.invokestatic 210, 3) := by decide +kernel
theorem dX6_after_46 : decode cX6_after 46 = .ok (.invokestatic 157, 3) := by decide +kernel
theorem dX6_after_49 : decode cX6_after 49 = .ok (.ireturn, 1) := by decide +kernel
theorem dX6_gives_0 : decode cX6_gives 0 = .ok (.iload_n 1, 1) := by decide +kernel
theorem dX6_gives_1 : decode cX6_gives 1 = .ok (.invokestatic 87, 3) := by decide +kernel
theorem dX6_gives_4 : decode cX6_gives 4 = .ok (.ifCond .ne 5, 3) := by decide +kernel
theorem dX6_gives_7 : decode cX6_gives 7 = .ok (.iconst (-1), 1) := by decide +kernel
theorem dX6_gives_8 : decode cX6_gives 8 = .ok (.ireturn, 1) := by decide +kernel
theorem dX6_gives_9 : decode cX6_gives 9 = .ok (.aload_n 0, 1) := by decide +kernel
theorem dX6_gives_10 : decode cX6_gives 10 = .ok (.getfield 26, 3) := by decide +kernel
theorem dX6_gives_13 : decode cX6_gives 13 = .ok (.aload_n 0, 1) := by decide +kernel
theorem dX6_gives_14 : decode cX6_gives 14 = .ok (.getfield 10, 3) := by decide +kernel
theorem dX6_gives_17 : decode cX6_gives 17 = .ok (.invokevirtual 105, 3) := by decide +kernel
theorem dX6_gives_20 : decode cX6_gives 20 = .ok (.istore_n 2, 1) := by decide +kernel
theorem dX6_gives_21 : decode cX6_gives 21 = .ok (.iload_n 2, 1) := by decide +kernel
theorem dX6_gives_22 : decode cX6_gives 22 = .ok (.iconst (-1), 1) := by decide +kernel
theorem dX6_gives_23 : decode cX6_gives 23 = .ok (.if_icmp .eq 8, 3) := by decide +kernel
theorem dX6_gives_26 : decode cX6_gives 26 = .ok (.bipush (-100), 2) := by decide +kernel
theorem dX6_gives_28 : decode cX6_gives 28 = .ok (.iload_n 2, 1) := by decide +kernel
theorem dX6_gives_29 : decode cX6_gives 29 = .ok (.isub, 1) := by decide +kernel
theorem dX6_gives_30 : decode cX6_gives 30 = .ok (.ireturn, 1) := by decide +kernel
theorem dX6_gives_31 : decode cX6_gives 31 = .ok (.aload_n 0, 1) := by decide +kernel
theorem dX6_gives_32 : decode cX6_gives 32 = .ok (.getfield 26, 3) := by decide +kernel
theorem dX6_gives_35 : decode cX6_gives 35 = .ok (.getfield 62, 3) := by decide +kernel
theorem dX6_gives_38 : decode cX6_gives 38 = .ok (.iload_n 1, 1) := by decide +kernel
theorem dX6_gives_39 : decode cX6_gives 39 = .ok (.iaload, 1) := by decide +kernel
theorem dX6_gives_40 : decode cX6_gives 40 = .ok (.invokestatic 157, 3) := by decide +kernel
theorem dX6_gives_43 : decode cX6_gives 43 = .ok (.ireturn, 1) := by decide +kernel
theorem dX6_differ_0 : decode cX6_differ 0 = .ok (.iload_n 1, 1) := by decide +kernel
theorem dX6_differ_1 : decode cX6_differ 1 = .ok (.invokestatic 42, 3) := by decide +kernel
theorem dX6_differ_4 : decode cX6_differ 4 = .ok (.ifCond .eq 10, 3) := by decide +kernel
theorem dX6_differ_7 : decode cX6_differ 7 = .ok (.iload_n 2, 1) := by decide +kernel
theorem dX6_differ_8 : decode cX6_differ 8 = .ok (.invokestatic 42, 3) := by decide +kernel
theorem dX6_differ_11 : decode cX6_differ 11 = .ok (.ifCond .ne 5, 3) := by decide +kernel
theorem dX6_differ_14 : decode cX6_differ 14 = .ok (.iconst (-1), 1) := by decide +kernel
theorem dX6_differ_15 : decode cX6_differ 15 = .ok (.ireturn, 1) := by decide +kernel
theorem dX6_differ_16 : decode cX6_differ 16 = .ok (.aload_n 0, 1) := by decide +kernel
theorem dX6_differ_17 : decode cX6_differ 17 = .ok (.getfield 10, 3) := by decide +kernel
theorem dX6_differ_20 : decode cX6_differ 20 = .ok (.getfield 50, 3) := by decide +kernel
theorem dX6_differ_23 : decode cX6_differ 23 = .ok (.iload_n 1, 1) := by decide +kernel
theorem dX6_differ_24 : decode cX6_differ 24 = .ok (.aaload, 1) := by decide +kernel
theorem dX6_differ_25 : decode cX6_differ 25 = .ok (.getfield 98, 3) := by decide +kernel
theorem dX6_differ_28 : decode cX6_differ 28 = .ok (.aload_n 0, 1) := by decide +kernel
theorem dX6_differ_29 : decode cX6_differ 29 = .ok (.getfield 10, 3) := by decide +kernel
theorem dX6_differ_32 : decode cX6_differ 32 = .ok (.getfield 50, 3) := by decide +kernel
theorem dX6_differ_35 : decode cX6_differ 35 = .ok (.iload_n 2, 1) := by decide +kernel
theorem dX6_differ_36 : decode cX6_differ 36 = .ok (.aaload, 1) := by decide +kernel
theorem dX6_differ_37 : decode cX6_differ 37 = .ok (.getfield 98, 3) := by decide +kernel
theorem dX6_differ_40 : decode cX6_differ 40 = .ok (.invokestatic 214, 3) := by decide +kernel
theorem dX6_differ_43 : decode cX6_differ 43 = .ok (.ireturn, 1) := by decide +kernel
theorem dX6_probes_0 : decode cX6_probes 0 = .ok (.iload_n 1, 1) := by decide +kernel
theorem dX6_probes_1 : decode cX6_probes 1 = .ok (.iconst 1, 1) := by decide +kernel
theorem dX6_probes_2 : decode cX6_probes 2 = .ok (.if_icmp .lt 9, 3) := by decide +kernel
theorem dX6_probes_5 : decode cX6_probes 5 = .ok (.iload_n 1, 1) := by decide +kernel
theorem dX6_probes_6 : decode cX6_probes 6 = .ok (.bipush 63, 2) := by decide +kernel
theorem dX6_probes_8 : decode cX6_probes 8 = .ok (.if_icmp .le 6, 3) := by decide +kernel
theorem dX6_probes_11 : decode cX6_probes 11 = .ok (.bipush (-2), 2) := by decide +kernel
theorem dX6_probes_13 : decode cX6_probes 13 = .ok (.ireturn, 1) := by decide +kernel
theorem dX6_probes_14 : decode cX6_probes 14 = .ok (.aload_n 0, 1) := by decide +kernel
theorem dX6_probes_15 : decode cX6_probes 15 = .ok (.iload_n 1, 1) := by decide +kernel
theorem dX6_probes_16 : decode cX6_probes 16 = .ok (.invokevirtual 218, 3) := by decide +kernel
theorem dX6_probes_19 : decode cX6_probes 19 = .ok (.istore_n 2, 1) := by decide +kernel
theorem dX6_probes_20 : decode cX6_probes 20 = .ok (.iconst 0, 1) := by decide +kernel
theorem dX6_probes_21 : decode cX6_probes 21 = .ok (.istore_n 3, 1) := by decide +kernel
theorem dX6_probes_22 : decode cX6_probes 22 = .ok (.iload_n 3, 1) := by decide +kernel
theorem dX6_probes_23 : decode cX6_probes 23 = .ok (.bipush 16, 2) := by decide +kernel
theorem dX6_probes_25 : decode cX6_probes 25 = .ok (.if_icmp .ge 27, 3) := by decide +kernel
theorem dX6_probes_28 : decode cX6_probes 28 = .ok (.aload_n 0, 1) := by decide +kernel
theorem dX6_probes_29 : decode cX6_probes 29 = .ok (.iload_n 3, 1) := by decide +kernel
theorem dX6_probes_30 : decode cX6_probes 30 = .ok (.iload_n 2, 1) := by decide +kernel
theorem dX6_probes_31 : decode cX6_probes 31 = .ok (.invokevirtual 221, 3) := by decide +kernel
theorem dX6_probes_34 : decode cX6_probes 34 = .ok (.istore 4, 2) := by decide +kernel
theorem dX6_probes_36 : decode cX6_probes 36 = .ok (.iload 4, 2) := by decide +kernel
theorem dX6_probes_38 : decode cX6_probes 38 = .ok (.ldc 225, 2) := by decide +kernel
theorem dX6_probes_40 : decode cX6_probes 40 = .ok (.if_icmp .gt 6, 3) := by decide +kernel
theorem dX6_probes_43 : decode cX6_probes 43 = .ok (.iload 4, 2) := by decide +kernel
theorem dX6_probes_45 : decode cX6_probes 45 = .ok (.ireturn, 1) := by decide +kernel
theorem dX6_probes_46 : decode cX6_probes 46 = .ok (.iinc 3 1, 3) := by decide +kernel
theorem dX6_probes_49 : decode cX6_probes 49 = .ok (.goto (-27), 3) := by decide +kernel
theorem dX6_probes_52 : decode cX6_probes 52 = .ok (.ldc 225, 2) := by decide +kernel
theorem dX6_probes_54 : decode cX6_probes 54 = .ok (.ireturn, 1) := by decide +kernel
theorem dX6_hidden_0 : decode cX6_hidden 0 = .ok (.iload_n 1, 1) := by decide +kernel
theorem dX6_hidden_1 : decode cX6_hidden 1 = .ok (.ifCond .lt 8, 3) := by decide +kernel
theorem dX6_hidden_4 : decode cX6_hidden 4 = .ok (.iload_n 1, 1) := by decide +kernel
theorem dX6_hidden_5 : decode cX6_hidden 5 = .ok (.iconst 5, 1) := by decide +kernel
theorem dX6_hidden_6 : decode cX6_hidden 6 = .ok (.if_icmp .le 6, 3) := by decide +kernel
theorem dX6_hidden_9 : decode cX6_hidden 9 = .ok (.bipush (-2), 2) := by decide +kernel
theorem dX6_hidden_11 : decode cX6_hidden 11 = .ok (.ireturn, 1) := by decide +kernel
theorem dX6_hidden_12 : decode cX6_hidden 12 = .ok (.aload_n 0, 1) := by decide +kernel
theorem dX6_hidden_13 : decode cX6_hidden 13 = .ok (.getfield 10, 3) := by decide +kernel
theorem dX6_hidden_16 : decode cX6_hidden 16 = .ok (.getfield 115, 3) := by decide +kernel
theorem dX6_hidden_19 : decode cX6_hidden 19 = .ok (.astore_n 2, 1) := by decide +kernel
theorem dX6_hidden_20 : decode cX6_hidden 20 = .ok (.aload_n 2, 1) := by decide +kernel
theorem dX6_hidden_21 : decode cX6_hidden 21 = .ok (.invokevirtual 131, 3) := by decide +kernel
theorem dX6_hidden_24 : decode cX6_hidden 24 = .ok (.ifCond .ne 6, 3) := by decide +kernel
theorem dX6_hidden_27 : decode cX6_hidden 27 = .ok (.bipush (-4), 2) := by decide +kernel
theorem dX6_hidden_29 : decode cX6_hidden 29 = .ok (.ireturn, 1) := by decide +kernel
theorem dX6_hidden_30 : decode cX6_hidden 30 = .ok (.iload_n 1, 1) := by decide +kernel
theorem dX6_hidden_31 : decode cX6_hidden 31 = .ok (.tableswitch 48 0 2 #[25, 30, 35], 25) := by decide +kernel
theorem dX6_hidden_56 : decode cX6_hidden 56 = .ok (.aload_n 2, 1) := by decide +kernel
theorem dX6_hidden_57 : decode cX6_hidden 57 = .ok (.getfield 226, 3) := by decide +kernel
theorem dX6_hidden_60 : decode cX6_hidden 60 = .ok (.ireturn, 1) := by decide +kernel
theorem dX6_hidden_61 : decode cX6_hidden 61 = .ok (.aload_n 2, 1) := by decide +kernel
theorem dX6_hidden_62 : decode cX6_hidden 62 = .ok (.getfield 229, 3) := by decide +kernel
theorem dX6_hidden_65 : decode cX6_hidden 65 = .ok (.ireturn, 1) := by decide +kernel
theorem dX6_hidden_66 : decode cX6_hidden 66 = .ok (.aload_n 2, 1) := by decide +kernel
theorem dX6_hidden_67 : decode cX6_hidden 67 = .ok (.invokevirtual 232, 3) := by decide +kernel
theorem dX6_hidden_70 : decode cX6_hidden 70 = .ok (.ifCond .eq 7, 3) := by decide +kernel
theorem dX6_hidden_73 : decode cX6_hidden 73 = .ok (.iconst 1, 1) := by decide +kernel
theorem dX6_hidden_74 : decode cX6_hidden 74 = .ok (.goto 4, 3) := by decide +kernel
theorem dX6_hidden_77 : decode cX6_hidden 77 = .ok (.iconst 0, 1) := by decide +kernel
theorem dX6_hidden_78 : decode cX6_hidden 78 = .ok (.ireturn, 1) := by decide +kernel
theorem dX6_hidden_79 : decode cX6_hidden 79 = .ok (.aload_n 2, 1) := by decide +kernel
theorem dX6_hidden_80 : decode cX6_hidden 80 = .ok (.invokevirtual 232, 3) := by decide +kernel
theorem dX6_hidden_83 : decode cX6_hidden 83 = .ok (.ifCond .eq 8, 3) := by decide +kernel
theorem dX6_hidden_86 : decode cX6_hidden 86 = .ok (.bipush (-5), 2) := by decide +kernel
theorem dX6_hidden_88 : decode cX6_hidden 88 = .ok (.goto 8, 3) := by decide +kernel
theorem dX6_hidden_91 : decode cX6_hidden 91 = .ok (.aload_n 2, 1) := by decide +kernel
theorem dX6_hidden_92 : decode cX6_hidden 92 = .ok (.iload_n 1, 1) := by decide +kernel
theorem dX6_hidden_93 : decode cX6_hidden 93 = .ok (.invokestatic 235, 3) := by decide +kernel
theorem dX6_hidden_96 : decode cX6_hidden 96 = .ok (.ireturn, 1) := by decide +kernel
theorem dX6_split_0 : decode cX6_split 0 = .ok (.iload_n 1, 1) := by decide +kernel
theorem dX6_split_1 : decode cX6_split 1 = .ok (.invokestatic 87, 3) := by decide +kernel
theorem dX6_split_4 : decode cX6_split 4 = .ok (.ifCond .ne 5, 3) := by decide +kernel
theorem dX6_split_7 : decode cX6_split 7 = .ok (.iconst (-1), 1) := by decide +kernel
theorem dX6_split_8 : decode cX6_split 8 = .ok (.ireturn, 1) := by decide +kernel
theorem dX6_split_9 : decode cX6_split 9 = .ok (.iload_n 2, 1) := by decide +kernel
theorem dX6_split_10 : decode cX6_split 10 = .ok (.ifCond .lt 8, 3) := by decide +kernel
theorem dX6_split_13 : decode cX6_split 13 = .ok (.iload_n 2, 1) := by decide +kernel
theorem dX6_split_14 : decode cX6_split 14 = .ok (.iconst 1, 1) := by decide +kernel
theorem dX6_split_15 : decode cX6_split 15 = .ok (.if_icmp .le 6, 3) := by decide +kernel
theorem dX6_split_18 : decode cX6_split 18 = .ok (.bipush (-2), 2) := by decide +kernel
theorem dX6_split_20 : decode cX6_split 20 = .ok (.ireturn, 1) := by decide +kernel
theorem dX6_split_21 : decode cX6_split 21 = .ok (.aload_n 0, 1) := by decide +kernel
theorem dX6_split_22 : decode cX6_split 22 = .ok (.getfield 10, 3) := by decide +kernel
theorem dX6_split_25 : decode cX6_split 25 = .ok (.getfield 115, 3) := by decide +kernel
theorem dX6_split_28 : decode cX6_split 28 = .ok (.invokevirtual 131, 3) := by decide +kernel
theorem dX6_split_31 : decode cX6_split 31 = .ok (.ifCond .ne 6, 3) := by decide +kernel
theorem dX6_split_34 : decode cX6_split 34 = .ok (.bipush (-4), 2) := by decide +kernel
theorem dX6_split_36 : decode cX6_split 36 = .ok (.ireturn, 1) := by decide +kernel
theorem dX6_split_37 : decode cX6_split 37 = .ok (.iload_n 2, 1) := by decide +kernel
theorem dX6_split_38 : decode cX6_split 38 = .ok (.ifCond .ne 17, 3) := by decide +kernel
theorem dX6_split_41 : decode cX6_split 41 = .ok (.aload_n 0, 1) := by decide +kernel
theorem dX6_split_42 : decode cX6_split 42 = .ok (.getfield 10, 3) := by decide +kernel
theorem dX6_split_45 : decode cX6_split 45 = .ok (.getfield 115, 3) := by decide +kernel
theorem dX6_split_48 : decode cX6_split 48 = .ok (.iload_n 1, 1) := by decide +kernel
theorem dX6_split_49 : decode cX6_split 49 = .ok (.invokevirtual 239, 3) := by decide +kernel
theorem dX6_split_52 : decode cX6_split 52 = .ok (.goto 14, 3) := by decide +kernel
theorem dX6_split_55 : decode cX6_split 55 = .ok (.aload_n 0, 1) := by decide +kernel
theorem dX6_split_56 : decode cX6_split 56 = .ok (.getfield 10, 3) := by decide +kernel
theorem dX6_split_59 : decode cX6_split 59 = .ok (.getfield 115, 3) := by decide +kernel
theorem dX6_split_62 : decode cX6_split 62 = .ok (.iload_n 1, 1) := by decide +kernel
theorem dX6_split_63 : decode cX6_split 63 = .ok (.invokevirtual 242, 3) := by decide +kernel
theorem dX6_split_66 : decode cX6_split 66 = .ok (.ireturn, 1) := by decide +kernel
theorem dX6_count_0 : decode cX6_count 0 = .ok (.iload_n 1, 1) := by decide +kernel
theorem dX6_count_1 : decode cX6_count 1 = .ok (.tableswitch 99 0 6 #[43, 51, 59, 67, 75, 83, 88], 43) := by decide +kernel
theorem dX6_count_44 : decode cX6_count 44 = .ok (.aload_n 0, 1) := by decide +kernel
theorem dX6_count_45 : decode cX6_count 45 = .ok (.getfield 10, 3) := by decide +kernel
theorem dX6_count_48 : decode cX6_count 48 = .ok (.getfield 112, 3) := by decide +kernel
theorem dX6_count_51 : decode cX6_count 51 = .ok (.ireturn, 1) := by decide +kernel
theorem dX6_count_52 : decode cX6_count 52 = .ok (.aload_n 0, 1) := by decide +kernel
theorem dX6_count_53 : decode cX6_count 53 = .ok (.getfield 10, 3) := by decide +kernel
theorem dX6_count_56 : decode cX6_count 56 = .ok (.invokevirtual 154, 3) := by decide +kernel
theorem dX6_count_59 : decode cX6_count 59 = .ok (.ireturn, 1) := by decide +kernel
theorem dX6_count_60 : decode cX6_count 60 = .ok (.aload_n 0, 1) := by decide +kernel
theorem dX6_count_61 : decode cX6_count 61 = .ok (.getfield 10, 3) := by decide +kernel
theorem dX6_count_64 : decode cX6_count 64 = .ok (.invokevirtual 245, 3) := by decide +kernel
theorem dX6_count_67 : decode cX6_count 67 = .ok (.ireturn, 1) := by decide +kernel
theorem dX6_count_68 : decode cX6_count 68 = .ok (.aload_n 0, 1) := by decide +kernel
theorem dX6_count_69 : decode cX6_count 69 = .ok (.getfield 10, 3) := by decide +kernel
theorem dX6_count_72 : decode cX6_count 72 = .ok (.invokevirtual 248, 3) := by decide +kernel
theorem dX6_count_75 : decode cX6_count 75 = .ok (.ireturn, 1) := by decide +kernel
theorem dX6_count_76 : decode cX6_count 76 = .ok (.aload_n 0, 1) := by decide +kernel
theorem dX6_count_77 : decode cX6_count 77 = .ok (.getfield 10, 3) := by decide +kernel
theorem dX6_count_80 : decode cX6_count 80 = .ok (.invokevirtual 251, 3) := by decide +kernel
theorem dX6_count_83 : decode cX6_count 83 = .ok (.ireturn, 1) := by decide +kernel
theorem dX6_count_84 : decode cX6_count 84 = .ok (.aload_n 0, 1) := by decide +kernel
theorem dX6_count_85 : decode cX6_count 85 = .ok (.getfield 34, 3) := by decide +kernel
theorem dX6_count_88 : decode cX6_count 88 = .ok (.ireturn, 1) := by decide +kernel
theorem dX6_count_89 : decode cX6_count 89 = .ok (.aload_n 0, 1) := by decide +kernel
theorem dX6_count_90 : decode cX6_count 90 = .ok (.getfield 26, 3) := by decide +kernel
theorem dX6_count_93 : decode cX6_count 93 = .ok (.getfield 137, 3) := by decide +kernel
theorem dX6_count_96 : decode cX6_count 96 = .ok (.getfield 147, 3) := by decide +kernel
theorem dX6_count_99 : decode cX6_count 99 = .ok (.ireturn, 1) := by decide +kernel
theorem dX6_count_100 : decode cX6_count 100 = .ok (.bipush (-2), 2) := by decide +kernel
theorem dX6_count_102 : decode cX6_count 102 = .ok (.ireturn, 1) := by decide +kernel
theorem dX6_isKey_0 : decode cX6_isKey 0 = .ok (.iload_n 0, 1) := by decide +kernel
theorem dX6_isKey_1 : decode cX6_isKey 1 = .ok (.ifCond .lt 13, 3) := by decide +kernel
theorem dX6_isKey_4 : decode cX6_isKey 4 = .ok (.iload_n 0, 1) := by decide +kernel
theorem dX6_isKey_5 : decode cX6_isKey 5 = .ok (.bipush 16, 2) := by decide +kernel
theorem dX6_isKey_7 : decode cX6_isKey 7 = .ok (.if_icmp .ge 7, 3) := by decide +kernel
theorem dX6_isKey_10 : decode cX6_isKey 10 = .ok (.iconst 1, 1) := by decide +kernel
theorem dX6_isKey_11 : decode cX6_isKey 11 = .ok (.goto 4, 3) := by decide +kernel
theorem dX6_isKey_14 : decode cX6_isKey 14 = .ok (.iconst 0, 1) := by decide +kernel
theorem dX6_isKey_15 : decode cX6_isKey 15 = .ok (.ireturn, 1) := by decide +kernel
theorem dX6_isMap_0 : decode cX6_isMap 0 = .ok (.iload_n 0, 1) := by decide +kernel
theorem dX6_isMap_1 : decode cX6_isMap 1 = .ok (.ifCond .lt 13, 3) := by decide +kernel
theorem dX6_isMap_4 : decode cX6_isMap 4 = .ok (.iload_n 0, 1) := by decide +kernel
theorem dX6_isMap_5 : decode cX6_isMap 5 = .ok (.bipush 6, 2) := by decide +kernel
theorem dX6_isMap_7 : decode cX6_isMap 7 = .ok (.if_icmp .ge 7, 3) := by decide +kernel
theorem dX6_isMap_10 : decode cX6_isMap 10 = .ok (.iconst 1, 1) := by decide +kernel
theorem dX6_isMap_11 : decode cX6_isMap 11 = .ok (.goto 4, 3) := by decide +kernel
theorem dX6_isMap_14 : decode cX6_isMap 14 = .ok (.iconst 0, 1) := by decide +kernel
theorem dX6_isMap_15 : decode cX6_isMap 15 = .ok (.ireturn, 1) := by decide +kernel
theorem dX6_isLayer_0 : decode cX6_isLayer 0 = .ok (.iload_n 1, 1) := by decide +kernel
theorem dX6_isLayer_1 : decode cX6_isLayer 1 = .ok (.invokestatic 42, 3) := by decide +kernel
theorem dX6_isLayer_4 : decode cX6_isLayer 4 = .ok (.ifCond .eq 27, 3) := by decide +kernel
theorem dX6_isLayer_7 : decode cX6_isLayer 7 = .ok (.iload_n 2, 1) := by decide +kernel
theorem dX6_isLayer_8 : decode cX6_isLayer 8 = .ok (.ifCond .lt 23, 3) := by decide +kernel
theorem dX6_isLayer_11 : decode cX6_isLayer 11 = .ok (.iload_n 2, 1) := by decide +kernel
theorem dX6_isLayer_12 : decode cX6_isLayer 12 = .ok (.aload_n 0, 1) := by decide +kernel
theorem dX6_isLayer_13 : decode cX6_isLayer 13 = .ok (.getfield 10, 3) := by decide +kernel
theorem dX6_isLayer_16 : decode cX6_isLayer 16 = .ok (.getfield 50, 3) := by decide +kernel
theorem dX6_isLayer_19 : decode cX6_isLayer 19 = .ok (.iload_n 1, 1) := by decide +kernel
theorem dX6_isLayer_20 : decode cX6_isLayer 20 = .ok (.aaload, 1) := by decide +kernel
theorem dX6_isLayer_21 : decode cX6_isLayer 21 = .ok (.getfield 54, 3) := by decide +kernel
theorem dX6_isLayer_24 : decode cX6_isLayer 24 = .ok (.if_icmp .ge 7, 3) := by decide +kernel
theorem dX6_isLayer_27 : decode cX6_isLayer 27 = .ok (.iconst 1, 1) := by decide +kernel
theorem dX6_isLayer_28 : decode cX6_isLayer 28 = .ok (.goto 4, 3) := by decide +kernel
theorem dX6_isLayer_31 : decode cX6_isLayer 31 = .ok (.iconst 0, 1) := by decide +kernel
theorem dX6_isLayer_32 : decode cX6_isLayer 32 = .ok (.ireturn, 1) := by decide +kernel
theorem dX6_orNone_0 : decode cX6_orNone 0 = .ok (.iload_n 0, 1) := by decide +kernel
theorem dX6_orNone_1 : decode cX6_orNone 1 = .ok (.bipush 16, 2) := by decide +kernel
theorem dX6_orNone_3 : decode cX6_orNone 3 = .ok (.if_icmp .ne 8, 3) := by decide +kernel
theorem dX6_orNone_6 : decode cX6_orNone 6 = .ok (.bipush (-5), 2) := by decide +kernel
theorem dX6_orNone_8 : decode cX6_orNone 8 = .ok (.goto 4, 3) := by decide +kernel
theorem dX6_orNone_11 : decode cX6_orNone 11 = .ok (.iload_n 0, 1) := by decide +kernel
theorem dX6_orNone_12 : decode cX6_orNone 12 = .ok (.ireturn, 1) := by decide +kernel
theorem dX6_aboutBestKey_0 : decode cX6_aboutBestKey 0 = .ok (.aload_n 0, 1) := by decide +kernel
theorem dX6_aboutBestKey_1 : decode cX6_aboutBestKey 1 = .ok (.invokevirtual 254, 3) := by decide +kernel
theorem dX6_aboutBestKey_4 : decode cX6_aboutBestKey 4 = .ok (.istore_n 2, 1) := by decide +kernel
theorem dX6_aboutBestKey_5 : decode cX6_aboutBestKey 5 = .ok (.iload_n 1, 1) := by decide +kernel
theorem dX6_aboutBestKey_6 : decode cX6_aboutBestKey 6 = .ok (.iconst 3, 1) := by decide +kernel
theorem dX6_aboutBestKey_7 : decode cX6_aboutBestKey 7 = .ok (.if_icmp .ne 5, 3) := by decide +kernel
theorem dX6_aboutBestKey_10 : decode cX6_aboutBestKey 10 = .ok (.iload_n 2, 1) := by decide +kernel
theorem dX6_aboutBestKey_11 : decode cX6_aboutBestKey 11 = .ok (.ireturn, 1) := by decide +kernel
theorem dX6_aboutBestKey_12 : decode cX6_aboutBestKey 12 = .ok (.iload_n 1, 1) := by decide +kernel
theorem dX6_aboutBestKey_13 : decode cX6_aboutBestKey 13 = .ok (.iconst 4, 1) := by decide +kernel
theorem dX6_aboutBestKey_14 : decode cX6_aboutBestKey 14 = .ok (.if_icmp .ne 11, 3) := by decide +kernel
theorem dX6_aboutBestKey_17 : decode cX6_aboutBestKey 17 = .ok (.aload_n 0, 1) := by decide +kernel
theorem dX6_aboutBestKey_18 : decode cX6_aboutBestKey 18 = .ok (.iload_n 2, 1) := by decide +kernel
theorem dX6_aboutBestKey_19 : decode cX6_aboutBestKey 19 = .ok (.invokevirtual 242, 3) := by decide +kernel
theorem dX6_aboutBestKey_22 : decode cX6_aboutBestKey 22 = .ok (.goto 8, 3) := by decide +kernel
theorem dX6_aboutBestKey_25 : decode cX6_aboutBestKey 25 = .ok (.aload_n 0, 1) := by decide +kernel
theorem dX6_aboutBestKey_26 : decode cX6_aboutBestKey 26 = .ok (.iload_n 2, 1) := by decide +kernel
theorem dX6_aboutBestKey_27 : decode cX6_aboutBestKey 27 = .ok (.invokevirtual 239, 3) := by decide +kernel
theorem dX6_aboutBestKey_30 : decode cX6_aboutBestKey 30 = .ok (.ireturn, 1) := by decide +kernel
theorem dX6_record_0 : decode cX6_record 0 = .ok (.aload_n 0, 1) := by decide +kernel
theorem dX6_record_1 : decode cX6_record 1 = .ok (.getfield 34, 3) := by decide +kernel
theorem dX6_record_4 : decode cX6_record 4 = .ok (.iconst 4, 1) := by decide +kernel
theorem dX6_record_5 : decode cX6_record 5 = .ok (.if_icmp .lt 7, 3) := by decide +kernel
theorem dX6_record_8 : decode cX6_record 8 = .ok (.aload_n 0, 1) := by decide +kernel
theorem dX6_record_9 : decode cX6_record 9 = .ok (.invokevirtual 257, 3) := by decide +kernel
theorem dX6_record_12 : decode cX6_record 12 = .ok (.aload_n 0, 1) := by decide +kernel
theorem dX6_record_13 : decode cX6_record 13 = .ok (.getfield 16, 3) := by decide +kernel
theorem dX6_record_16 : decode cX6_record 16 = .ok (.aload_n 0, 1) := by decide +kernel
theorem dX6_record_17 : decode cX6_record 17 = .ok (.getfield 34, 3) := by decide +kernel
theorem dX6_record_20 : decode cX6_record 20 = .ok (.aaload, 1) := by decide +kernel
theorem dX6_record_21 : decode cX6_record 21 = .ok (.aload_n 0, 1) := by decide +kernel
theorem dX6_record_22 : decode cX6_record 22 = .ok (.getfield 10, 3) := by decide +kernel
theorem dX6_record_25 : decode cX6_record 25 = .ok (.invokevirtual 150, 3) := by decide +kernel
theorem dX6_record_28 : decode cX6_record 28 = .ok (.aload_n 0, 1) := by decide +kernel
theorem dX6_record_29 : decode cX6_record 29 = .ok (.dup, 1) := by decide +kernel
theorem dX6_record_30 : decode cX6_record 30 = .ok (.getfield 34, 3) := by decide +kernel
theorem dX6_record_33 : decode cX6_record 33 = .ok (.iconst 1, 1) := by decide +kernel
theorem dX6_record_34 : decode cX6_record 34 = .ok (.iadd, 1) := by decide +kernel
theorem dX6_record_35 : decode cX6_record 35 = .ok (.putfield 34, 3) := by decide +kernel
theorem dX6_record_38 : decode cX6_record 38 = .ok (.return_, 1) := by decide +kernel
theorem dX6_dropOldest_0 : decode cX6_dropOldest 0 = .ok (.aload_n 0, 1) := by decide +kernel
theorem dX6_dropOldest_1 : decode cX6_dropOldest 1 = .ok (.getfield 16, 3) := by decide +kernel
theorem dX6_dropOldest_4 : decode cX6_dropOldest 4 = .ok (.iconst 0, 1) := by decide +kernel
theorem dX6_dropOldest_5 : decode cX6_dropOldest 5 = .ok (.aaload, 1) := by decide +kernel
theorem dX6_dropOldest_6 : decode cX6_dropOldest 6 = .ok (.astore_n 1, 1) := by decide +kernel
theorem dX6_dropOldest_7 : decode cX6_dropOldest 7 = .ok (.iconst 1, 1) := by decide +kernel
theorem dX6_dropOldest_8 : decode cX6_dropOldest 8 = .ok (.istore_n 2, 1) := by decide +kernel
theorem dX6_dropOldest_9 : decode cX6_dropOldest 9 = .ok (.iload_n 2, 1) := by decide +kernel
theorem dX6_dropOldest_10 : decode cX6_dropOldest 10 = .ok (.iconst 4, 1) := by decide +kernel
theorem dX6_dropOldest_11 : decode cX6_dropOldest 11 = .ok (.if_icmp .ge 23, 3) := by decide +kernel
theorem dX6_dropOldest_14 : decode cX6_dropOldest 14 = .ok (.aload_n 0, 1) := by decide +kernel
theorem dX6_dropOldest_15 : decode cX6_dropOldest 15 = .ok (.getfield 16, 3) := by decide +kernel
theorem dX6_dropOldest_18 : decode cX6_dropOldest 18 = .ok (.iload_n 2, 1) := by decide +kernel
theorem dX6_dropOldest_19 : decode cX6_dropOldest 19 = .ok (.iconst 1, 1) := by decide +kernel
theorem dX6_dropOldest_20 : decode cX6_dropOldest 20 = .ok (.isub, 1) := by decide +kernel
theorem dX6_dropOldest_21 : decode cX6_dropOldest 21 = .ok (.aload_n 0, 1) := by decide +kernel
theorem dX6_dropOldest_22 : decode cX6_dropOldest 22 = .ok (.getfield 16, 3) := by decide +kernel
theorem dX6_dropOldest_25 : decode cX6_dropOldest 25 = .ok (.iload_n 2, 1) := by decide +kernel
theorem dX6_dropOldest_26 : decode cX6_dropOldest 26 = .ok (.aaload, 1) := by decide +kernel
theorem dX6_dropOldest_27 : decode cX6_dropOldest 27 = .ok (.aastore, 1) := by decide +kernel
theorem dX6_dropOldest_28 : decode cX6_dropOldest 28 = .ok (.iinc 2 1, 3) := by decide +kernel
theorem dX6_dropOldest_31 : decode cX6_dropOldest 31 = .ok (.goto (-22), 3) := by decide +kernel
theorem dX6_dropOldest_34 : decode cX6_dropOldest 34 = .ok (.aload_n 0, 1) := by decide +kernel
theorem dX6_dropOldest_35 : decode cX6_dropOldest 35 = .ok (.getfield 16, 3) := by decide +kernel
theorem dX6_dropOldest_38 : decode cX6_dropOldest 38 = .ok (.iconst 3, 1) := by decide +kernel
theorem dX6_dropOldest_39 : decode cX6_dropOldest 39 = .ok (.aload_n 1, 1) := by decide +kernel
theorem dX6_dropOldest_40 : decode cX6_dropOldest 40 = .ok (.aastore, 1) := by decide +kernel
theorem dX6_dropOldest_41 : decode cX6_dropOldest 41 = .ok (.aload_n 0, 1) := by decide +kernel
theorem dX6_dropOldest_42 : decode cX6_dropOldest 42 = .ok (.iconst 3, 1) := by decide +kernel
theorem dX6_dropOldest_43 : decode cX6_dropOldest 43 = .ok (.putfield 34, 3) := by decide +kernel
theorem dX6_dropOldest_46 : decode cX6_dropOldest 46 = .ok (.return_, 1) := by decide +kernel
theorem dX6_collectDifferences_0 : decode cX6_collectDifferences 0 = .ok (.iconst 0, 1) := by decide +kernel
theorem dX6_collectDifferences_1 : decode cX6_collectDifferences 1 = .ok (.istore_n 2, 1) := by decide +kernel
theorem dX6_collectDifferences_2 : decode cX6_collectDifferences 2 = .ok (.iconst 0, 1) := by decide +kernel
theorem dX6_collectDifferences_3 : decode cX6_collectDifferences 3 = .ok (.istore_n 3, 1) := by decide +kernel
theorem dX6_collectDifferences_4 : decode cX6_collectDifferences 4 = .ok (.iload_n 3, 1) := by decide +kernel
theorem dX6_collectDifferences_5 : decode cX6_collectDifferences 5 = .ok (.bipush 6, 2) := by decide +kernel
theorem dX6_collectDifferences_7 : decode cX6_collectDifferences 7 = .ok (.if_icmp .ge 111, 3) := by decide +kernel
theorem dX6_collectDifferences_10 : decode cX6_collectDifferences 10 = .ok (.iconst 0, 1) := by decide +kernel
theorem dX6_collectDifferences_11 : decode cX6_collectDifferences 11 = .ok (.istore 4, 2) := by decide +kernel
theorem dX6_collectDifferences_13 : decode cX6_collectDifferences 13 = .ok (.iload 4, 2) := by decide +kernel
theorem dX6_collectDifferences_15 : decode cX6_collectDifferences 15 = .ok (.iload_n 3, 1) := by decide +kernel
theorem dX6_collectDifferences_16 : decode cX6_collectDifferences 16 = .ok (.if_icmp .ge 96, 3) := by decide +kernel
theorem dX6_collectDifferences_19 : decode cX6_collectDifferences 19 = .ok (.iload_n 1, 1) := by decide +kernel
theorem dX6_collectDifferences_20 : decode cX6_collectDifferences 20 = .ok (.iload_n 3, 1) := by decide +kernel
theorem dX6_collectDifferences_21 : decode cX6_collectDifferences 21 = .ok (.ishr, 1) := by decide +kernel
theorem dX6_collectDifferences_22 : decode cX6_collectDifferences 22 = .ok (.iconst 1, 1) := by decide +kernel
theorem dX6_collectDifferences_23 : decode cX6_collectDifferences 23 = .ok (.iand, 1) := by decide +kernel
theorem dX6_collectDifferences_24 : decode cX6_collectDifferences 24 = .ok (.iconst 1, 1) := by decide +kernel
theorem dX6_collectDifferences_25 : decode cX6_collectDifferences 25 = .ok (.if_icmp .ne 17, 3) := by decide +kernel
theorem dX6_collectDifferences_28 : decode cX6_collectDifferences 28 = .ok (.iload_n 1, 1) := by decide +kernel
theorem dX6_collectDifferences_29 : decode cX6_collectDifferences 29 = .ok (.iload 4, 2) := by decide +kernel
theorem dX6_collectDifferences_31 : decode cX6_collectDifferences 31 = .ok (.ishr, 1) := by decide +kernel
theorem dX6_collectDifferences_32 : decode cX6_collectDifferences 32 = .ok (.iconst 1, 1) := by decide +kernel
theorem dX6_collectDifferences_33 : decode cX6_collectDifferences 33 = .ok (.iand, 1) := by decide +kernel
theorem dX6_collectDifferences_34 : decode cX6_collectDifferences 34 = .ok (.iconst 1, 1) := by decide +kernel
theorem dX6_collectDifferences_35 : decode cX6_collectDifferences 35 = .ok (.if_icmp .ne 7, 3) := by decide +kernel
theorem dX6_collectDifferences_38 : decode cX6_collectDifferences 38 = .ok (.iconst 1, 1) := by decide +kernel
theorem dX6_collectDifferences_39 : decode cX6_collectDifferences 39 = .ok (.goto 4, 3) := by decide +kernel
theorem dX6_collectDifferences_42 : decode cX6_collectDifferences 42 = .ok (.iconst 0, 1) := by decide +kernel
theorem dX6_collectDifferences_43 : decode cX6_collectDifferences 43 = .ok (.istore 5, 2) := by decide +kernel
theorem dX6_collectDifferences_45 : decode cX6_collectDifferences 45 = .ok (.iload 5, 2) := by decide +kernel
theorem dX6_collectDifferences_47 : decode cX6_collectDifferences 47 = .ok (.ifCond .eq 34, 3) := by decide +kernel
theorem dX6_collectDifferences_50 : decode cX6_collectDifferences 50 = .ok (.aload_n 0, 1) := by decide +kernel
theorem dX6_collectDifferences_51 : decode cX6_collectDifferences 51 = .ok (.getfield 10, 3) := by decide +kernel
theorem dX6_collectDifferences_54 : decode cX6_collectDifferences 54 = .ok (.getfield 50, 3) := by decide +kernel
theorem dX6_collectDifferences_57 : decode cX6_collectDifferences 57 = .ok (.iload_n 3, 1) := by decide +kernel
theorem dX6_collectDifferences_58 : decode cX6_collectDifferences 58 = .ok (.aaload, 1) := by decide +kernel
theorem dX6_collectDifferences_59 : decode cX6_collectDifferences 59 = .ok (.getfield 98, 3) := by decide +kernel
theorem dX6_collectDifferences_62 : decode cX6_collectDifferences 62 = .ok (.aload_n 0, 1) := by decide +kernel
theorem dX6_collectDifferences_63 : decode cX6_collectDifferences 63 = .ok (.getfield 10, 3) := by decide +kernel
theorem dX6_collectDifferences_66 : decode cX6_collectDifferences 66 = .ok (.getfield 50, 3) := by decide +kernel
theorem dX6_collectDifferences_69 : decode cX6_collectDifferences 69 = .ok (.iload 4, 2) := by decide +kernel
theorem dX6_collectDifferences_71 : decode cX6_collectDifferences 71 = .ok (.aaload, 1) := by decide +kernel
theorem dX6_collectDifferences_72 : decode cX6_collectDifferences 72 = .ok (.getfield 98, 3) := by decide +kernel
theorem dX6_collectDifferences_75 : decode cX6_collectDifferences 75 = .ok (.invokestatic 214, 3) := by decide +kernel
theorem dX6_collectDifferences_78 : decode cX6_collectDifferences 78 = .ok (.goto 4, 3) := by decide +kernel
theorem dX6_collectDifferences_81 : decode cX6_collectDifferences 81 = .ok (.iconst 0, 1) := by decide +kernel
theorem dX6_collectDifferences_82 : decode cX6_collectDifferences 82 = .ok (.istore 6, 2) := by decide +kernel
theorem dX6_collectDifferences_84 : decode cX6_collectDifferences 84 = .ok (.iload 6, 2) := by decide +kernel
theorem dX6_collectDifferences_86 : decode cX6_collectDifferences 86 = .ok (.ifCond .le 20, 3) := by decide +kernel
theorem dX6_collectDifferences_89 : decode cX6_collectDifferences 89 = .ok (.iload_n 2, 1) := by decide +kernel
theorem dX6_collectDifferences_90 : decode cX6_collectDifferences 90 = .ok (.bipush 15, 2) := by decide +kernel
theorem dX6_collectDifferences_92 : decode cX6_collectDifferences 92 = .ok (.if_icmp .ge 14, 3) := by decide +kernel
theorem dX6_collectDifferences_95 : decode cX6_collectDifferences 95 = .ok (.aload_n 0, 1) := by decide +kernel
theorem dX6_collectDifferences_96 : decode cX6_collectDifferences 96 = .ok (.getfield 30, 3) := by decide +kernel
theorem dX6_collectDifferences_99 : decode cX6_collectDifferences 99 = .ok (.iload_n 2, 1) := by decide +kernel
theorem dX6_collectDifferences_100 : decode cX6_collectDifferences 100 = .ok (.iload 6, 2) := by decide +kernel
theorem dX6_collectDifferences_102 : decode cX6_collectDifferences 102 = .ok (.iastore, 1) := by decide +kernel
theorem dX6_collectDifferences_103 : decode cX6_collectDifferences 103 = .ok (.iinc 2 1, 3) := by decide +kernel
theorem dX6_collectDifferences_106 : decode cX6_collectDifferences 106 = .ok (.iinc 4 1, 3) := by decide +kernel
theorem dX6_collectDifferences_109 : decode cX6_collectDifferences 109 = .ok (.goto (-96), 3) := by decide +kernel
theorem dX6_collectDifferences_112 : decode cX6_collectDifferences 112 = .ok (.iinc 3 1, 3) := by decide +kernel
theorem dX6_collectDifferences_115 : decode cX6_collectDifferences 115 = .ok (.goto (-111), 3) := by decide +kernel
theorem dX6_collectDifferences_118 : decode cX6_collectDifferences 118 = .ok (.iload_n 2, 1) := by decide +kernel
theorem dX6_collectDifferences_119 : decode cX6_collectDifferences 119 = .ok (.ireturn, 1) := by decide +kernel
theorem dX6_leastSetOfSize_0 : decode cX6_leastSetOfSize 0 = .ok (.iconst 1, 1) := by decide +kernel
theorem dX6_leastSetOfSize_1 : decode cX6_leastSetOfSize 1 = .ok (.iload_n 1, 1) := by decide +kernel
theorem dX6_leastSetOfSize_2 : decode cX6_leastSetOfSize 2 = .ok (.ishl, 1) := by decide +kernel
theorem dX6_leastSetOfSize_3 : decode cX6_leastSetOfSize 3 = .ok (.iconst 1, 1) := by decide +kernel
theorem dX6_leastSetOfSize_4 : decode cX6_leastSetOfSize 4 = .ok (.isub, 1) := by decide +kernel
theorem dX6_leastSetOfSize_5 : decode cX6_leastSetOfSize 5 = .ok (.istore_n 3, 1) := by decide +kernel
theorem dX6_leastSetOfSize_6 : decode cX6_leastSetOfSize 6 = .ok (.iconst 0, 1) := by decide +kernel
theorem dX6_leastSetOfSize_7 : decode cX6_leastSetOfSize 7 = .ok (.istore 4, 2) := by decide +kernel
theorem dX6_leastSetOfSize_9 : decode cX6_leastSetOfSize 9 = .ok (.iload 4, 2) := by decide +kernel
theorem dX6_leastSetOfSize_11 : decode cX6_leastSetOfSize 11 = .ok (.ldc 225, 2) := by decide +kernel
theorem dX6_leastSetOfSize_13 : decode cX6_leastSetOfSize 13 = .ok (.if_icmp .gt 31, 3) := by decide +kernel
theorem dX6_leastSetOfSize_16 : decode cX6_leastSetOfSize 16 = .ok (.iload_n 3, 1) := by decide +kernel
theorem dX6_leastSetOfSize_17 : decode cX6_leastSetOfSize 17 = .ok (.ldc 225, 2) := by decide +kernel
theorem dX6_leastSetOfSize_19 : decode cX6_leastSetOfSize 19 = .ok (.if_icmp .gt 25, 3) := by decide +kernel
theorem dX6_leastSetOfSize_22 : decode cX6_leastSetOfSize 22 = .ok (.aload_n 0, 1) := by decide +kernel
theorem dX6_leastSetOfSize_23 : decode cX6_leastSetOfSize 23 = .ok (.iload_n 3, 1) := by decide +kernel
theorem dX6_leastSetOfSize_24 : decode cX6_leastSetOfSize 24 = .ok (.iload_n 2, 1) := by decide +kernel
theorem dX6_leastSetOfSize_25 : decode cX6_leastSetOfSize 25 = .ok (.invokevirtual 260, 3) := by decide +kernel
theorem dX6_leastSetOfSize_28 : decode cX6_leastSetOfSize 28 = .ok (.ifCond .eq 5, 3) := by decide +kernel
theorem dX6_leastSetOfSize_31 : decode cX6_leastSetOfSize 31 = .ok (.iload_n 3, 1) := by decide +kernel
theorem dX6_leastSetOfSize_32 : decode cX6_leastSetOfSize 32 = .ok (.ireturn, 1) := by decide +kernel
theorem dX6_leastSetOfSize_33 : decode cX6_leastSetOfSize 33 = .ok (.iload_n 3, 1) := by decide +kernel
theorem dX6_leastSetOfSize_34 : decode cX6_leastSetOfSize 34 = .ok (.invokestatic 263, 3) := by decide +kernel
theorem dX6_leastSetOfSize_37 : decode cX6_leastSetOfSize 37 = .ok (.istore_n 3, 1) := by decide +kernel
theorem dX6_leastSetOfSize_38 : decode cX6_leastSetOfSize 38 = .ok (.iinc 4 1, 3) := by decide +kernel
theorem dX6_leastSetOfSize_41 : decode cX6_leastSetOfSize 41 = .ok (.goto (-32), 3) := by decide +kernel
theorem dX6_leastSetOfSize_44 : decode cX6_leastSetOfSize 44 = .ok (.ldc_w 266, 3) := by decide +kernel
theorem dX6_leastSetOfSize_47 : decode cX6_leastSetOfSize 47 = .ok (.ireturn, 1) := by decide +kernel
theorem dX6_tellsApart_0 : decode cX6_tellsApart 0 = .ok (.iconst 0, 1) := by decide +kernel
theorem dX6_tellsApart_1 : decode cX6_tellsApart 1 = .ok (.istore_n 3, 1) := by decide +kernel
theorem dX6_tellsApart_2 : decode cX6_tellsApart 2 = .ok (.iload_n 3, 1) := by decide +kernel
theorem dX6_tellsApart_3 : decode cX6_tellsApart 3 = .ok (.iload_n 2, 1) := by decide +kernel
theorem dX6_tellsApart_4 : decode cX6_tellsApart 4 = .ok (.if_icmp .ge 28, 3) := by decide +kernel
theorem dX6_tellsApart_7 : decode cX6_tellsApart 7 = .ok (.iload_n 3, 1) := by decide +kernel
theorem dX6_tellsApart_8 : decode cX6_tellsApart 8 = .ok (.bipush 15, 2) := by decide +kernel
theorem dX6_tellsApart_10 : decode cX6_tellsApart 10 = .ok (.if_icmp .ge 22, 3) := by decide +kernel
theorem dX6_tellsApart_13 : decode cX6_tellsApart 13 = .ok (.aload_n 0, 1) := by decide +kernel
theorem dX6_tellsApart_14 : decode cX6_tellsApart 14 = .ok (.getfield 30, 3) := by decide +kernel
theorem dX6_tellsApart_17 : decode cX6_tellsApart 17 = .ok (.iload_n 3, 1) := by decide +kernel
theorem dX6_tellsApart_18 : decode cX6_tellsApart 18 = .ok (.iaload, 1) := by decide +kernel
theorem dX6_tellsApart_19 : decode cX6_tellsApart 19 = .ok (.iload_n 1, 1) := by decide +kernel
theorem dX6_tellsApart_20 : decode cX6_tellsApart 20 = .ok (.iand, 1) := by decide +kernel
theorem dX6_tellsApart_21 : decode cX6_tellsApart 21 = .ok (.ifCond .ne 5, 3) := by decide +kernel
theorem dX6_tellsApart_24 : decode cX6_tellsApart 24 = .ok (.iconst 0, 1) := by decide +kernel
theorem dX6_tellsApart_25 : decode cX6_tellsApart 25 = .ok (.ireturn, 1) := by decide +kernel
theorem dX6_tellsApart_26 : decode cX6_tellsApart 26 = .ok (.iinc 3 1, 3) := by decide +kernel
theorem dX6_tellsApart_29 : decode cX6_tellsApart 29 = .ok (.goto (-27), 3) := by decide +kernel
theorem dX6_tellsApart_32 : decode cX6_tellsApart 32 = .ok (.iconst 1, 1) := by decide +kernel
theorem dX6_tellsApart_33 : decode cX6_tellsApart 33 = .ok (.ireturn, 1) := by decide +kernel
theorem dX6_nextSetOfSameSize_0 : decode cX6_nextSetOfSameSize 0 = .ok (.iload_n 0, 1) := by decide +kernel
theorem dX6_nextSetOfSameSize_1 : decode cX6_nextSetOfSameSize 1 = .ok (.iload_n 0, 1) := by decide +kernel
theorem dX6_nextSetOfSameSize_2 : decode cX6_nextSetOfSameSize 2 = .ok (.ineg, 1) := by decide +kernel
theorem dX6_nextSetOfSameSize_3 : decode cX6_nextSetOfSameSize 3 = .ok (.iand, 1) := by decide +kernel
theorem dX6_nextSetOfSameSize_4 : decode cX6_nextSetOfSameSize 4 = .ok (.istore_n 1, 1) := by decide +kernel
theorem dX6_nextSetOfSameSize_5 : decode cX6_nextSetOfSameSize 5 = .ok (.iload_n 1, 1) := by decide +kernel
theorem dX6_nextSetOfSameSize_6 : decode cX6_nextSetOfSameSize 6 = .ok (.ifCond .gt 7, 3) := by decide +kernel
theorem dX6_nextSetOfSameSize_9 : decode cX6_nextSetOfSameSize 9 = .ok (.ldc_w 266, 3) := by decide +kernel
theorem dX6_nextSetOfSameSize_12 : decode cX6_nextSetOfSameSize 12 = .ok (.ireturn, 1) := by decide +kernel
theorem dX6_nextSetOfSameSize_13 : decode cX6_nextSetOfSameSize 13 = .ok (.iload_n 0, 1) := by decide +kernel
theorem dX6_nextSetOfSameSize_14 : decode cX6_nextSetOfSameSize 14 = .ok (.iload_n 1, 1) := by decide +kernel
theorem dX6_nextSetOfSameSize_15 : decode cX6_nextSetOfSameSize 15 = .ok (.iadd, 1) := by decide +kernel
theorem dX6_nextSetOfSameSize_16 : decode cX6_nextSetOfSameSize 16 = .ok (.istore_n 2, 1) := by decide +kernel
theorem dX6_nextSetOfSameSize_17 : decode cX6_nextSetOfSameSize 17 = .ok (.iload_n 2, 1) := by decide +kernel
theorem dX6_nextSetOfSameSize_18 : decode cX6_nextSetOfSameSize 18 = .ok (.iload_n 0, 1) := by decide +kernel
theorem dX6_nextSetOfSameSize_19 : decode cX6_nextSetOfSameSize 19 = .ok (.iload_n 2, 1) := by decide +kernel
theorem dX6_nextSetOfSameSize_20 : decode cX6_nextSetOfSameSize 20 = .ok (.ixor, 1) := by decide +kernel
theorem dX6_nextSetOfSameSize_21 : decode cX6_nextSetOfSameSize 21 = .ok (.iconst 2, 1) := by decide +kernel
theorem dX6_nextSetOfSameSize_22 : decode cX6_nextSetOfSameSize 22 = .ok (.ishr, 1) := by decide +kernel
theorem dX6_nextSetOfSameSize_23 : decode cX6_nextSetOfSameSize 23 = .ok (.iload_n 1, 1) := by decide +kernel
theorem dX6_nextSetOfSameSize_24 : decode cX6_nextSetOfSameSize 24 = .ok (.idiv, 1) := by decide +kernel
theorem dX6_nextSetOfSameSize_25 : decode cX6_nextSetOfSameSize 25 = .ok (.ior, 1) := by decide +kernel
theorem dX6_nextSetOfSameSize_26 : decode cX6_nextSetOfSameSize 26 = .ok (.ireturn, 1) := by decide +kernel
theorem dX7_init_0 : decode cX7_init 0 = .ok (.aload_n 0, 1) := by decide +kernel
theorem dX7_init_1 : decode cX7_init 1 = .ok (.invokespecial 1, 3) := by decide +kernel
theorem dX7_init_4 : decode cX7_init 4 = .ok (.aload_n 0, 1) := by decide +kernel
theorem dX7_init_5 : decode cX7_init 5 = .ok (.sipush 514, 3) := by decide +kernel
theorem dX7_init_8 : decode cX7_init 8 = .ok (.newarray .int, 2) := by decide +kernel
theorem dX7_init_10 : decode cX7_init 10 = .ok (.putfield 7, 3) := by decide +kernel
theorem dX7_init_13 : decode cX7_init 13 = .ok (.aload_n 0, 1) := by decide +kernel
theorem dX7_init_14 : decode cX7_init 14 = .ok (.sipush 2056, 3) := by decide +kernel
theorem dX7_init_17 : decode cX7_init 17 = .ok (.newarray .int, 2) := by decide +kernel
theorem dX7_init_19 : decode cX7_init 19 = .ok (.putfield 13, 3) := by decide +kernel
theorem dX7_init_22 : decode cX7_init 22 = .ok (.aload_n 0, 1) := by decide +kernel
theorem dX7_init_23 : decode cX7_init 23 = .ok (.sipush 514, 3) := by decide +kernel
theorem dX7_init_26 : decode cX7_init 26 = .ok (.newarray .int, 2) := by decide +kernel
theorem dX7_init_28 : decode cX7_init 28 = .ok (.putfield 16, 3) := by decide +kernel
theorem dX7_init_31 : decode cX7_init 31 = .ok (.aload_n 0, 1) := by decide +kernel
theorem dX7_init_32 : decode cX7_init 32 = .ok (.bipush 16, 2) := by decide +kernel
theorem dX7_init_34 : decode cX7_init 34 = .ok (.newarray .int, 2) := by decide +kernel
theorem dX7_init_36 : decode cX7_init 36 = .ok (.putfield 19, 3) := by decide +kernel
theorem dX7_init_39 : decode cX7_init 39 = .ok (.aload_n 0, 1) := by decide +kernel
theorem dX7_init_40 : decode cX7_init 40 = .ok (.bipush 16, 2) := by decide +kernel
theorem dX7_init_42 : decode cX7_init 42 = .ok (.newarray .int, 2) := by decide +kernel
theorem dX7_init_44 : decode cX7_init 44 = .ok (.putfield 22, 3) := by decide +kernel
theorem dX7_init_47 : decode cX7_init 47 = .ok (.aload_n 0, 1) := by decide +kernel
theorem dX7_init_48 : decode cX7_init 48 = .ok (.bipush 60, 2) := by decide +kernel
theorem dX7_init_50 : decode cX7_init 50 = .ok (.newarray .char, 2) := by decide +kernel
theorem dX7_init_52 : decode cX7_init 52 = .ok (.putfield 25, 3) := by decide +kernel
theorem dX7_init_55 : decode cX7_init 55 = .ok (.aload_n 0, 1) := by decide +kernel
theorem dX7_init_56 : decode cX7_init 56 = .ok (.bipush 16, 2) := by decide +kernel
theorem dX7_init_58 : decode cX7_init 58 = .ok (.newarray .int, 2) := by decide +kernel
theorem dX7_init_60 : decode cX7_init 60 = .ok (.putfield 29, 3) := by decide +kernel
theorem dX7_init_63 : decode cX7_init 63 = .ok (.aload_n 0, 1) := by decide +kernel
theorem dX7_init_64 : decode cX7_init 64 = .ok (.bipush 80, 2) := by decide +kernel
theorem dX7_init_66 : decode cX7_init 66 = .ok (.newarray .int, 2) := by decide +kernel
theorem dX7_init_68 : decode cX7_init 68 = .ok (.putfield 32, 3) := by decide +kernel
theorem dX7_init_71 : decode cX7_init 71 = .ok (.aload_n 0, 1) := by decide +kernel
theorem dX7_init_72 : decode cX7_init 72 = .ok (.iconst 5, 1) := by decide +kernel
theorem dX7_init_73 : decode cX7_init 73 = .ok (.newarray .boolean, 2) := by decide +kernel
theorem dX7_init_75 : decode cX7_init 75 = .ok (.putfield 35, 3) := by decide +kernel
theorem dX7_init_78 : decode cX7_init 78 = .ok (.aload_n 0, 1) := by decide +kernel
theorem dX7_init_79 : decode cX7_init 79 = .ok (.bipush 80, 2) := by decide +kernel
theorem dX7_init_81 : decode cX7_init 81 = .ok (.newarray .int, 2) := by decide +kernel
theorem dX7_init_83 : decode cX7_init 83 = .ok (.putfield 39, 3) := by decide +kernel
theorem dX7_init_86 : decode cX7_init 86 = .ok (.aload_n 0, 1) := by decide +kernel
theorem dX7_init_87 : decode cX7_init 87 = .ok (.iconst 5, 1) := by decide +kernel
theorem dX7_init_88 : decode cX7_init 88 = .ok (.newarray .boolean, 2) := by decide +kernel
theorem dX7_init_90 : decode cX7_init 90 = .ok (.putfield 42, 3) := by decide +kernel
theorem dX7_init_93 : decode cX7_init 93 = .ok (.aload_n 0, 1) := by decide +kernel
theorem dX7_init_94 : decode cX7_init 94 = .ok (.bipush 16, 2) := by decide +kernel
theorem dX7_init_96 : decode cX7_init 96 = .ok (.newarray .int, 2) := by decide +kernel
theorem dX7_init_98 : decode cX7_init 98 = .ok (.putfield 45, 3) := by decide +kernel
theorem dX7_init_101 : decode cX7_init 101 = .ok (.aload_n 0, 1) := by decide +kernel
theorem dX7_init_102 : decode cX7_init 102 = .ok (.bipush 15, 2) := by decide +kernel
theorem dX7_init_104 : decode cX7_init 104 = .ok (.newarray .int, 2) := by decide +kernel
theorem dX7_init_106 : decode cX7_init 106 = .ok (.putfield 48, 3) := by decide +kernel
theorem dX7_init_109 : decode cX7_init 109 = .ok (.return_, 1) := by decide +kernel
theorem dX7_in_0 : decode cX7_in 0 = .ok (.iload_n 0, 1) := by decide +kernel
theorem dX7_in_1 : decode cX7_in 1 = .ok (.iload_n 1, 1) := by decide +kernel
theorem dX7_in_2 : decode cX7_in 2 = .ok (.if_icmp .lt 12, 3) := by decide +kernel
theorem dX7_in_5 : decode cX7_in 5 = .ok (.iload_n 0, 1) := by decide +kernel
theorem dX7_in_6 : decode cX7_in 6 = .ok (.iload_n 2, 1) := by decide +kernel
theorem dX7_in_7 : decode cX7_in 7 = .ok (.if_icmp .gt 7, 3) := by decide +kernel
theorem dX7_in_10 : decode cX7_in 10 = .ok (.iconst 1, 1) := by decide +kernel
theorem dX7_in_11 : decode cX7_in 11 = .ok (.goto 4, 3) := by decide +kernel
theorem dX7_in_14 : decode cX7_in 14 = .ok (.iconst 0, 1) := by decide +kernel
theorem dX7_in_15 : decode cX7_in 15 = .ok (.ireturn, 1) := by decide +kernel
theorem dX7_noMap_0 : decode cX7_noMap 0 = .ok (.iload_n 0, 1) := by decide +kernel
theorem dX7_noMap_1 : decode cX7_noMap 1 = .ok (.iconst 0, 1) := by decide +kernel
theorem dX7_noMap_2 : decode cX7_noMap 2 = .ok (.iconst 5, 1) := by decide +kernel
theorem dX7_noMap_3 : decode cX7_noMap 3 = .ok (.invokestatic 51, 3) := by decide +kernel
theorem dX7_noMap_6 : decode cX7_noMap 6 = .ok (.ifCond .ne 7, 3) := by decide +kernel
theorem dX7_noMap_9 : decode cX7_noMap 9 = .ok (.iconst 1, 1) := by decide +kernel
theorem dX7_noMap_10 : decode cX7_noMap 10 = .ok (.goto 4, 3) := by decide +kernel
theorem dX7_noMap_13 : decode cX7_noMap 13 = .ok (.iconst 0, 1) := by decide +kernel
theorem dX7_noMap_14 : decode cX7_noMap 14 = .ok (.ireturn, 1) := by decide +kernel
theorem dX7_noKey_0 : decode cX7_noKey 0 = .ok (.iload_n 0, 1) := by decide +kernel
theorem dX7_noKey_1 : decode cX7_noKey 1 = .ok (.iconst 0, 1) := by decide +kernel
theorem dX7_noKey_2 : decode cX7_noKey 2 = .ok (.bipush 15, 2) := by decide +kernel
end
section
theorem dX7_noKey_4 : decode cX7_noKey 4 = .ok (.invokestatic 51, 3) := by decide +kernel
theorem dX7_noKey_7 : decode cX7_noKey 7 = .ok (.ifCond .ne 7, 3) := by decide +kernel
theorem dX7_noKey_10 : decode cX7_noKey 10 = .ok (.iconst 1, 1) := by decide +kernel
theorem dX7_noKey_11 : decode cX7_noKey 11 = .ok (.goto 4, 3) := by decide +kernel
theorem dX7_noKey_14 : decode cX7_noKey 14 = .ok (.iconst 0, 1) := by decide +kernel
theorem dX7_noKey_15 : decode cX7_noKey 15 = .ok (.ireturn, 1) := by decide +kernel
theorem dX7_noLayer_0 : decode cX7_noLayer 0 = .ok (.iload_n 1, 1) := by decide +kernel
theorem dX7_noLayer_1 : decode cX7_noLayer 1 = .ok (.invokestatic 55, 3) := by decide +kernel
theorem dX7_noLayer_4 : decode cX7_noLayer 4 = .ok (.ifCond .ne 23, 3) := by decide +kernel
theorem dX7_noLayer_7 : decode cX7_noLayer 7 = .ok (.iload_n 2, 1) := by decide +kernel
theorem dX7_noLayer_8 : decode cX7_noLayer 8 = .ok (.iconst 0, 1) := by decide +kernel
theorem dX7_noLayer_9 : decode cX7_noLayer 9 = .ok (.aload_n 0, 1) := by decide +kernel
theorem dX7_noLayer_10 : decode cX7_noLayer 10 = .ok (.getfield 7, 3) := by decide +kernel
theorem dX7_noLayer_13 : decode cX7_noLayer 13 = .ok (.sipush 408, 3) := by decide +kernel
theorem dX7_noLayer_16 : decode cX7_noLayer 16 = .ok (.iload_n 1, 1) := by decide +kernel
theorem dX7_noLayer_17 : decode cX7_noLayer 17 = .ok (.iadd, 1) := by decide +kernel
theorem dX7_noLayer_18 : decode cX7_noLayer 18 = .ok (.iaload, 1) := by decide +kernel
theorem dX7_noLayer_19 : decode cX7_noLayer 19 = .ok (.iconst 1, 1) := by decide +kernel
theorem dX7_noLayer_20 : decode cX7_noLayer 20 = .ok (.isub, 1) := by decide +kernel
theorem dX7_noLayer_21 : decode cX7_noLayer 21 = .ok (.invokestatic 51, 3) := by decide +kernel
theorem dX7_noLayer_24 : decode cX7_noLayer 24 = .ok (.ifCond .ne 7, 3) := by decide +kernel
theorem dX7_noLayer_27 : decode cX7_noLayer 27 = .ok (.iconst 1, 1) := by decide +kernel
theorem dX7_noLayer_28 : decode cX7_noLayer 28 = .ok (.goto 4, 3) := by decide +kernel
theorem dX7_noLayer_31 : decode cX7_noLayer 31 = .ok (.iconst 0, 1) := by decide +kernel
theorem dX7_noLayer_32 : decode cX7_noLayer 32 = .ok (.ireturn, 1) := by decide +kernel
theorem dX7_cell_0 : decode cX7_cell 0 = .ok (.bipush 16, 2) := by decide +kernel
theorem dX7_cell_2 : decode cX7_cell 2 = .ok (.iconst 4, 1) := by decide +kernel
theorem dX7_cell_3 : decode cX7_cell 3 = .ok (.iload_n 0, 1) := by decide +kernel
theorem dX7_cell_4 : decode cX7_cell 4 = .ok (.imul, 1) := by decide +kernel
theorem dX7_cell_5 : decode cX7_cell 5 = .ok (.iload_n 1, 1) := by decide +kernel
theorem dX7_cell_6 : decode cX7_cell 6 = .ok (.iadd, 1) := by decide +kernel
theorem dX7_cell_7 : decode cX7_cell 7 = .ok (.imul, 1) := by decide +kernel
theorem dX7_cell_8 : decode cX7_cell 8 = .ok (.iload_n 2, 1) := by decide +kernel
theorem dX7_cell_9 : decode cX7_cell 9 = .ok (.iadd, 1) := by decide +kernel
theorem dX7_cell_10 : decode cX7_cell 10 = .ok (.ireturn, 1) := by decide +kernel
theorem dX7_isOn_0 : decode cX7_isOn 0 = .ok (.aload_n 0, 1) := by decide +kernel
theorem dX7_isOn_1 : decode cX7_isOn 1 = .ok (.getfield 7, 3) := by decide +kernel
theorem dX7_isOn_4 : decode cX7_isOn 4 = .ok (.sipush 384, 3) := by decide +kernel
theorem dX7_isOn_7 : decode cX7_isOn 7 = .ok (.iconst 4, 1) := by decide +kernel
theorem dX7_isOn_8 : decode cX7_isOn 8 = .ok (.iload_n 1, 1) := by decide +kernel
theorem dX7_isOn_9 : decode cX7_isOn 9 = .ok (.imul, 1) := by decide +kernel
theorem dX7_isOn_10 : decode cX7_isOn 10 = .ok (.iadd, 1) := by decide +kernel
theorem dX7_isOn_11 : decode cX7_isOn 11 = .ok (.iload_n 2, 1) := by decide +kernel
theorem dX7_isOn_12 : decode cX7_isOn 12 = .ok (.iadd, 1) := by decide +kernel
theorem dX7_isOn_13 : decode cX7_isOn 13 = .ok (.iaload, 1) := by decide +kernel
theorem dX7_isOn_14 : decode cX7_isOn 14 = .ok (.iconst 1, 1) := by decide +kernel
theorem dX7_isOn_15 : decode cX7_isOn 15 = .ok (.if_icmp .ne 7, 3) := by decide +kernel
theorem dX7_isOn_18 : decode cX7_isOn 18 = .ok (.iconst 1, 1) := by decide +kernel
theorem dX7_isOn_19 : decode cX7_isOn 19 = .ok (.goto 4, 3) := by decide +kernel
theorem dX7_isOn_22 : decode cX7_isOn 22 = .ok (.iconst 0, 1) := by decide +kernel
theorem dX7_isOn_23 : decode cX7_isOn 23 = .ok (.ireturn, 1) := by decide +kernel
theorem dX7_record_0 : decode cX7_record 0 = .ok (.aload_n 0, 1) := by decide +kernel
theorem dX7_record_1 : decode cX7_record 1 = .ok (.getfield 59, 3) := by decide +kernel
theorem dX7_record_4 : decode cX7_record 4 = .ok (.iconst 4, 1) := by decide +kernel
theorem dX7_record_5 : decode cX7_record 5 = .ok (.if_icmp .ne 44, 3) := by decide +kernel
theorem dX7_record_8 : decode cX7_record 8 = .ok (.iconst 0, 1) := by decide +kernel
theorem dX7_record_9 : decode cX7_record 9 = .ok (.istore_n 1, 1) := by decide +kernel
theorem dX7_record_10 : decode cX7_record 10 = .ok (.iload_n 1, 1) := by decide +kernel
theorem dX7_record_11 : decode cX7_record 11 = .ok (.sipush 1542, 3) := by decide +kernel
theorem dX7_record_14 : decode cX7_record 14 = .ok (.if_icmp .ge 25, 3) := by decide +kernel
theorem dX7_record_17 : decode cX7_record 17 = .ok (.aload_n 0, 1) := by decide +kernel
theorem dX7_record_18 : decode cX7_record 18 = .ok (.getfield 13, 3) := by decide +kernel
theorem dX7_record_21 : decode cX7_record 21 = .ok (.iload_n 1, 1) := by decide +kernel
theorem dX7_record_22 : decode cX7_record 22 = .ok (.aload_n 0, 1) := by decide +kernel
theorem dX7_record_23 : decode cX7_record 23 = .ok (.getfield 13, 3) := by decide +kernel
theorem dX7_record_26 : decode cX7_record 26 = .ok (.iload_n 1, 1) := by decide +kernel
theorem dX7_record_27 : decode cX7_record 27 = .ok (.sipush 514, 3) := by decide +kernel
theorem dX7_record_30 : decode cX7_record 30 = .ok (.iadd, 1) := by decide +kernel
theorem dX7_record_31 : decode cX7_record 31 = .ok (.iaload, 1) := by decide +kernel
theorem dX7_record_32 : decode cX7_record 32 = .ok (.iastore, 1) := by decide +kernel
theorem dX7_record_33 : decode cX7_record 33 = .ok (.iinc 1 1, 3) := by decide +kernel
theorem dX7_record_36 : decode cX7_record 36 = .ok (.goto (-26), 3) := by decide +kernel
theorem dX7_record_39 : decode cX7_record 39 = .ok (.aload_n 0, 1) := by decide +kernel
theorem dX7_record_40 : decode cX7_record 40 = .ok (.dup, 1) := by decide +kernel
theorem dX7_record_41 : decode cX7_record 41 = .ok (.getfield 59, 3) := by decide +kernel
theorem dX7_record_44 : decode cX7_record 44 = .ok (.iconst 1, 1) := by decide +kernel
theorem dX7_record_45 : decode cX7_record 45 = .ok (.isub, 1) := by decide +kernel
theorem dX7_record_46 : decode cX7_record 46 = .ok (.putfield 59, 3) := by decide +kernel
theorem dX7_record_49 : decode cX7_record 49 = .ok (.iconst 0, 1) := by decide +kernel
theorem dX7_record_50 : decode cX7_record 50 = .ok (.istore_n 1, 1) := by decide +kernel
theorem dX7_record_51 : decode cX7_record 51 = .ok (.iload_n 1, 1) := by decide +kernel
theorem dX7_record_52 : decode cX7_record 52 = .ok (.sipush 514, 3) := by decide +kernel
theorem dX7_record_55 : decode cX7_record 55 = .ok (.if_icmp .ge 30, 3) := by decide +kernel
theorem dX7_record_58 : decode cX7_record 58 = .ok (.aload_n 0, 1) := by decide +kernel
theorem dX7_record_59 : decode cX7_record 59 = .ok (.getfield 13, 3) := by decide +kernel
theorem dX7_record_62 : decode cX7_record 62 = .ok (.sipush 514, 3) := by decide +kernel
theorem dX7_record_65 : decode cX7_record 65 = .ok (.aload_n 0, 1) := by decide +kernel
theorem dX7_record_66 : decode cX7_record 66 = .ok (.getfield 59, 3) := by decide +kernel
theorem dX7_record_69 : decode cX7_record 69 = .ok (.imul, 1) := by decide +kernel
theorem dX7_record_70 : decode cX7_record 70 = .ok (.iload_n 1, 1) := by decide +kernel
theorem dX7_record_71 : decode cX7_record 71 = .ok (.iadd, 1) := by decide +kernel
theorem dX7_record_72 : decode cX7_record 72 = .ok (.aload_n 0, 1) := by decide +kernel
theorem dX7_record_73 : decode cX7_record 73 = .ok (.getfield 7, 3) := by decide +kernel
theorem dX7_record_76 : decode cX7_record 76 = .ok (.iload_n 1, 1) := by decide +kernel
theorem dX7_record_77 : decode cX7_record 77 = .ok (.iaload, 1) := by decide +kernel
theorem dX7_record_78 : decode cX7_record 78 = .ok (.iastore, 1) := by decide +kernel
theorem dX7_record_79 : decode cX7_record 79 = .ok (.iinc 1 1, 3) := by decide +kernel
theorem dX7_record_82 : decode cX7_record 82 = .ok (.goto (-31), 3) := by decide +kernel
theorem dX7_record_85 : decode cX7_record 85 = .ok (.aload_n 0, 1) := by decide +kernel
theorem dX7_record_86 : decode cX7_record 86 = .ok (.dup, 1) := by decide +kernel
theorem dX7_record_87 : decode cX7_record 87 = .ok (.getfield 59, 3) := by decide +kernel
theorem dX7_record_90 : decode cX7_record 90 = .ok (.iconst 1, 1) := by decide +kernel
theorem dX7_record_91 : decode cX7_record 91 = .ok (.iadd, 1) := by decide +kernel
theorem dX7_record_92 : decode cX7_record 92 = .ok (.putfield 59, 3) := by decide +kernel
theorem dX7_record_95 : decode cX7_record 95 = .ok (.return_, 1) := by decide +kernel
theorem dX7_bits_0 : decode cX7_bits 0 = .ok (.iconst 0, 1) := by decide +kernel
theorem dX7_bits_1 : decode cX7_bits 1 = .ok (.istore_n 1, 1) := by decide +kernel
theorem dX7_bits_2 : decode cX7_bits 2 = .ok (.iconst 0, 1) := by decide +kernel
theorem dX7_bits_3 : decode cX7_bits 3 = .ok (.istore_n 2, 1) := by decide +kernel
theorem dX7_bits_4 : decode cX7_bits 4 = .ok (.iload_n 2, 1) := by decide +kernel
theorem dX7_bits_5 : decode cX7_bits 5 = .ok (.bipush 16, 2) := by decide +kernel
theorem dX7_bits_7 : decode cX7_bits 7 = .ok (.if_icmp .ge 17, 3) := by decide +kernel
theorem dX7_bits_10 : decode cX7_bits 10 = .ok (.iload_n 1, 1) := by decide +kernel
theorem dX7_bits_11 : decode cX7_bits 11 = .ok (.iload_n 0, 1) := by decide +kernel
theorem dX7_bits_12 : decode cX7_bits 12 = .ok (.iload_n 2, 1) := by decide +kernel
theorem dX7_bits_13 : decode cX7_bits 13 = .ok (.ishr, 1) := by decide +kernel
theorem dX7_bits_14 : decode cX7_bits 14 = .ok (.iconst 1, 1) := by decide +kernel
theorem dX7_bits_15 : decode cX7_bits 15 = .ok (.iand, 1) := by decide +kernel
theorem dX7_bits_16 : decode cX7_bits 16 = .ok (.iadd, 1) := by decide +kernel
theorem dX7_bits_17 : decode cX7_bits 17 = .ok (.istore_n 1, 1) := by decide +kernel
theorem dX7_bits_18 : decode cX7_bits 18 = .ok (.iinc 2 1, 3) := by decide +kernel
theorem dX7_bits_21 : decode cX7_bits 21 = .ok (.goto (-17), 3) := by decide +kernel
theorem dX7_bits_24 : decode cX7_bits 24 = .ok (.iload_n 1, 1) := by decide +kernel
theorem dX7_bits_25 : decode cX7_bits 25 = .ok (.ireturn, 1) := by decide +kernel
theorem dX7_teller_0 : decode cX7_teller 0 = .ok (.aload_n 0, 1) := by decide +kernel
theorem dX7_teller_1 : decode cX7_teller 1 = .ok (.getfield 7, 3) := by decide +kernel
theorem dX7_teller_4 : decode cX7_teller 4 = .ok (.sipush 408, 3) := by decide +kernel
theorem dX7_teller_7 : decode cX7_teller 7 = .ok (.iload_n 1, 1) := by decide +kernel
theorem dX7_teller_8 : decode cX7_teller 8 = .ok (.iadd, 1) := by decide +kernel
theorem dX7_teller_9 : decode cX7_teller 9 = .ok (.iaload, 1) := by decide +kernel
theorem dX7_teller_10 : decode cX7_teller 10 = .ok (.iconst 1, 1) := by decide +kernel
theorem dX7_teller_11 : decode cX7_teller 11 = .ok (.isub, 1) := by decide +kernel
theorem dX7_teller_12 : decode cX7_teller 12 = .ok (.istore_n 3, 1) := by decide +kernel
theorem dX7_teller_13 : decode cX7_teller 13 = .ok (.iload_n 3, 1) := by decide +kernel
theorem dX7_teller_14 : decode cX7_teller 14 = .ok (.ifCond .lt 34, 3) := by decide +kernel
theorem dX7_teller_17 : decode cX7_teller 17 = .ok (.aload_n 0, 1) := by decide +kernel
theorem dX7_teller_18 : decode cX7_teller 18 = .ok (.iload_n 1, 1) := by decide +kernel
theorem dX7_teller_19 : decode cX7_teller 19 = .ok (.iload_n 3, 1) := by decide +kernel
theorem dX7_teller_20 : decode cX7_teller 20 = .ok (.invokevirtual 63, 3) := by decide +kernel
theorem dX7_teller_23 : decode cX7_teller 23 = .ok (.ifCond .eq 19, 3) := by decide +kernel
theorem dX7_teller_26 : decode cX7_teller 26 = .ok (.aload_n 0, 1) := by decide +kernel
theorem dX7_teller_27 : decode cX7_teller 27 = .ok (.getfield 7, 3) := by decide +kernel
theorem dX7_teller_30 : decode cX7_teller 30 = .ok (.iload_n 1, 1) := by decide +kernel
theorem dX7_teller_31 : decode cX7_teller 31 = .ok (.iload_n 3, 1) := by decide +kernel
theorem dX7_teller_32 : decode cX7_teller 32 = .ok (.iload_n 2, 1) := by decide +kernel
theorem dX7_teller_33 : decode cX7_teller 33 = .ok (.invokestatic 67, 3) := by decide +kernel
theorem dX7_teller_36 : decode cX7_teller 36 = .ok (.iaload, 1) := by decide +kernel
theorem dX7_teller_37 : decode cX7_teller 37 = .ok (.bipush 17, 2) := by decide +kernel
theorem dX7_teller_39 : decode cX7_teller 39 = .ok (.if_icmp .ne 9, 3) := by decide +kernel
theorem dX7_teller_42 : decode cX7_teller 42 = .ok (.iinc 3 (-1), 3) := by decide +kernel
theorem dX7_teller_45 : decode cX7_teller 45 = .ok (.goto (-32), 3) := by decide +kernel
theorem dX7_teller_48 : decode cX7_teller 48 = .ok (.iload_n 3, 1) := by decide +kernel
theorem dX7_teller_49 : decode cX7_teller 49 = .ok (.ifCond .ge 8, 3) := by decide +kernel
theorem dX7_teller_52 : decode cX7_teller 52 = .ok (.bipush (-5), 2) := by decide +kernel
theorem dX7_teller_54 : decode cX7_teller 54 = .ok (.goto 4, 3) := by decide +kernel
theorem dX7_teller_57 : decode cX7_teller 57 = .ok (.iload_n 3, 1) := by decide +kernel
theorem dX7_teller_58 : decode cX7_teller 58 = .ok (.ireturn, 1) := by decide +kernel
theorem dX7_value_0 : decode cX7_value 0 = .ok (.aload_n 0, 1) := by decide +kernel
theorem dX7_value_1 : decode cX7_value 1 = .ok (.iload_n 1, 1) := by decide +kernel
theorem dX7_value_2 : decode cX7_value 2 = .ok (.iload_n 2, 1) := by decide +kernel
theorem dX7_value_3 : decode cX7_value 3 = .ok (.invokevirtual 71, 3) := by decide +kernel
theorem dX7_value_6 : decode cX7_value 6 = .ok (.istore_n 3, 1) := by decide +kernel
theorem dX7_value_7 : decode cX7_value 7 = .ok (.iload_n 3, 1) := by decide +kernel
theorem dX7_value_8 : decode cX7_value 8 = .ok (.bipush (-5), 2) := by decide +kernel
theorem dX7_value_10 : decode cX7_value 10 = .ok (.if_icmp .ne 8, 3) := by decide +kernel
theorem dX7_value_13 : decode cX7_value 13 = .ok (.bipush 16, 2) := by decide +kernel
theorem dX7_value_15 : decode cX7_value 15 = .ok (.goto 14, 3) := by decide +kernel
theorem dX7_value_18 : decode cX7_value 18 = .ok (.aload_n 0, 1) := by decide +kernel
theorem dX7_value_19 : decode cX7_value 19 = .ok (.getfield 7, 3) := by decide +kernel
theorem dX7_value_22 : decode cX7_value 22 = .ok (.iload_n 1, 1) := by decide +kernel
theorem dX7_value_23 : decode cX7_value 23 = .ok (.iload_n 3, 1) := by decide +kernel
theorem dX7_value_24 : decode cX7_value 24 = .ok (.iload_n 2, 1) := by decide +kernel
theorem dX7_value_25 : decode cX7_value 25 = .ok (.invokestatic 67, 3) := by decide +kernel
theorem dX7_value_28 : decode cX7_value 28 = .ok (.iaload, 1) := by decide +kernel
theorem dX7_value_29 : decode cX7_value 29 = .ok (.ireturn, 1) := by decide +kernel
theorem dX7_remembers_0 : decode cX7_remembers 0 = .ok (.iconst 0, 1) := by decide +kernel
theorem dX7_remembers_1 : decode cX7_remembers 1 = .ok (.istore_n 2, 1) := by decide +kernel
theorem dX7_remembers_2 : decode cX7_remembers 2 = .ok (.iload_n 2, 1) := by decide +kernel
theorem dX7_remembers_3 : decode cX7_remembers 3 = .ok (.bipush 16, 2) := by decide +kernel
theorem dX7_remembers_5 : decode cX7_remembers 5 = .ok (.if_icmp .ge 21, 3) := by decide +kernel
theorem dX7_remembers_8 : decode cX7_remembers 8 = .ok (.aload_n 0, 1) := by decide +kernel
theorem dX7_remembers_9 : decode cX7_remembers 9 = .ok (.getfield 19, 3) := by decide +kernel
theorem dX7_remembers_12 : decode cX7_remembers 12 = .ok (.iload_n 2, 1) := by decide +kernel
theorem dX7_remembers_13 : decode cX7_remembers 13 = .ok (.aload_n 0, 1) := by decide +kernel
theorem dX7_remembers_14 : decode cX7_remembers 14 = .ok (.iload_n 1, 1) := by decide +kernel
theorem dX7_remembers_15 : decode cX7_remembers 15 = .ok (.iload_n 2, 1) := by decide +kernel
theorem dX7_remembers_16 : decode cX7_remembers 16 = .ok (.invokevirtual 75, 3) := by decide +kernel
theorem dX7_remembers_19 : decode cX7_remembers 19 = .ok (.iastore, 1) := by decide +kernel
theorem dX7_remembers_20 : decode cX7_remembers 20 = .ok (.iinc 2 1, 3) := by decide +kernel
theorem dX7_remembers_23 : decode cX7_remembers 23 = .ok (.goto (-21), 3) := by decide +kernel
theorem dX7_remembers_26 : decode cX7_remembers 26 = .ok (.return_, 1) := by decide +kernel
theorem dX7_changed_0 : decode cX7_changed 0 = .ok (.iconst 0, 1) := by decide +kernel
theorem dX7_changed_1 : decode cX7_changed 1 = .ok (.istore_n 2, 1) := by decide +kernel
theorem dX7_changed_2 : decode cX7_changed 2 = .ok (.iconst 0, 1) := by decide +kernel
theorem dX7_changed_3 : decode cX7_changed 3 = .ok (.istore_n 3, 1) := by decide +kernel
theorem dX7_changed_4 : decode cX7_changed 4 = .ok (.iload_n 3, 1) := by decide +kernel
theorem dX7_changed_5 : decode cX7_changed 5 = .ok (.bipush 16, 2) := by decide +kernel
theorem dX7_changed_7 : decode cX7_changed 7 = .ok (.if_icmp .ge 32, 3) := by decide +kernel
theorem dX7_changed_10 : decode cX7_changed 10 = .ok (.iload_n 2, 1) := by decide +kernel
theorem dX7_changed_11 : decode cX7_changed 11 = .ok (.aload_n 0, 1) := by decide +kernel
theorem dX7_changed_12 : decode cX7_changed 12 = .ok (.getfield 19, 3) := by decide +kernel
theorem dX7_changed_15 : decode cX7_changed 15 = .ok (.iload_n 3, 1) := by decide +kernel
theorem dX7_changed_16 : decode cX7_changed 16 = .ok (.iaload, 1) := by decide +kernel
theorem dX7_changed_17 : decode cX7_changed 17 = .ok (.aload_n 0, 1) := by decide +kernel
theorem dX7_changed_18 : decode cX7_changed 18 = .ok (.iload_n 1, 1) := by decide +kernel
theorem dX7_changed_19 : decode cX7_changed 19 = .ok (.iload_n 3, 1) := by decide +kernel
theorem dX7_changed_20 : decode cX7_changed 20 = .ok (.invokevirtual 75, 3) := by decide +kernel
theorem dX7_changed_23 : decode cX7_changed 23 = .ok (.if_icmp .ne 7, 3) := by decide +kernel
theorem dX7_changed_26 : decode cX7_changed 26 = .ok (.iconst 0, 1) := by decide +kernel
theorem dX7_changed_27 : decode cX7_changed 27 = .ok (.goto 4, 3) := by decide +kernel
theorem dX7_changed_30 : decode cX7_changed 30 = .ok (.iconst 1, 1) := by decide +kernel
theorem dX7_changed_31 : decode cX7_changed 31 = .ok (.iadd, 1) := by decide +kernel
theorem dX7_changed_32 : decode cX7_changed 32 = .ok (.istore_n 2, 1) := by decide +kernel
theorem dX7_changed_33 : decode cX7_changed 33 = .ok (.iinc 3 1, 3) := by decide +kernel
theorem dX7_changed_36 : decode cX7_changed 36 = .ok (.goto (-32), 3) := by decide +kernel
theorem dX7_changed_39 : decode cX7_changed 39 = .ok (.iload_n 2, 1) := by decide +kernel
theorem dX7_changed_40 : decode cX7_changed 40 = .ok (.ireturn, 1) := by decide +kernel
theorem dX7_entries_0 : decode cX7_entries 0 = .ok (.iconst 0, 1) := by decide +kernel
theorem dX7_entries_1 : decode cX7_entries 1 = .ok (.istore 4, 2) := by decide +kernel
theorem dX7_entries_3 : decode cX7_entries 3 = .ok (.iconst 0, 1) := by decide +kernel
theorem dX7_entries_4 : decode cX7_entries 4 = .ok (.istore 5, 2) := by decide +kernel
theorem dX7_entries_6 : decode cX7_entries 6 = .ok (.iload 5, 2) := by decide +kernel
theorem dX7_entries_8 : decode cX7_entries 8 = .ok (.bipush 16, 2) := by decide +kernel
theorem dX7_entries_10 : decode cX7_entries 10 = .ok (.if_icmp .ge 93, 3) := by decide +kernel
theorem dX7_entries_13 : decode cX7_entries 13 = .ok (.aload_n 0, 1) := by decide +kernel
theorem dX7_entries_14 : decode cX7_entries 14 = .ok (.getfield 7, 3) := by decide +kernel
theorem dX7_entries_17 : decode cX7_entries 17 = .ok (.iload_n 1, 1) := by decide +kernel
theorem dX7_entries_18 : decode cX7_entries 18 = .ok (.iload_n 2, 1) := by decide +kernel
theorem dX7_entries_19 : decode cX7_entries 19 = .ok (.iload 5, 2) := by decide +kernel
theorem dX7_entries_21 : decode cX7_entries 21 = .ok (.invokestatic 67, 3) := by decide +kernel
theorem dX7_entries_24 : decode cX7_entries 24 = .ok (.iaload, 1) := by decide +kernel
theorem dX7_entries_25 : decode cX7_entries 25 = .ok (.istore 6, 2) := by decide +kernel
theorem dX7_entries_27 : decode cX7_entries 27 = .ok (.iload 6, 2) := by decide +kernel
theorem dX7_entries_29 : decode cX7_entries 29 = .ok (.bipush 17, 2) := by decide +kernel
theorem dX7_entries_31 : decode cX7_entries 31 = .ok (.if_icmp .eq 48, 3) := by decide +kernel
theorem dX7_entries_34 : decode cX7_entries 34 = .ok (.iload_n 3, 1) := by decide +kernel
theorem dX7_entries_35 : decode cX7_entries 35 = .ok (.ifCond .eq 40, 3) := by decide +kernel
theorem dX7_entries_38 : decode cX7_entries 38 = .ok (.iload_n 3, 1) := by decide +kernel
theorem dX7_entries_39 : decode cX7_entries 39 = .ok (.iconst 1, 1) := by decide +kernel
theorem dX7_entries_40 : decode cX7_entries 40 = .ok (.if_icmp .ne 10, 3) := by decide +kernel
theorem dX7_entries_43 : decode cX7_entries 43 = .ok (.iload 6, 2) := by decide +kernel
theorem dX7_entries_45 : decode cX7_entries 45 = .ok (.bipush 16, 2) := by decide +kernel
theorem dX7_entries_47 : decode cX7_entries 47 = .ok (.if_icmp .eq 28, 3) := by decide +kernel
theorem dX7_entries_50 : decode cX7_entries 50 = .ok (.iload_n 3, 1) := by decide +kernel
theorem dX7_entries_51 : decode cX7_entries 51 = .ok (.iconst 2, 1) := by decide +kernel
theorem dX7_entries_52 : decode cX7_entries 52 = .ok (.if_icmp .ne 27, 3) := by decide +kernel
theorem dX7_entries_55 : decode cX7_entries 55 = .ok (.aload_n 0, 1) := by decide +kernel
theorem dX7_entries_56 : decode cX7_entries 56 = .ok (.iload_n 1, 1) := by decide +kernel
theorem dX7_entries_57 : decode cX7_entries 57 = .ok (.iload_n 2, 1) := by decide +kernel
theorem dX7_entries_58 : decode cX7_entries 58 = .ok (.invokevirtual 63, 3) := by decide +kernel
theorem dX7_entries_61 : decode cX7_entries 61 = .ok (.ifCond .eq 18, 3) := by decide +kernel
theorem dX7_entries_64 : decode cX7_entries 64 = .ok (.aload_n 0, 1) := by decide +kernel
theorem dX7_entries_65 : decode cX7_entries 65 = .ok (.iload_n 1, 1) := by decide +kernel
theorem dX7_entries_66 : decode cX7_entries 66 = .ok (.iload 5, 2) := by decide +kernel
theorem dX7_entries_68 : decode cX7_entries 68 = .ok (.invokevirtual 71, 3) := by decide +kernel
theorem dX7_entries_71 : decode cX7_entries 71 = .ok (.iload_n 2, 1) := by decide +kernel
theorem dX7_entries_72 : decode cX7_entries 72 = .ok (.if_icmp .eq 7, 3) := by decide +kernel
theorem dX7_entries_75 : decode cX7_entries 75 = .ok (.iconst 1, 1) := by decide +kernel
theorem dX7_entries_76 : decode cX7_entries 76 = .ok (.goto 4, 3) := by decide +kernel
theorem dX7_entries_79 : decode cX7_entries 79 = .ok (.iconst 0, 1) := by decide +kernel
theorem dX7_entries_80 : decode cX7_entries 80 = .ok (.istore 7, 2) := by decide +kernel
theorem dX7_entries_82 : decode cX7_entries 82 = .ok (.iload 4, 2) := by decide +kernel
theorem dX7_entries_84 : decode cX7_entries 84 = .ok (.iload 7, 2) := by decide +kernel
theorem dX7_entries_86 : decode cX7_entries 86 = .ok (.ifCond .eq 7, 3) := by decide +kernel
theorem dX7_entries_89 : decode cX7_entries 89 = .ok (.iconst 1, 1) := by decide +kernel
theorem dX7_entries_90 : decode cX7_entries 90 = .ok (.goto 4, 3) := by decide +kernel
theorem dX7_entries_93 : decode cX7_entries 93 = .ok (.iconst 0, 1) := by decide +kernel
theorem dX7_entries_94 : decode cX7_entries 94 = .ok (.iadd, 1) := by decide +kernel
theorem dX7_entries_95 : decode cX7_entries 95 = .ok (.istore 4, 2) := by decide +kernel
theorem dX7_entries_97 : decode cX7_entries 97 = .ok (.iinc 5 1, 3) := by decide +kernel
theorem dX7_entries_100 : decode cX7_entries 100 = .ok (.goto (-94), 3) := by decide +kernel
theorem dX7_entries_103 : decode cX7_entries 103 = .ok (.iload 4, 2) := by decide +kernel
theorem dX7_entries_105 : decode cX7_entries 105 = .ok (.ireturn, 1) := by decide +kernel
theorem dX7_shadowed_0 : decode cX7_shadowed 0 = .ok (.iconst 0, 1) := by decide +kernel
theorem dX7_shadowed_1 : decode cX7_shadowed 1 = .ok (.istore_n 2, 1) := by decide +kernel
theorem dX7_shadowed_2 : decode cX7_shadowed 2 = .ok (.iconst 0, 1) := by decide +kernel
theorem dX7_shadowed_3 : decode cX7_shadowed 3 = .ok (.istore_n 3, 1) := by decide +kernel
theorem dX7_shadowed_4 : decode cX7_shadowed 4 = .ok (.iload_n 3, 1) := by decide +kernel
theorem dX7_shadowed_5 : decode cX7_shadowed 5 = .ok (.aload_n 0, 1) := by decide +kernel
theorem dX7_shadowed_6 : decode cX7_shadowed 6 = .ok (.getfield 7, 3) := by decide +kernel
theorem dX7_shadowed_9 : decode cX7_shadowed 9 = .ok (.sipush 408, 3) := by decide +kernel
theorem dX7_shadowed_12 : decode cX7_shadowed 12 = .ok (.iload_n 1, 1) := by decide +kernel
theorem dX7_shadowed_13 : decode cX7_shadowed 13 = .ok (.iadd, 1) := by decide +kernel
theorem dX7_shadowed_14 : decode cX7_shadowed 14 = .ok (.iaload, 1) := by decide +kernel
theorem dX7_shadowed_15 : decode cX7_shadowed 15 = .ok (.if_icmp .ge 19, 3) := by decide +kernel
theorem dX7_shadowed_18 : decode cX7_shadowed 18 = .ok (.iload_n 2, 1) := by decide +kernel
theorem dX7_shadowed_19 : decode cX7_shadowed 19 = .ok (.aload_n 0, 1) := by decide +kernel
theorem dX7_shadowed_20 : decode cX7_shadowed 20 = .ok (.iload_n 1, 1) := by decide +kernel
theorem dX7_shadowed_21 : decode cX7_shadowed 21 = .ok (.iload_n 3, 1) := by decide +kernel
theorem dX7_shadowed_22 : decode cX7_shadowed 22 = .ok (.iconst 2, 1) := by decide +kernel
theorem dX7_shadowed_23 : decode cX7_shadowed 23 = .ok (.invokevirtual 78, 3) := by decide +kernel
theorem dX7_shadowed_26 : decode cX7_shadowed 26 = .ok (.iadd, 1) := by decide +kernel
theorem dX7_shadowed_27 : decode cX7_shadowed 27 = .ok (.istore_n 2, 1) := by decide +kernel
theorem dX7_shadowed_28 : decode cX7_shadowed 28 = .ok (.iinc 3 1, 3) := by decide +kernel
theorem dX7_shadowed_31 : decode cX7_shadowed 31 = .ok (.goto (-27), 3) := by decide +kernel
theorem dX7_shadowed_34 : decode cX7_shadowed 34 = .ok (.iload_n 2, 1) := by decide +kernel
theorem dX7_shadowed_35 : decode cX7_shadowed 35 = .ok (.ireturn, 1) := by decide +kernel
theorem dX7_becomes_0 : decode cX7_becomes 0 = .ok (.aload_n 0, 1) := by decide +kernel
theorem dX7_becomes_1 : decode cX7_becomes 1 = .ok (.getfield 7, 3) := by decide +kernel
theorem dX7_becomes_4 : decode cX7_becomes 4 = .ok (.sipush 408, 3) := by decide +kernel
theorem dX7_becomes_7 : decode cX7_becomes 7 = .ok (.iload_n 1, 1) := by decide +kernel
theorem dX7_becomes_8 : decode cX7_becomes 8 = .ok (.iadd, 1) := by decide +kernel
theorem dX7_becomes_9 : decode cX7_becomes 9 = .ok (.iconst 1, 1) := by decide +kernel
theorem dX7_becomes_10 : decode cX7_becomes 10 = .ok (.iastore, 1) := by decide +kernel
theorem dX7_becomes_11 : decode cX7_becomes 11 = .ok (.aload_n 0, 1) := by decide +kernel
theorem dX7_becomes_12 : decode cX7_becomes 12 = .ok (.getfield 7, 3) := by decide +kernel
theorem dX7_becomes_15 : decode cX7_becomes 15 = .ok (.sipush 384, 3) := by decide +kernel
theorem dX7_becomes_18 : decode cX7_becomes 18 = .ok (.iconst 4, 1) := by decide +kernel
theorem dX7_becomes_19 : decode cX7_becomes 19 = .ok (.iload_n 1, 1) := by decide +kernel
theorem dX7_becomes_20 : decode cX7_becomes 20 = .ok (.imul, 1) := by decide +kernel
theorem dX7_becomes_21 : decode cX7_becomes 21 = .ok (.iadd, 1) := by decide +kernel
theorem dX7_becomes_22 : decode cX7_becomes 22 = .ok (.iconst 1, 1) := by decide +kernel
theorem dX7_becomes_23 : decode cX7_becomes 23 = .ok (.iastore, 1) := by decide +kernel
theorem dX7_becomes_24 : decode cX7_becomes 24 = .ok (.iconst 0, 1) := by decide +kernel
theorem dX7_becomes_25 : decode cX7_becomes 25 = .ok (.istore_n 3, 1) := by decide +kernel
theorem dX7_becomes_26 : decode cX7_becomes 26 = .ok (.iconst 0, 1) := by decide +kernel
theorem dX7_becomes_27 : decode cX7_becomes 27 = .ok (.istore 4, 2) := by decide +kernel
theorem dX7_becomes_29 : decode cX7_becomes 29 = .ok (.iload 4, 2) := by decide +kernel
theorem dX7_becomes_31 : decode cX7_becomes 31 = .ok (.bipush 16, 2) := by decide +kernel
theorem dX7_becomes_33 : decode cX7_becomes 33 = .ok (.if_icmp .ge 56, 3) := by decide +kernel
theorem dX7_becomes_36 : decode cX7_becomes 36 = .ok (.aload_n 0, 1) := by decide +kernel
theorem dX7_becomes_37 : decode cX7_becomes 37 = .ok (.getfield 7, 3) := by decide +kernel
theorem dX7_becomes_40 : decode cX7_becomes 40 = .ok (.iload_n 1, 1) := by decide +kernel
theorem dX7_becomes_41 : decode cX7_becomes 41 = .ok (.iconst 0, 1) := by decide +kernel
theorem dX7_becomes_42 : decode cX7_becomes 42 = .ok (.iload 4, 2) := by decide +kernel
theorem dX7_becomes_44 : decode cX7_becomes 44 = .ok (.invokestatic 67, 3) := by decide +kernel
theorem dX7_becomes_47 : decode cX7_becomes 47 = .ok (.aload_n 2, 1) := by decide +kernel
theorem dX7_becomes_48 : decode cX7_becomes 48 = .ok (.iload 4, 2) := by decide +kernel
theorem dX7_becomes_50 : decode cX7_becomes 50 = .ok (.iaload, 1) := by decide +kernel
theorem dX7_becomes_51 : decode cX7_becomes 51 = .ok (.bipush 16, 2) := by decide +kernel
theorem dX7_becomes_53 : decode cX7_becomes 53 = .ok (.if_icmp .ne 8, 3) := by decide +kernel
theorem dX7_becomes_56 : decode cX7_becomes 56 = .ok (.bipush 17, 2) := by decide +kernel
theorem dX7_becomes_58 : decode cX7_becomes 58 = .ok (.goto 7, 3) := by decide +kernel
theorem dX7_becomes_61 : decode cX7_becomes 61 = .ok (.aload_n 2, 1) := by decide +kernel
theorem dX7_becomes_62 : decode cX7_becomes 62 = .ok (.iload 4, 2) := by decide +kernel
theorem dX7_becomes_64 : decode cX7_becomes 64 = .ok (.iaload, 1) := by decide +kernel
theorem dX7_becomes_65 : decode cX7_becomes 65 = .ok (.iastore, 1) := by decide +kernel
theorem dX7_becomes_66 : decode cX7_becomes 66 = .ok (.iload_n 3, 1) := by decide +kernel
theorem dX7_becomes_67 : decode cX7_becomes 67 = .ok (.aload_n 2, 1) := by decide +kernel
theorem dX7_becomes_68 : decode cX7_becomes 68 = .ok (.iload 4, 2) := by decide +kernel
theorem dX7_becomes_70 : decode cX7_becomes 70 = .ok (.iaload, 1) := by decide +kernel
theorem dX7_becomes_71 : decode cX7_becomes 71 = .ok (.bipush 16, 2) := by decide +kernel
theorem dX7_becomes_73 : decode cX7_becomes 73 = .ok (.if_icmp .ne 7, 3) := by decide +kernel
theorem dX7_becomes_76 : decode cX7_becomes 76 = .ok (.iconst 0, 1) := by decide +kernel
theorem dX7_becomes_77 : decode cX7_becomes 77 = .ok (.goto 4, 3) := by decide +kernel
theorem dX7_becomes_80 : decode cX7_becomes 80 = .ok (.iconst 1, 1) := by decide +kernel
theorem dX7_becomes_81 : decode cX7_becomes 81 = .ok (.iadd, 1) := by decide +kernel
theorem dX7_becomes_82 : decode cX7_becomes 82 = .ok (.istore_n 3, 1) := by decide +kernel
theorem dX7_becomes_83 : decode cX7_becomes 83 = .ok (.iinc 4 1, 3) := by decide +kernel
theorem dX7_becomes_86 : decode cX7_becomes 86 = .ok (.goto (-57), 3) := by decide +kernel
theorem dX7_becomes_89 : decode cX7_becomes 89 = .ok (.iload_n 3, 1) := by decide +kernel
theorem dX7_becomes_90 : decode cX7_becomes 90 = .ok (.ireturn, 1) := by decide +kernel
theorem dX7_push_0 : decode cX7_push 0 = .ok (.iload_n 1, 1) := by decide +kernel
theorem dX7_push_1 : decode cX7_push 1 = .ok (.invokestatic 55, 3) := by decide +kernel
theorem dX7_push_4 : decode cX7_push 4 = .ok (.ifCond .eq 5, 3) := by decide +kernel
theorem dX7_push_7 : decode cX7_push 7 = .ok (.iconst (-1), 1) := by decide +kernel
theorem dX7_push_8 : decode cX7_push 8 = .ok (.ireturn, 1) := by decide +kernel
theorem dX7_push_9 : decode cX7_push 9 = .ok (.aload_n 0, 1) := by decide +kernel
theorem dX7_push_10 : decode cX7_push 10 = .ok (.invokevirtual 81, 3) := by decide +kernel
theorem dX7_push_13 : decode cX7_push 13 = .ok (.ifCond .ne 11, 3) := by decide +kernel
theorem dX7_push_16 : decode cX7_push 16 = .ok (.bipush (-100), 2) := by decide +kernel
theorem dX7_push_18 : decode cX7_push 18 = .ok (.aload_n 0, 1) := by decide +kernel
theorem dX7_push_19 : decode cX7_push 19 = .ok (.getfield 85, 3) := by decide +kernel
theorem dX7_push_22 : decode cX7_push 22 = .ok (.isub, 1) := by decide +kernel
theorem dX7_push_23 : decode cX7_push 23 = .ok (.ireturn, 1) := by decide +kernel
theorem dX7_push_24 : decode cX7_push 24 = .ok (.aload_n 0, 1) := by decide +kernel
theorem dX7_push_25 : decode cX7_push 25 = .ok (.getfield 7, 3) := by decide +kernel
theorem dX7_push_28 : decode cX7_push 28 = .ok (.sipush 408, 3) := by decide +kernel
theorem dX7_push_31 : decode cX7_push 31 = .ok (.iload_n 1, 1) := by decide +kernel
theorem dX7_push_32 : decode cX7_push 32 = .ok (.iadd, 1) := by decide +kernel
theorem dX7_push_33 : decode cX7_push 33 = .ok (.iaload, 1) := by decide +kernel
theorem dX7_push_34 : decode cX7_push 34 = .ok (.istore_n 2, 1) := by decide +kernel
theorem dX7_push_35 : decode cX7_push 35 = .ok (.iload_n 2, 1) := by decide +kernel
theorem dX7_push_36 : decode cX7_push 36 = .ok (.iconst 4, 1) := by decide +kernel
theorem dX7_push_37 : decode cX7_push 37 = .ok (.if_icmp .ne 6, 3) := by decide +kernel
theorem dX7_push_40 : decode cX7_push 40 = .ok (.bipush (-3), 2) := by decide +kernel
theorem dX7_push_42 : decode cX7_push 42 = .ok (.ireturn, 1) := by decide +kernel
theorem dX7_push_43 : decode cX7_push 43 = .ok (.aload_n 0, 1) := by decide +kernel
theorem dX7_push_44 : decode cX7_push 44 = .ok (.invokevirtual 88, 3) := by decide +kernel
theorem dX7_push_47 : decode cX7_push 47 = .ok (.iconst 0, 1) := by decide +kernel
theorem dX7_push_48 : decode cX7_push 48 = .ok (.istore_n 3, 1) := by decide +kernel
theorem dX7_push_49 : decode cX7_push 49 = .ok (.iload_n 3, 1) := by decide +kernel
theorem dX7_push_50 : decode cX7_push 50 = .ok (.bipush 16, 2) := by decide +kernel
theorem dX7_push_52 : decode cX7_push 52 = .ok (.if_icmp .ge 26, 3) := by decide +kernel
theorem dX7_push_55 : decode cX7_push 55 = .ok (.aload_n 0, 1) := by decide +kernel
theorem dX7_push_56 : decode cX7_push 56 = .ok (.getfield 7, 3) := by decide +kernel
theorem dX7_push_59 : decode cX7_push 59 = .ok (.iload_n 1, 1) := by decide +kernel
theorem dX7_push_60 : decode cX7_push 60 = .ok (.iload_n 2, 1) := by decide +kernel
theorem dX7_push_61 : decode cX7_push 61 = .ok (.iload_n 3, 1) := by decide +kernel
theorem dX7_push_62 : decode cX7_push 62 = .ok (.invokestatic 67, 3) := by decide +kernel
theorem dX7_push_65 : decode cX7_push 65 = .ok (.aload_n 0, 1) := by decide +kernel
theorem dX7_push_66 : decode cX7_push 66 = .ok (.getfield 22, 3) := by decide +kernel
theorem dX7_push_69 : decode cX7_push 69 = .ok (.iload_n 3, 1) := by decide +kernel
theorem dX7_push_70 : decode cX7_push 70 = .ok (.iaload, 1) := by decide +kernel
theorem dX7_push_71 : decode cX7_push 71 = .ok (.iastore, 1) := by decide +kernel
theorem dX7_push_72 : decode cX7_push 72 = .ok (.iinc 3 1, 3) := by decide +kernel
theorem dX7_push_75 : decode cX7_push 75 = .ok (.goto (-26), 3) := by decide +kernel
theorem dX7_push_78 : decode cX7_push 78 = .ok (.aload_n 0, 1) := by decide +kernel
theorem dX7_push_79 : decode cX7_push 79 = .ok (.getfield 7, 3) := by decide +kernel
theorem dX7_push_82 : decode cX7_push 82 = .ok (.sipush 384, 3) := by decide +kernel
theorem dX7_push_85 : decode cX7_push 85 = .ok (.iconst 4, 1) := by decide +kernel
theorem dX7_push_86 : decode cX7_push 86 = .ok (.iload_n 1, 1) := by decide +kernel
theorem dX7_push_87 : decode cX7_push 87 = .ok (.imul, 1) := by decide +kernel
theorem dX7_push_88 : decode cX7_push 88 = .ok (.iadd, 1) := by decide +kernel
theorem dX7_push_89 : decode cX7_push 89 = .ok (.iload_n 2, 1) := by decide +kernel
theorem dX7_push_90 : decode cX7_push 90 = .ok (.iadd, 1) := by decide +kernel
theorem dX7_push_91 : decode cX7_push 91 = .ok (.iconst 1, 1) := by decide +kernel
theorem dX7_push_92 : decode cX7_push 92 = .ok (.iastore, 1) := by decide +kernel
theorem dX7_push_93 : decode cX7_push 93 = .ok (.aload_n 0, 1) := by decide +kernel
theorem dX7_push_94 : decode cX7_push 94 = .ok (.getfield 7, 3) := by decide +kernel
theorem dX7_push_97 : decode cX7_push 97 = .ok (.sipush 408, 3) := by decide +kernel
theorem dX7_push_100 : decode cX7_push 100 = .ok (.iload_n 1, 1) := by decide +kernel
theorem dX7_push_101 : decode cX7_push 101 = .ok (.iadd, 1) := by decide +kernel
theorem dX7_push_102 : decode cX7_push 102 = .ok (.dup2, 1) := by decide +kernel
theorem dX7_push_103 : decode cX7_push 103 = .ok (.iaload, 1) := by decide +kernel
theorem dX7_push_104 : decode cX7_push 104 = .ok (.iconst 1, 1) := by decide +kernel
theorem dX7_push_105 : decode cX7_push 105 = .ok (.iadd, 1) := by decide +kernel
theorem dX7_push_106 : decode cX7_push 106 = .ok (.iastore, 1) := by decide +kernel
theorem dX7_push_107 : decode cX7_push 107 = .ok (.aload_n 0, 1) := by decide +kernel
theorem dX7_push_108 : decode cX7_push 108 = .ok (.getfield 7, 3) := by decide +kernel
theorem dX7_push_111 : decode cX7_push 111 = .ok (.sipush 408, 3) := by decide +kernel
theorem dX7_push_114 : decode cX7_push 114 = .ok (.iload_n 1, 1) := by decide +kernel
theorem dX7_push_115 : decode cX7_push 115 = .ok (.iadd, 1) := by decide +kernel
theorem dX7_push_116 : decode cX7_push 116 = .ok (.iaload, 1) := by decide +kernel
theorem dX7_push_117 : decode cX7_push 117 = .ok (.ireturn, 1) := by decide +kernel
theorem dX7_pop_0 : decode cX7_pop 0 = .ok (.iload_n 1, 1) := by decide +kernel
theorem dX7_pop_1 : decode cX7_pop 1 = .ok (.invokestatic 55, 3) := by decide +kernel
theorem dX7_pop_4 : decode cX7_pop 4 = .ok (.ifCond .eq 5, 3) := by decide +kernel
theorem dX7_pop_7 : decode cX7_pop 7 = .ok (.iconst (-1), 1) := by decide +kernel
theorem dX7_pop_8 : decode cX7_pop 8 = .ok (.ireturn, 1) := by decide +kernel
theorem dX7_pop_9 : decode cX7_pop 9 = .ok (.aload_n 0, 1) := by decide +kernel
theorem dX7_pop_10 : decode cX7_pop 10 = .ok (.getfield 7, 3) := by decide +kernel
theorem dX7_pop_13 : decode cX7_pop 13 = .ok (.sipush 408, 3) := by decide +kernel
theorem dX7_pop_16 : decode cX7_pop 16 = .ok (.iload_n 1, 1) := by decide +kernel
theorem dX7_pop_17 : decode cX7_pop 17 = .ok (.iadd, 1) := by decide +kernel
theorem dX7_pop_18 : decode cX7_pop 18 = .ok (.iaload, 1) := by decide +kernel
theorem dX7_pop_19 : decode cX7_pop 19 = .ok (.ifCond .ne 6, 3) := by decide +kernel
theorem dX7_pop_22 : decode cX7_pop 22 = .ok (.bipush (-5), 2) := by decide +kernel
theorem dX7_pop_24 : decode cX7_pop 24 = .ok (.ireturn, 1) := by decide +kernel
theorem dX7_pop_25 : decode cX7_pop 25 = .ok (.aload_n 0, 1) := by decide +kernel
theorem dX7_pop_26 : decode cX7_pop 26 = .ok (.invokevirtual 88, 3) := by decide +kernel
theorem dX7_pop_29 : decode cX7_pop 29 = .ok (.aload_n 0, 1) := by decide +kernel
theorem dX7_pop_30 : decode cX7_pop 30 = .ok (.getfield 7, 3) := by decide +kernel
theorem dX7_pop_33 : decode cX7_pop 33 = .ok (.sipush 408, 3) := by decide +kernel
theorem dX7_pop_36 : decode cX7_pop 36 = .ok (.iload_n 1, 1) := by decide +kernel
theorem dX7_pop_37 : decode cX7_pop 37 = .ok (.iadd, 1) := by decide +kernel
theorem dX7_pop_38 : decode cX7_pop 38 = .ok (.dup2, 1) := by decide +kernel
theorem dX7_pop_39 : decode cX7_pop 39 = .ok (.iaload, 1) := by decide +kernel
theorem dX7_pop_40 : decode cX7_pop 40 = .ok (.iconst 1, 1) := by decide +kernel
theorem dX7_pop_41 : decode cX7_pop 41 = .ok (.isub, 1) := by decide +kernel
theorem dX7_pop_42 : decode cX7_pop 42 = .ok (.iastore, 1) := by decide +kernel
theorem dX7_pop_43 : decode cX7_pop 43 = .ok (.aload_n 0, 1) := by decide +kernel
theorem dX7_pop_44 : decode cX7_pop 44 = .ok (.iload_n 1, 1) := by decide +kernel
theorem dX7_pop_45 : decode cX7_pop 45 = .ok (.aload_n 0, 1) := by decide +kernel
theorem dX7_pop_46 : decode cX7_pop 46 = .ok (.getfield 7, 3) := by decide +kernel
theorem dX7_pop_49 : decode cX7_pop 49 = .ok (.sipush 408, 3) := by decide +kernel
theorem dX7_pop_52 : decode cX7_pop 52 = .ok (.iload_n 1, 1) := by decide +kernel
theorem dX7_pop_53 : decode cX7_pop 53 = .ok (.iadd, 1) := by decide +kernel
theorem dX7_pop_54 : decode cX7_pop 54 = .ok (.iaload, 1) := by decide +kernel
theorem dX7_pop_55 : decode cX7_pop 55 = .ok (.iconst 0, 1) := by decide +kernel
theorem dX7_pop_56 : decode cX7_pop 56 = .ok (.invokevirtual 78, 3) := by decide +kernel
theorem dX7_pop_59 : decode cX7_pop 59 = .ok (.ireturn, 1) := by decide +kernel
theorem dX7_turn_0 : decode cX7_turn 0 = .ok (.aload_n 0, 1) := by decide +kernel
theorem dX7_turn_1 : decode cX7_turn 1 = .ok (.iload_n 1, 1) := by decide +kernel
theorem dX7_turn_2 : decode cX7_turn 2 = .ok (.iload_n 2, 1) := by decide +kernel
theorem dX7_turn_3 : decode cX7_turn 3 = .ok (.invokevirtual 91, 3) := by decide +kernel
theorem dX7_turn_6 : decode cX7_turn 6 = .ok (.ifCond .eq 5, 3) := by decide +kernel
theorem dX7_turn_9 : decode cX7_turn 9 = .ok (.iconst (-1), 1) := by decide +kernel
theorem dX7_turn_10 : decode cX7_turn 10 = .ok (.ireturn, 1) := by decide +kernel
theorem dX7_turn_11 : decode cX7_turn 11 = .ok (.aload_n 0, 1) := by decide +kernel
theorem dX7_turn_12 : decode cX7_turn 12 = .ok (.iload_n 1, 1) := by decide +kernel
theorem dX7_turn_13 : decode cX7_turn 13 = .ok (.iload_n 2, 1) := by decide +kernel
theorem dX7_turn_14 : decode cX7_turn 14 = .ok (.invokevirtual 63, 3) := by decide +kernel
theorem dX7_turn_17 : decode cX7_turn 17 = .ok (.iload_n 3, 1) := by decide +kernel
theorem dX7_turn_18 : decode cX7_turn 18 = .ok (.if_icmp .ne 6, 3) := by decide +kernel
theorem dX7_turn_21 : decode cX7_turn 21 = .ok (.bipush (-5), 2) := by decide +kernel
theorem dX7_turn_23 : decode cX7_turn 23 = .ok (.ireturn, 1) := by decide +kernel
theorem dX7_turn_24 : decode cX7_turn 24 = .ok (.aload_n 0, 1) := by decide +kernel
theorem dX7_turn_25 : decode cX7_turn 25 = .ok (.invokevirtual 88, 3) := by decide +kernel
theorem dX7_turn_28 : decode cX7_turn 28 = .ok (.aload_n 0, 1) := by decide +kernel
theorem dX7_turn_29 : decode cX7_turn 29 = .ok (.iload_n 1, 1) := by decide +kernel
theorem dX7_turn_30 : decode cX7_turn 30 = .ok (.invokevirtual 94, 3) := by decide +kernel
theorem dX7_turn_33 : decode cX7_turn 33 = .ok (.aload_n 0, 1) := by decide +kernel
theorem dX7_turn_34 : decode cX7_turn 34 = .ok (.getfield 7, 3) := by decide +kernel
theorem dX7_turn_37 : decode cX7_turn 37 = .ok (.sipush 384, 3) := by decide +kernel
theorem dX7_turn_40 : decode cX7_turn 40 = .ok (.iconst 4, 1) := by decide +kernel
theorem dX7_turn_41 : decode cX7_turn 41 = .ok (.iload_n 1, 1) := by decide +kernel
theorem dX7_turn_42 : decode cX7_turn 42 = .ok (.imul, 1) := by decide +kernel
theorem dX7_turn_43 : decode cX7_turn 43 = .ok (.iadd, 1) := by decide +kernel
theorem dX7_turn_44 : decode cX7_turn 44 = .ok (.iload_n 2, 1) := by decide +kernel
theorem dX7_turn_45 : decode cX7_turn 45 = .ok (.iadd, 1) := by decide +kernel
theorem dX7_turn_46 : decode cX7_turn 46 = .ok (.iload_n 3, 1) := by decide +kernel
theorem dX7_turn_47 : decode cX7_turn 47 = .ok (.ifCond .eq 7, 3) := by decide +kernel
theorem dX7_turn_50 : decode cX7_turn 50 = .ok (.iconst 1, 1) := by decide +kernel
theorem dX7_turn_51 : decode cX7_turn 51 = .ok (.goto 4, 3) := by decide +kernel
theorem dX7_turn_54 : decode cX7_turn 54 = .ok (.iconst 0, 1) := by decide +kernel
theorem dX7_turn_55 : decode cX7_turn 55 = .ok (.iastore, 1) := by decide +kernel
theorem dX7_turn_56 : decode cX7_turn 56 = .ok (.aload_n 0, 1) := by decide +kernel
theorem dX7_turn_57 : decode cX7_turn 57 = .ok (.iload_n 1, 1) := by decide +kernel
theorem dX7_turn_58 : decode cX7_turn 58 = .ok (.invokevirtual 98, 3) := by decide +kernel
theorem dX7_turn_61 : decode cX7_turn 61 = .ok (.ireturn, 1) := by decide +kernel
theorem dX7_swaps_0 : decode cX7_swaps 0 = .ok (.iconst 0, 1) := by decide +kernel
theorem dX7_swaps_1 : decode cX7_swaps 1 = .ok (.istore 4, 2) := by decide +kernel
theorem dX7_swaps_3 : decode cX7_swaps 3 = .ok (.iload 4, 2) := by decide +kernel
theorem dX7_swaps_5 : decode cX7_swaps 5 = .ok (.bipush 16, 2) := by decide +kernel
theorem dX7_swaps_7 : decode cX7_swaps 7 = .ok (.if_icmp .ge 61, 3) := by decide +kernel
theorem dX7_swaps_10 : decode cX7_swaps 10 = .ok (.aload_n 0, 1) := by decide +kernel
theorem dX7_swaps_11 : decode cX7_swaps 11 = .ok (.getfield 7, 3) := by decide +kernel
theorem dX7_swaps_14 : decode cX7_swaps 14 = .ok (.iload_n 1, 1) := by decide +kernel
theorem dX7_swaps_15 : decode cX7_swaps 15 = .ok (.iload_n 2, 1) := by decide +kernel
theorem dX7_swaps_16 : decode cX7_swaps 16 = .ok (.iload 4, 2) := by decide +kernel
theorem dX7_swaps_18 : decode cX7_swaps 18 = .ok (.invokestatic 67, 3) := by decide +kernel
theorem dX7_swaps_21 : decode cX7_swaps 21 = .ok (.iaload, 1) := by decide +kernel
theorem dX7_swaps_22 : decode cX7_swaps 22 = .ok (.istore 5, 2) := by decide +kernel
theorem dX7_swaps_24 : decode cX7_swaps 24 = .ok (.aload_n 0, 1) := by decide +kernel
theorem dX7_swaps_25 : decode cX7_swaps 25 = .ok (.getfield 7, 3) := by decide +kernel
theorem dX7_swaps_28 : decode cX7_swaps 28 = .ok (.iload_n 1, 1) := by decide +kernel
theorem dX7_swaps_29 : decode cX7_swaps 29 = .ok (.iload_n 2, 1) := by decide +kernel
theorem dX7_swaps_30 : decode cX7_swaps 30 = .ok (.iload 4, 2) := by decide +kernel
theorem dX7_swaps_32 : decode cX7_swaps 32 = .ok (.invokestatic 67, 3) := by decide +kernel
theorem dX7_swaps_35 : decode cX7_swaps 35 = .ok (.aload_n 0, 1) := by decide +kernel
theorem dX7_swaps_36 : decode cX7_swaps 36 = .ok (.getfield 7, 3) := by decide +kernel
theorem dX7_swaps_39 : decode cX7_swaps 39 = .ok (.iload_n 1, 1) := by decide +kernel
theorem dX7_swaps_40 : decode cX7_swaps 40 = .ok (.iload_n 3, 1) := by decide +kernel
theorem dX7_swaps_41 : decode cX7_swaps 41 = .ok (.iload 4, 2) := by decide +kernel
theorem dX7_swaps_43 : decode cX7_swaps 43 = .ok (.invokestatic 67, 3) := by decide +kernel
theorem dX7_swaps_46 : decode cX7_swaps 46 = .ok (.iaload, 1) := by decide +kernel
theorem dX7_swaps_47 : decode cX7_swaps 47 = .ok (.iastore, 1) := by decide +kernel
theorem dX7_swaps_48 : decode cX7_swaps 48 = .ok (.aload_n 0, 1) := by decide +kernel
theorem dX7_swaps_49 : decode cX7_swaps 49 = .ok (.getfield 7, 3) := by decide +kernel
theorem dX7_swaps_52 : decode cX7_swaps 52 = .ok (.iload_n 1, 1) := by decide +kernel
theorem dX7_swaps_53 : decode cX7_swaps 53 = .ok (.iload_n 3, 1) := by decide +kernel
theorem dX7_swaps_54 : decode cX7_swaps 54 = .ok (.iload 4, 2) := by decide +kernel
theorem dX7_swaps_56 : decode cX7_swaps 56 = .ok (.invokestatic 67, 3) := by decide +kernel
theorem dX7_swaps_59 : decode cX7_swaps 59 = .ok (.iload 5, 2) := by decide +kernel
theorem dX7_swaps_61 : decode cX7_swaps 61 = .ok (.iastore, 1) := by decide +kernel
theorem dX7_swaps_62 : decode cX7_swaps 62 = .ok (.iinc 4 1, 3) := by decide +kernel
theorem dX7_swaps_65 : decode cX7_swaps 65 = .ok (.goto (-62), 3) := by decide +kernel
theorem dX7_swaps_68 : decode cX7_swaps 68 = .ok (.aload_n 0, 1) := by decide +kernel
theorem dX7_swaps_69 : decode cX7_swaps 69 = .ok (.getfield 7, 3) := by decide +kernel
theorem dX7_swaps_72 : decode cX7_swaps 72 = .ok (.sipush 384, 3) := by decide +kernel
theorem dX7_swaps_75 : decode cX7_swaps 75 = .ok (.iconst 4, 1) := by decide +kernel
theorem dX7_swaps_76 : decode cX7_swaps 76 = .ok (.iload_n 1, 1) := by decide +kernel
theorem dX7_swaps_77 : decode cX7_swaps 77 = .ok (.imul, 1) := by decide +kernel
theorem dX7_swaps_78 : decode cX7_swaps 78 = .ok (.iadd, 1) := by decide +kernel
theorem dX7_swaps_79 : decode cX7_swaps 79 = .ok (.iload_n 2, 1) := by decide +kernel
theorem dX7_swaps_80 : decode cX7_swaps 80 = .ok (.iadd, 1) := by decide +kernel
theorem dX7_swaps_81 : decode cX7_swaps 81 = .ok (.iaload, 1) := by decide +kernel
theorem dX7_swaps_82 : decode cX7_swaps 82 = .ok (.istore 4, 2) := by decide +kernel
theorem dX7_swaps_84 : decode cX7_swaps 84 = .ok (.aload_n 0, 1) := by decide +kernel
theorem dX7_swaps_85 : decode cX7_swaps 85 = .ok (.getfield 7, 3) := by decide +kernel
theorem dX7_swaps_88 : decode cX7_swaps 88 = .ok (.sipush 384, 3) := by decide +kernel
theorem dX7_swaps_91 : decode cX7_swaps 91 = .ok (.iconst 4, 1) := by decide +kernel
theorem dX7_swaps_92 : decode cX7_swaps 92 = .ok (.iload_n 1, 1) := by decide +kernel
theorem dX7_swaps_93 : decode cX7_swaps 93 = .ok (.imul, 1) := by decide +kernel
theorem dX7_swaps_94 : decode cX7_swaps 94 = .ok (.iadd, 1) := by decide +kernel
theorem dX7_swaps_95 : decode cX7_swaps 95 = .ok (.iload_n 2, 1) := by decide +kernel
theorem dX7_swaps_96 : decode cX7_swaps 96 = .ok (.iadd, 1) := by decide +kernel
theorem dX7_swaps_97 : decode cX7_swaps 97 = .ok (.aload_n 0, 1) := by decide +kernel
theorem dX7_swaps_98 : decode cX7_swaps 98 = .ok (.getfield 7, 3) := by decide +kernel
theorem dX7_swaps_101 : decode cX7_swaps 101 = .ok (.sipush 384, 3) := by decide +kernel
theorem dX7_swaps_104 : decode cX7_swaps 104 = .ok (.iconst 4, 1) := by decide +kernel
theorem dX7_swaps_105 : decode cX7_swaps 105 = .ok (.iload_n 1, 1) := by decide +kernel
theorem dX7_swaps_106 : decode cX7_swaps 106 = .ok (.imul, 1) := by decide +kernel
theorem dX7_swaps_107 : decode cX7_swaps 107 = .ok (.iadd, 1) := by decide +kernel
theorem dX7_swaps_108 : decode cX7_swaps 108 = .ok (.iload_n 3, 1) := by decide +kernel
theorem dX7_swaps_109 : decode cX7_swaps 109 = .ok (.iadd, 1) := by decide +kernel
theorem dX7_swaps_110 : decode cX7_swaps 110 = .ok (.iaload, 1) := by decide +kernel
theorem dX7_swaps_111 : decode cX7_swaps 111 = .ok (.iastore, 1) := by decide +kernel
theorem dX7_swaps_112 : decode cX7_swaps 112 = .ok (.aload_n 0, 1) := by decide +kernel
theorem dX7_swaps_113 : decode cX7_swaps 113 = .ok (.getfield 7, 3) := by decide +kernel
theorem dX7_swaps_116 : decode cX7_swaps 116 = .ok (.sipush 384, 3) := by decide +kernel
theorem dX7_swaps_119 : decode cX7_swaps 119 = .ok (.iconst 4, 1) := by decide +kernel
theorem dX7_swaps_120 : decode cX7_swaps 120 = .ok (.iload_n 1, 1) := by decide +kernel
theorem dX7_swaps_121 : decode cX7_swaps 121 = .ok (.imul, 1) := by decide +kernel
theorem dX7_swaps_122 : decode cX7_swaps 122 = .ok (.iadd, 1) := by decide +kernel
theorem dX7_swaps_123 : decode cX7_swaps 123 = .ok (.iload_n 3, 1) := by decide +kernel
theorem dX7_swaps_124 : decode cX7_swaps 124 = .ok (.iadd, 1) := by decide +kernel
theorem dX7_swaps_125 : decode cX7_swaps 125 = .ok (.iload 4, 2) := by decide +kernel
theorem dX7_swaps_127 : decode cX7_swaps 127 = .ok (.iastore, 1) := by decide +kernel
theorem dX7_swaps_128 : decode cX7_swaps 128 = .ok (.return_, 1) := by decide +kernel
theorem dX7_lift_0 : decode cX7_lift 0 = .ok (.aload_n 0, 1) := by decide +kernel
theorem dX7_lift_1 : decode cX7_lift 1 = .ok (.iload_n 1, 1) := by decide +kernel
theorem dX7_lift_2 : decode cX7_lift 2 = .ok (.iload_n 2, 1) := by decide +kernel
theorem dX7_lift_3 : decode cX7_lift 3 = .ok (.invokevirtual 91, 3) := by decide +kernel
theorem dX7_lift_6 : decode cX7_lift 6 = .ok (.ifCond .eq 5, 3) := by decide +kernel
theorem dX7_lift_9 : decode cX7_lift 9 = .ok (.iconst (-1), 1) := by decide +kernel
theorem dX7_lift_10 : decode cX7_lift 10 = .ok (.ireturn, 1) := by decide +kernel
theorem dX7_lift_11 : decode cX7_lift 11 = .ok (.iload_n 3, 1) := by decide +kernel
theorem dX7_lift_12 : decode cX7_lift 12 = .ok (.iconst 0, 1) := by decide +kernel
theorem dX7_lift_13 : decode cX7_lift 13 = .ok (.aload_n 0, 1) := by decide +kernel
theorem dX7_lift_14 : decode cX7_lift 14 = .ok (.getfield 7, 3) := by decide +kernel
theorem dX7_lift_17 : decode cX7_lift 17 = .ok (.sipush 408, 3) := by decide +kernel
theorem dX7_lift_20 : decode cX7_lift 20 = .ok (.iload_n 1, 1) := by decide +kernel
theorem dX7_lift_21 : decode cX7_lift 21 = .ok (.iadd, 1) := by decide +kernel
theorem dX7_lift_22 : decode cX7_lift 22 = .ok (.iaload, 1) := by decide +kernel
theorem dX7_lift_23 : decode cX7_lift 23 = .ok (.iconst 1, 1) := by decide +kernel
theorem dX7_lift_24 : decode cX7_lift 24 = .ok (.isub, 1) := by decide +kernel
theorem dX7_lift_25 : decode cX7_lift 25 = .ok (.invokestatic 51, 3) := by decide +kernel
theorem dX7_lift_28 : decode cX7_lift 28 = .ok (.ifCond .ne 6, 3) := by decide +kernel
theorem dX7_lift_31 : decode cX7_lift 31 = .ok (.bipush (-2), 2) := by decide +kernel
theorem dX7_lift_33 : decode cX7_lift 33 = .ok (.ireturn, 1) := by decide +kernel
theorem dX7_lift_34 : decode cX7_lift 34 = .ok (.iload_n 3, 1) := by decide +kernel
theorem dX7_lift_35 : decode cX7_lift 35 = .ok (.iload_n 2, 1) := by decide +kernel
theorem dX7_lift_36 : decode cX7_lift 36 = .ok (.if_icmp .ne 6, 3) := by decide +kernel
theorem dX7_lift_39 : decode cX7_lift 39 = .ok (.bipush (-5), 2) := by decide +kernel
theorem dX7_lift_41 : decode cX7_lift 41 = .ok (.ireturn, 1) := by decide +kernel
theorem dX7_lift_42 : decode cX7_lift 42 = .ok (.aload_n 0, 1) := by decide +kernel
theorem dX7_lift_43 : decode cX7_lift 43 = .ok (.invokevirtual 88, 3) := by decide +kernel
theorem dX7_lift_46 : decode cX7_lift 46 = .ok (.aload_n 0, 1) := by decide +kernel
theorem dX7_lift_47 : decode cX7_lift 47 = .ok (.iload_n 1, 1) := by decide +kernel
theorem dX7_lift_48 : decode cX7_lift 48 = .ok (.invokevirtual 94, 3) := by decide +kernel
theorem dX7_lift_51 : decode cX7_lift 51 = .ok (.iload_n 2, 1) := by decide +kernel
theorem dX7_lift_52 : decode cX7_lift 52 = .ok (.istore 4, 2) := by decide +kernel
theorem dX7_lift_54 : decode cX7_lift 54 = .ok (.iload 4, 2) := by decide +kernel
theorem dX7_lift_56 : decode cX7_lift 56 = .ok (.iload_n 3, 1) := by decide +kernel
theorem dX7_lift_57 : decode cX7_lift 57 = .ok (.if_icmp .eq 38, 3) := by decide +kernel
theorem dX7_lift_60 : decode cX7_lift 60 = .ok (.iload 4, 2) := by decide +kernel
theorem dX7_lift_62 : decode cX7_lift 62 = .ok (.iload_n 3, 1) := by decide +kernel
theorem dX7_lift_63 : decode cX7_lift 63 = .ok (.if_icmp .ge 10, 3) := by decide +kernel
theorem dX7_lift_66 : decode cX7_lift 66 = .ok (.iload 4, 2) := by decide +kernel
theorem dX7_lift_68 : decode cX7_lift 68 = .ok (.iconst 1, 1) := by decide +kernel
theorem dX7_lift_69 : decode cX7_lift 69 = .ok (.iadd, 1) := by decide +kernel
theorem dX7_lift_70 : decode cX7_lift 70 = .ok (.goto 7, 3) := by decide +kernel
theorem dX7_lift_73 : decode cX7_lift 73 = .ok (.iload 4, 2) := by decide +kernel
theorem dX7_lift_75 : decode cX7_lift 75 = .ok (.iconst 1, 1) := by decide +kernel
theorem dX7_lift_76 : decode cX7_lift 76 = .ok (.isub, 1) := by decide +kernel
theorem dX7_lift_77 : decode cX7_lift 77 = .ok (.istore 5, 2) := by decide +kernel
theorem dX7_lift_79 : decode cX7_lift 79 = .ok (.aload_n 0, 1) := by decide +kernel
theorem dX7_lift_80 : decode cX7_lift 80 = .ok (.iload_n 1, 1) := by decide +kernel
theorem dX7_lift_81 : decode cX7_lift 81 = .ok (.iload 4, 2) := by decide +kernel
theorem dX7_lift_83 : decode cX7_lift 83 = .ok (.iload 5, 2) := by decide +kernel
theorem dX7_lift_85 : decode cX7_lift 85 = .ok (.invokevirtual 102, 3) := by decide +kernel
theorem dX7_lift_88 : decode cX7_lift 88 = .ok (.iload 5, 2) := by decide +kernel
theorem dX7_lift_90 : decode cX7_lift 90 = .ok (.istore 4, 2) := by decide +kernel
theorem dX7_lift_92 : decode cX7_lift 92 = .ok (.goto (-38), 3) := by decide +kernel
theorem dX7_lift_95 : decode cX7_lift 95 = .ok (.aload_n 0, 1) := by decide +kernel
theorem dX7_lift_96 : decode cX7_lift 96 = .ok (.iload_n 1, 1) := by decide +kernel
theorem dX7_lift_97 : decode cX7_lift 97 = .ok (.invokevirtual 98, 3) := by decide +kernel
theorem dX7_lift_100 : decode cX7_lift 100 = .ok (.ireturn, 1) := by decide +kernel
theorem dX7_setEntry_0 : decode cX7_setEntry 0 = .ok (.aload_n 0, 1) := by decide +kernel
theorem dX7_setEntry_1 : decode cX7_setEntry 1 = .ok (.iload_n 1, 1) := by decide +kernel
theorem dX7_setEntry_2 : decode cX7_setEntry 2 = .ok (.iload_n 2, 1) := by decide +kernel
theorem dX7_setEntry_3 : decode cX7_setEntry 3 = .ok (.invokevirtual 91, 3) := by decide +kernel
theorem dX7_setEntry_6 : decode cX7_setEntry 6 = .ok (.ifCond .ne 10, 3) := by decide +kernel
theorem dX7_setEntry_9 : decode cX7_setEntry 9 = .ok (.iload_n 3, 1) := by decide +kernel
theorem dX7_setEntry_10 : decode cX7_setEntry 10 = .ok (.invokestatic 106, 3) := by decide +kernel
theorem dX7_setEntry_13 : decode cX7_setEntry 13 = .ok (.ifCond .eq 5, 3) := by decide +kernel
theorem dX7_setEntry_16 : decode cX7_setEntry 16 = .ok (.iconst (-1), 1) := by decide +kernel
theorem dX7_setEntry_17 : decode cX7_setEntry 17 = .ok (.ireturn, 1) := by decide +kernel
theorem dX7_setEntry_18 : decode cX7_setEntry 18 = .ok (.iload 4, 2) := by decide +kernel
theorem dX7_setEntry_20 : decode cX7_setEntry 20 = .ok (.iconst 0, 1) := by decide +kernel
theorem dX7_setEntry_21 : decode cX7_setEntry 21 = .ok (.bipush 17, 2) := by decide +kernel
theorem dX7_setEntry_23 : decode cX7_setEntry 23 = .ok (.invokestatic 51, 3) := by decide +kernel
theorem dX7_setEntry_26 : decode cX7_setEntry 26 = .ok (.ifCond .ne 6, 3) := by decide +kernel
theorem dX7_setEntry_29 : decode cX7_setEntry 29 = .ok (.bipush (-2), 2) := by decide +kernel
theorem dX7_setEntry_31 : decode cX7_setEntry 31 = .ok (.ireturn, 1) := by decide +kernel
theorem dX7_setEntry_32 : decode cX7_setEntry 32 = .ok (.aload_n 0, 1) := by decide +kernel
theorem dX7_setEntry_33 : decode cX7_setEntry 33 = .ok (.getfield 7, 3) := by decide +kernel
theorem dX7_setEntry_36 : decode cX7_setEntry 36 = .ok (.iload_n 1, 1) := by decide +kernel
theorem dX7_setEntry_37 : decode cX7_setEntry 37 = .ok (.iload_n 2, 1) := by decide +kernel
theorem dX7_setEntry_38 : decode cX7_setEntry 38 = .ok (.iload_n 3, 1) := by decide +kernel
theorem dX7_setEntry_39 : decode cX7_setEntry 39 = .ok (.invokestatic 67, 3) := by decide +kernel
theorem dX7_setEntry_42 : decode cX7_setEntry 42 = .ok (.iaload, 1) := by decide +kernel
theorem dX7_setEntry_43 : decode cX7_setEntry 43 = .ok (.istore 5, 2) := by decide +kernel
theorem dX7_setEntry_45 : decode cX7_setEntry 45 = .ok (.iload 5, 2) := by decide +kernel
theorem dX7_setEntry_47 : decode cX7_setEntry 47 = .ok (.iload 4, 2) := by decide +kernel
theorem dX7_setEntry_49 : decode cX7_setEntry 49 = .ok (.if_icmp .ne 6, 3) := by decide +kernel
theorem dX7_setEntry_52 : decode cX7_setEntry 52 = .ok (.bipush (-5), 2) := by decide +kernel
theorem dX7_setEntry_54 : decode cX7_setEntry 54 = .ok (.ireturn, 1) := by decide +kernel
theorem dX7_setEntry_55 : decode cX7_setEntry 55 = .ok (.aload_n 0, 1) := by decide +kernel
theorem dX7_setEntry_56 : decode cX7_setEntry 56 = .ok (.invokevirtual 88, 3) := by decide +kernel
theorem dX7_setEntry_59 : decode cX7_setEntry 59 = .ok (.aload_n 0, 1) := by decide +kernel
theorem dX7_setEntry_60 : decode cX7_setEntry 60 = .ok (.getfield 7, 3) := by decide +kernel
theorem dX7_setEntry_63 : decode cX7_setEntry 63 = .ok (.iload_n 1, 1) := by decide +kernel
theorem dX7_setEntry_64 : decode cX7_setEntry 64 = .ok (.iload_n 2, 1) := by decide +kernel
theorem dX7_setEntry_65 : decode cX7_setEntry 65 = .ok (.iload_n 3, 1) := by decide +kernel
theorem dX7_setEntry_66 : decode cX7_setEntry 66 = .ok (.invokestatic 67, 3) := by decide +kernel
theorem dX7_setEntry_69 : decode cX7_setEntry 69 = .ok (.iload 4, 2) := by decide +kernel
theorem dX7_setEntry_71 : decode cX7_setEntry 71 = .ok (.iastore, 1) := by decide +kernel
theorem dX7_setEntry_72 : decode cX7_setEntry 72 = .ok (.iload 5, 2) := by decide +kernel
theorem dX7_setEntry_74 : decode cX7_setEntry 74 = .ok (.ireturn, 1) := by decide +kernel
theorem dX7_flatten_0 : decode cX7_flatten 0 = .ok (.iload_n 1, 1) := by decide +kernel
theorem dX7_flatten_1 : decode cX7_flatten 1 = .ok (.invokestatic 55, 3) := by decide +kernel
theorem dX7_flatten_4 : decode cX7_flatten 4 = .ok (.ifCond .eq 5, 3) := by decide +kernel
theorem dX7_flatten_7 : decode cX7_flatten 7 = .ok (.iconst (-1), 1) := by decide +kernel
theorem dX7_flatten_8 : decode cX7_flatten 8 = .ok (.ireturn, 1) := by decide +kernel
theorem dX7_flatten_9 : decode cX7_flatten 9 = .ok (.aload_n 0, 1) := by decide +kernel
theorem dX7_flatten_10 : decode cX7_flatten 10 = .ok (.getfield 7, 3) := by decide +kernel
theorem dX7_flatten_13 : decode cX7_flatten 13 = .ok (.sipush 408, 3) := by decide +kernel
theorem dX7_flatten_16 : decode cX7_flatten 16 = .ok (.iload_n 1, 1) := by decide +kernel
theorem dX7_flatten_17 : decode cX7_flatten 17 = .ok (.iadd, 1) := by decide +kernel
theorem dX7_flatten_18 : decode cX7_flatten 18 = .ok (.iaload, 1) := by decide +kernel
theorem dX7_flatten_19 : decode cX7_flatten 19 = .ok (.istore_n 2, 1) := by decide +kernel
theorem dX7_flatten_20 : decode cX7_flatten 20 = .ok (.iload_n 2, 1) := by decide +kernel
theorem dX7_flatten_21 : decode cX7_flatten 21 = .ok (.ifCond .eq 27, 3) := by decide +kernel
theorem dX7_flatten_24 : decode cX7_flatten 24 = .ok (.iload_n 2, 1) := by decide +kernel
theorem dX7_flatten_25 : decode cX7_flatten 25 = .ok (.iconst 1, 1) := by decide +kernel
theorem dX7_flatten_26 : decode cX7_flatten 26 = .ok (.if_icmp .ne 25, 3) := by decide +kernel
theorem dX7_flatten_29 : decode cX7_flatten 29 = .ok (.aload_n 0, 1) := by decide +kernel
theorem dX7_flatten_30 : decode cX7_flatten 30 = .ok (.iload_n 1, 1) := by decide +kernel
theorem dX7_flatten_31 : decode cX7_flatten 31 = .ok (.iconst 0, 1) := by decide +kernel
theorem dX7_flatten_32 : decode cX7_flatten 32 = .ok (.invokevirtual 63, 3) := by decide +kernel
theorem dX7_flatten_35 : decode cX7_flatten 35 = .ok (.ifCond .eq 16, 3) := by decide +kernel
theorem dX7_flatten_38 : decode cX7_flatten 38 = .ok (.aload_n 0, 1) := by decide +kernel
theorem dX7_flatten_39 : decode cX7_flatten 39 = .ok (.iload_n 1, 1) := by decide +kernel
theorem dX7_flatten_40 : decode cX7_flatten 40 = .ok (.iconst 0, 1) := by decide +kernel
theorem dX7_flatten_41 : decode cX7_flatten 41 = .ok (.iconst 1, 1) := by decide +kernel
theorem dX7_flatten_42 : decode cX7_flatten 42 = .ok (.invokevirtual 78, 3) := by decide +kernel
theorem dX7_flatten_45 : decode cX7_flatten 45 = .ok (.ifCond .ne 6, 3) := by decide +kernel
theorem dX7_flatten_48 : decode cX7_flatten 48 = .ok (.bipush (-5), 2) := by decide +kernel
theorem dX7_flatten_50 : decode cX7_flatten 50 = .ok (.ireturn, 1) := by decide +kernel
theorem dX7_flatten_51 : decode cX7_flatten 51 = .ok (.aload_n 0, 1) := by decide +kernel
theorem dX7_flatten_52 : decode cX7_flatten 52 = .ok (.invokevirtual 88, 3) := by decide +kernel
theorem dX7_flatten_55 : decode cX7_flatten 55 = .ok (.aload_n 0, 1) := by decide +kernel
theorem dX7_flatten_56 : decode cX7_flatten 56 = .ok (.iload_n 1, 1) := by decide +kernel
theorem dX7_flatten_57 : decode cX7_flatten 57 = .ok (.invokevirtual 94, 3) := by decide +kernel
theorem dX7_flatten_60 : decode cX7_flatten 60 = .ok (.aload_n 0, 1) := by decide +kernel
theorem dX7_flatten_61 : decode cX7_flatten 61 = .ok (.iload_n 1, 1) := by decide +kernel
theorem dX7_flatten_62 : decode cX7_flatten 62 = .ok (.aload_n 0, 1) := by decide +kernel
theorem dX7_flatten_63 : decode cX7_flatten 63 = .ok (.getfield 19, 3) := by decide +kernel
theorem dX7_flatten_66 : decode cX7_flatten 66 = .ok (.invokevirtual 109, 3) := by decide +kernel
theorem dX7_flatten_69 : decode cX7_flatten 69 = .ok (.ireturn, 1) := by decide +kernel
theorem dX7_assign_0 : decode cX7_assign 0 = .ok (.aload_n 0, 1) := by decide +kernel
theorem dX7_assign_1 : decode cX7_assign 1 = .ok (.invokevirtual 113, 3) := by decide +kernel
theorem dX7_assign_4 : decode cX7_assign 4 = .ok (.ifCond .ne 11, 3) := by decide +kernel
theorem dX7_assign_7 : decode cX7_assign 7 = .ok (.bipush (-100), 2) := by decide +kernel
theorem dX7_assign_9 : decode cX7_assign 9 = .ok (.aload_n 0, 1) := by decide +kernel
theorem dX7_assign_10 : decode cX7_assign 10 = .ok (.getfield 85, 3) := by decide +kernel
theorem dX7_assign_13 : decode cX7_assign 13 = .ok (.isub, 1) := by decide +kernel
theorem dX7_assign_14 : decode cX7_assign 14 = .ok (.ireturn, 1) := by decide +kernel
theorem dX7_assign_15 : decode cX7_assign 15 = .ok (.aload_n 0, 1) := by decide +kernel
theorem dX7_assign_16 : decode cX7_assign 16 = .ok (.invokevirtual 88, 3) := by decide +kernel
theorem dX7_assign_19 : decode cX7_assign 19 = .ok (.aload_n 0, 1) := by decide +kernel
theorem dX7_assign_20 : decode cX7_assign 20 = .ok (.aload_n 0, 1) := by decide +kernel
theorem dX7_assign_21 : decode cX7_assign 21 = .ok (.getfield 116, 3) := by decide +kernel
theorem dX7_assign_24 : decode cX7_assign 24 = .ok (.aload_n 0, 1) := by decide +kernel
theorem dX7_assign_25 : decode cX7_assign 25 = .ok (.getfield 29, 3) := by decide +kernel
theorem dX7_assign_28 : decode cX7_assign 28 = .ok (.invokevirtual 109, 3) := by decide +kernel
theorem dX7_assign_31 : decode cX7_assign 31 = .ok (.ireturn, 1) := by decide +kernel
theorem dX7_setRule_0 : decode cX7_setRule 0 = .ok (.iload_n 1, 1) := by decide +kernel
theorem dX7_setRule_1 : decode cX7_setRule 1 = .ok (.iconst 0, 1) := by decide +kernel
theorem dX7_setRule_2 : decode cX7_setRule 2 = .ok (.iconst 2, 1) := by decide +kernel
theorem dX7_setRule_3 : decode cX7_setRule 3 = .ok (.invokestatic 51, 3) := by decide +kernel
theorem dX7_setRule_6 : decode cX7_setRule 6 = .ok (.ifCond .ne 6, 3) := by decide +kernel
theorem dX7_setRule_9 : decode cX7_setRule 9 = .ok (.bipush (-2), 2) := by decide +kernel
theorem dX7_setRule_11 : decode cX7_setRule 11 = .ok (.ireturn, 1) := by decide +kernel
theorem dX7_setRule_12 : decode cX7_setRule 12 = .ok (.aload_n 0, 1) := by decide +kernel
theorem dX7_setRule_13 : decode cX7_setRule 13 = .ok (.getfield 7, 3) := by decide +kernel
theorem dX7_setRule_16 : decode cX7_setRule 16 = .ok (.sipush 414, 3) := by decide +kernel
theorem dX7_setRule_19 : decode cX7_setRule 19 = .ok (.iaload, 1) := by decide +kernel
theorem dX7_setRule_20 : decode cX7_setRule 20 = .ok (.istore_n 2, 1) := by decide +kernel
theorem dX7_setRule_21 : decode cX7_setRule 21 = .ok (.iload_n 2, 1) := by decide +kernel
theorem dX7_setRule_22 : decode cX7_setRule 22 = .ok (.iload_n 1, 1) := by decide +kernel
theorem dX7_setRule_23 : decode cX7_setRule 23 = .ok (.if_icmp .ne 6, 3) := by decide +kernel
theorem dX7_setRule_26 : decode cX7_setRule 26 = .ok (.bipush (-5), 2) := by decide +kernel
theorem dX7_setRule_28 : decode cX7_setRule 28 = .ok (.ireturn, 1) := by decide +kernel
theorem dX7_setRule_29 : decode cX7_setRule 29 = .ok (.aload_n 0, 1) := by decide +kernel
theorem dX7_setRule_30 : decode cX7_setRule 30 = .ok (.invokevirtual 88, 3) := by decide +kernel
theorem dX7_setRule_33 : decode cX7_setRule 33 = .ok (.aload_n 0, 1) := by decide +kernel
theorem dX7_setRule_34 : decode cX7_setRule 34 = .ok (.getfield 7, 3) := by decide +kernel
theorem dX7_setRule_37 : decode cX7_setRule 37 = .ok (.sipush 414, 3) := by decide +kernel
theorem dX7_setRule_40 : decode cX7_setRule 40 = .ok (.iload_n 1, 1) := by decide +kernel
theorem dX7_setRule_41 : decode cX7_setRule 41 = .ok (.iastore, 1) := by decide +kernel
theorem dX7_setRule_42 : decode cX7_setRule 42 = .ok (.iload_n 2, 1) := by decide +kernel
theorem dX7_setRule_43 : decode cX7_setRule 43 = .ok (.ireturn, 1) := by decide +kernel
theorem dX7_known_0 : decode cX7_known 0 = .ok (.aload_n 0, 1) := by decide +kernel
theorem dX7_known_1 : decode cX7_known 1 = .ok (.getfield 7, 3) := by decide +kernel
theorem dX7_known_4 : decode cX7_known 4 = .ok (.sipush 418, 3) := by decide +kernel
theorem dX7_known_7 : decode cX7_known 7 = .ok (.bipush 16, 2) := by decide +kernel
theorem dX7_known_9 : decode cX7_known 9 = .ok (.iload_n 1, 1) := by decide +kernel
theorem dX7_known_10 : decode cX7_known 10 = .ok (.imul, 1) := by decide +kernel
theorem dX7_known_11 : decode cX7_known 11 = .ok (.iadd, 1) := by decide +kernel
theorem dX7_known_12 : decode cX7_known 12 = .ok (.iload_n 2, 1) := by decide +kernel
theorem dX7_known_13 : decode cX7_known 13 = .ok (.iadd, 1) := by decide +kernel
theorem dX7_known_14 : decode cX7_known 14 = .ok (.iaload, 1) := by decide +kernel
theorem dX7_known_15 : decode cX7_known 15 = .ok (.ireturn, 1) := by decide +kernel
theorem dX7_isSuspect_0 : decode cX7_isSuspect 0 = .ok (.aload_n 0, 1) := by decide +kernel
theorem dX7_isSuspect_1 : decode cX7_isSuspect 1 = .ok (.getfield 7, 3) := by decide +kernel
theorem dX7_isSuspect_4 : decode cX7_isSuspect 4 = .ok (.sipush 416, 3) := by decide +kernel
theorem dX7_isSuspect_7 : decode cX7_isSuspect 7 = .ok (.iaload, 1) := by decide +kernel
theorem dX7_isSuspect_8 : decode cX7_isSuspect 8 = .ok (.iload_n 1, 1) := by decide +kernel
theorem dX7_isSuspect_9 : decode cX7_isSuspect 9 = .ok (.ishr, 1) := by decide +kernel
theorem dX7_isSuspect_10 : decode cX7_isSuspect 10 = .ok (.iconst 1, 1) := by decide +kernel
theorem dX7_isSuspect_11 : decode cX7_isSuspect 11 = .ok (.iand, 1) := by decide +kernel
theorem dX7_isSuspect_12 : decode cX7_isSuspect 12 = .ok (.iconst 1, 1) := by decide +kernel
theorem dX7_isSuspect_13 : decode cX7_isSuspect 13 = .ok (.if_icmp .ne 7, 3) := by decide +kernel
theorem dX7_isSuspect_16 : decode cX7_isSuspect 16 = .ok (.iconst 1, 1) := by decide +kernel
theorem dX7_isSuspect_17 : decode cX7_isSuspect 17 = .ok (.goto 4, 3) := by decide +kernel
theorem dX7_isSuspect_20 : decode cX7_isSuspect 20 = .ok (.iconst 0, 1) := by decide +kernel
theorem dX7_isSuspect_21 : decode cX7_isSuspect 21 = .ok (.ireturn, 1) := by decide +kernel
theorem dX7_hide_0 : decode cX7_hide 0 = .ok (.iload_n 1, 1) := by decide +kernel
theorem dX7_hide_1 : decode cX7_hide 1 = .ok (.invokestatic 55, 3) := by decide +kernel
theorem dX7_hide_4 : decode cX7_hide 4 = .ok (.ifCond .eq 5, 3) := by decide +kernel
theorem dX7_hide_7 : decode cX7_hide 7 = .ok (.iconst (-1), 1) := by decide +kernel
theorem dX7_hide_8 : decode cX7_hide 8 = .ok (.ireturn, 1) := by decide +kernel
theorem dX7_hide_9 : decode cX7_hide 9 = .ok (.iload_n 2, 1) := by decide +kernel
theorem dX7_hide_10 : decode cX7_hide 10 = .ok (.iconst 1, 1) := by decide +kernel
theorem dX7_hide_11 : decode cX7_hide 11 = .ok (.bipush 63, 2) := by decide +kernel
theorem dX7_hide_13 : decode cX7_hide 13 = .ok (.invokestatic 51, 3) := by decide +kernel
theorem dX7_hide_16 : decode cX7_hide 16 = .ok (.ifCond .eq 11, 3) := by decide +kernel
theorem dX7_hide_19 : decode cX7_hide 19 = .ok (.iload_n 2, 1) := by decide +kernel
theorem dX7_hide_20 : decode cX7_hide 20 = .ok (.iload_n 1, 1) := by decide +kernel
theorem dX7_hide_21 : decode cX7_hide 21 = .ok (.ishr, 1) := by decide +kernel
theorem dX7_hide_22 : decode cX7_hide 22 = .ok (.iconst 1, 1) := by decide +kernel
theorem dX7_hide_23 : decode cX7_hide 23 = .ok (.iand, 1) := by decide +kernel
theorem dX7_hide_24 : decode cX7_hide 24 = .ok (.ifCond .ne 6, 3) := by decide +kernel
theorem dX7_hide_27 : decode cX7_hide 27 = .ok (.bipush (-2), 2) := by decide +kernel
theorem dX7_hide_29 : decode cX7_hide 29 = .ok (.ireturn, 1) := by decide +kernel
theorem dX7_hide_30 : decode cX7_hide 30 = .ok (.aload_n 0, 1) := by decide +kernel
theorem dX7_hide_31 : decode cX7_hide 31 = .ok (.invokevirtual 88, 3) := by decide +kernel
theorem dX7_hide_34 : decode cX7_hide 34 = .ok (.aload_n 0, 1) := by decide +kernel
theorem dX7_hide_35 : decode cX7_hide 35 = .ok (.getfield 7, 3) := by decide +kernel
theorem dX7_hide_38 : decode cX7_hide 38 = .ok (.sipush 415, 3) := by decide +kernel
theorem dX7_hide_41 : decode cX7_hide 41 = .ok (.iload_n 1, 1) := by decide +kernel
theorem dX7_hide_42 : decode cX7_hide 42 = .ok (.iconst 1, 1) := by decide +kernel
theorem dX7_hide_43 : decode cX7_hide 43 = .ok (.iadd, 1) := by decide +kernel
theorem dX7_hide_44 : decode cX7_hide 44 = .ok (.iastore, 1) := by decide +kernel
theorem dX7_hide_45 : decode cX7_hide 45 = .ok (.aload_n 0, 1) := by decide +kernel
theorem dX7_hide_46 : decode cX7_hide 46 = .ok (.getfield 7, 3) := by decide +kernel
theorem dX7_hide_49 : decode cX7_hide 49 = .ok (.sipush 416, 3) := by decide +kernel
theorem dX7_hide_52 : decode cX7_hide 52 = .ok (.iload_n 2, 1) := by decide +kernel
theorem dX7_hide_53 : decode cX7_hide 53 = .ok (.iastore, 1) := by decide +kernel
theorem dX7_hide_54 : decode cX7_hide 54 = .ok (.aload_n 0, 1) := by decide +kernel
theorem dX7_hide_55 : decode cX7_hide 55 = .ok (.getfield 7, 3) := by decide +kernel
theorem dX7_hide_58 : decode cX7_hide 58 = .ok (.sipush 417, 3) := by decide +kernel
theorem dX7_hide_61 : decode cX7_hide 61 = .ok (.iconst 0, 1) := by decide +kernel
theorem dX7_hide_62 : decode cX7_hide 62 = .ok (.iastore, 1) := by decide +kernel
theorem dX7_hide_63 : decode cX7_hide 63 = .ok (.iconst 0, 1) := by decide +kernel
theorem dX7_hide_64 : decode cX7_hide 64 = .ok (.istore_n 3, 1) := by decide +kernel
theorem dX7_hide_65 : decode cX7_hide 65 = .ok (.iload_n 3, 1) := by decide +kernel
theorem dX7_hide_66 : decode cX7_hide 66 = .ok (.bipush 6, 2) := by decide +kernel
theorem dX7_hide_68 : decode cX7_hide 68 = .ok (.if_icmp .ge 48, 3) := by decide +kernel
theorem dX7_hide_71 : decode cX7_hide 71 = .ok (.iconst 0, 1) := by decide +kernel
theorem dX7_hide_72 : decode cX7_hide 72 = .ok (.istore 4, 2) := by decide +kernel
theorem dX7_hide_74 : decode cX7_hide 74 = .ok (.iload 4, 2) := by decide +kernel
theorem dX7_hide_76 : decode cX7_hide 76 = .ok (.bipush 16, 2) := by decide +kernel
theorem dX7_hide_78 : decode cX7_hide 78 = .ok (.if_icmp .ge 32, 3) := by decide +kernel
theorem dX7_hide_81 : decode cX7_hide 81 = .ok (.aload_n 0, 1) := by decide +kernel
theorem dX7_hide_82 : decode cX7_hide 82 = .ok (.getfield 7, 3) := by decide +kernel
theorem dX7_hide_85 : decode cX7_hide 85 = .ok (.sipush 418, 3) := by decide +kernel
theorem dX7_hide_88 : decode cX7_hide 88 = .ok (.bipush 16, 2) := by decide +kernel
theorem dX7_hide_90 : decode cX7_hide 90 = .ok (.iload_n 3, 1) := by decide +kernel
theorem dX7_hide_91 : decode cX7_hide 91 = .ok (.imul, 1) := by decide +kernel
theorem dX7_hide_92 : decode cX7_hide 92 = .ok (.iadd, 1) := by decide +kernel
theorem dX7_hide_93 : decode cX7_hide 93 = .ok (.iload 4, 2) := by decide +kernel
theorem dX7_hide_95 : decode cX7_hide 95 = .ok (.iadd, 1) := by decide +kernel
theorem dX7_hide_96 : decode cX7_hide 96 = .ok (.aload_n 0, 1) := by decide +kernel
theorem dX7_hide_97 : decode cX7_hide 97 = .ok (.iload_n 3, 1) := by decide +kernel
theorem dX7_hide_98 : decode cX7_hide 98 = .ok (.iload 4, 2) := by decide +kernel
theorem dX7_hide_100 : decode cX7_hide 100 = .ok (.invokevirtual 75, 3) := by decide +kernel
theorem dX7_hide_103 : decode cX7_hide 103 = .ok (.iastore, 1) := by decide +kernel
theorem dX7_hide_104 : decode cX7_hide 104 = .ok (.iinc 4 1, 3) := by decide +kernel
theorem dX7_hide_107 : decode cX7_hide 107 = .ok (.goto (-33), 3) := by decide +kernel
theorem dX7_hide_110 : decode cX7_hide 110 = .ok (.iinc 3 1, 3) := by decide +kernel
theorem dX7_hide_113 : decode cX7_hide 113 = .ok (.goto (-48), 3) := by decide +kernel
theorem dX7_hide_116 : decode cX7_hide 116 = .ok (.iload_n 2, 1) := by decide +kernel
theorem dX7_hide_117 : decode cX7_hide 117 = .ok (.invokestatic 119, 3) := by decide +kernel
theorem dX7_hide_120 : decode cX7_hide 120 = .ok (.ireturn, 1) := by decide +kernel
theorem dX7_ask_0 : decode cX7_ask 0 = .ok (.iload_n 1, 1) := by decide +kernel
theorem dX7_ask_1 : decode cX7_ask 1 = .ok (.invokestatic 106, 3) := by decide +kernel
theorem dX7_ask_4 : decode cX7_ask 4 = .ok (.ifCond .eq 5, 3) := by decide +kernel
theorem dX7_ask_7 : decode cX7_ask 7 = .ok (.iconst (-1), 1) := by decide +kernel
theorem dX7_ask_8 : decode cX7_ask 8 = .ok (.ireturn, 1) := by decide +kernel
theorem dX7_ask_9 : decode cX7_ask 9 = .ok (.aload_n 0, 1) := by decide +kernel
theorem dX7_ask_10 : decode cX7_ask 10 = .ok (.getfield 7, 3) := by decide +kernel
theorem dX7_ask_13 : decode cX7_ask 13 = .ok (.sipush 415, 3) := by decide +kernel
theorem dX7_ask_16 : decode cX7_ask 16 = .ok (.iaload, 1) := by decide +kernel
theorem dX7_ask_17 : decode cX7_ask 17 = .ok (.ifCond .ne 6, 3) := by decide +kernel
theorem dX7_ask_20 : decode cX7_ask 20 = .ok (.bipush (-4), 2) := by decide +kernel
theorem dX7_ask_22 : decode cX7_ask 22 = .ok (.ireturn, 1) := by decide +kernel
theorem dX7_ask_23 : decode cX7_ask 23 = .ok (.aload_n 0, 1) := by decide +kernel
theorem dX7_ask_24 : decode cX7_ask 24 = .ok (.invokevirtual 88, 3) := by decide +kernel
theorem dX7_ask_27 : decode cX7_ask 27 = .ok (.aload_n 0, 1) := by decide +kernel
theorem dX7_ask_28 : decode cX7_ask 28 = .ok (.aload_n 0, 1) := by decide +kernel
theorem dX7_ask_29 : decode cX7_ask 29 = .ok (.getfield 7, 3) := by decide +kernel
theorem dX7_ask_32 : decode cX7_ask 32 = .ok (.sipush 415, 3) := by decide +kernel
theorem dX7_ask_35 : decode cX7_ask 35 = .ok (.iaload, 1) := by decide +kernel
theorem dX7_ask_36 : decode cX7_ask 36 = .ok (.iconst 1, 1) := by decide +kernel
theorem dX7_ask_37 : decode cX7_ask 37 = .ok (.isub, 1) := by decide +kernel
theorem dX7_ask_38 : decode cX7_ask 38 = .ok (.iload_n 1, 1) := by decide +kernel
theorem dX7_ask_39 : decode cX7_ask 39 = .ok (.invokevirtual 122, 3) := by decide +kernel
theorem dX7_ask_42 : decode cX7_ask 42 = .ok (.istore_n 2, 1) := by decide +kernel
theorem dX7_ask_43 : decode cX7_ask 43 = .ok (.iconst 0, 1) := by decide +kernel
theorem dX7_ask_44 : decode cX7_ask 44 = .ok (.istore_n 3, 1) := by decide +kernel
theorem dX7_ask_45 : decode cX7_ask 45 = .ok (.iload_n 3, 1) := by decide +kernel
theorem dX7_ask_46 : decode cX7_ask 46 = .ok (.bipush 6, 2) := by decide +kernel
theorem dX7_ask_48 : decode cX7_ask 48 = .ok (.if_icmp .ge 41, 3) := by decide +kernel
theorem dX7_ask_51 : decode cX7_ask 51 = .ok (.aload_n 0, 1) := by decide +kernel
theorem dX7_ask_52 : decode cX7_ask 52 = .ok (.getfield 7, 3) := by decide +kernel
theorem dX7_ask_55 : decode cX7_ask 55 = .ok (.sipush 416, 3) := by decide +kernel
theorem dX7_ask_58 : decode cX7_ask 58 = .ok (.dup2, 1) := by decide +kernel
theorem dX7_ask_59 : decode cX7_ask 59 = .ok (.iaload, 1) := by decide +kernel
theorem dX7_ask_60 : decode cX7_ask 60 = .ok (.aload_n 0, 1) := by decide +kernel
theorem dX7_ask_61 : decode cX7_ask 61 = .ok (.iload_n 3, 1) := by decide +kernel
theorem dX7_ask_62 : decode cX7_ask 62 = .ok (.iload_n 1, 1) := by decide +kernel
theorem dX7_ask_63 : decode cX7_ask 63 = .ok (.invokevirtual 122, 3) := by decide +kernel
theorem dX7_ask_66 : decode cX7_ask 66 = .ok (.iload_n 2, 1) := by decide +kernel
theorem dX7_ask_67 : decode cX7_ask 67 = .ok (.if_icmp .ne 8, 3) := by decide +kernel
theorem dX7_ask_70 : decode cX7_ask 70 = .ok (.bipush 63, 2) := by decide +kernel
theorem dX7_ask_72 : decode cX7_ask 72 = .ok (.goto 9, 3) := by decide +kernel
theorem dX7_ask_75 : decode cX7_ask 75 = .ok (.bipush 63, 2) := by decide +kernel
theorem dX7_ask_77 : decode cX7_ask 77 = .ok (.iconst 1, 1) := by decide +kernel
theorem dX7_ask_78 : decode cX7_ask 78 = .ok (.iload_n 3, 1) := by decide +kernel
theorem dX7_ask_79 : decode cX7_ask 79 = .ok (.ishl, 1) := by decide +kernel
theorem dX7_ask_80 : decode cX7_ask 80 = .ok (.isub, 1) := by decide +kernel
theorem dX7_ask_81 : decode cX7_ask 81 = .ok (.iand, 1) := by decide +kernel
theorem dX7_ask_82 : decode cX7_ask 82 = .ok (.iastore, 1) := by decide +kernel
theorem dX7_ask_83 : decode cX7_ask 83 = .ok (.iinc 3 1, 3) := by decide +kernel
theorem dX7_ask_86 : decode cX7_ask 86 = .ok (.goto (-41), 3) := by decide +kernel
theorem dX7_ask_89 : decode cX7_ask 89 = .ok (.aload_n 0, 1) := by decide +kernel
theorem dX7_ask_90 : decode cX7_ask 90 = .ok (.getfield 7, 3) := by decide +kernel
theorem dX7_ask_93 : decode cX7_ask 93 = .ok (.sipush 417, 3) := by decide +kernel
theorem dX7_ask_96 : decode cX7_ask 96 = .ok (.dup2, 1) := by decide +kernel
theorem dX7_ask_97 : decode cX7_ask 97 = .ok (.iaload, 1) := by decide +kernel
theorem dX7_ask_98 : decode cX7_ask 98 = .ok (.iconst 1, 1) := by decide +kernel
theorem dX7_ask_99 : decode cX7_ask 99 = .ok (.iadd, 1) := by decide +kernel
theorem dX7_ask_100 : decode cX7_ask 100 = .ok (.iastore, 1) := by decide +kernel
theorem dX7_ask_101 : decode cX7_ask 101 = .ok (.iload_n 2, 1) := by decide +kernel
theorem dX7_ask_102 : decode cX7_ask 102 = .ok (.ireturn, 1) := by decide +kernel
theorem dX7_isFound_0 : decode cX7_isFound 0 = .ok (.aload_n 0, 1) := by decide +kernel
theorem dX7_isFound_1 : decode cX7_isFound 1 = .ok (.getfield 7, 3) := by decide +kernel
theorem dX7_isFound_4 : decode cX7_isFound 4 = .ok (.sipush 415, 3) := by decide +kernel
theorem dX7_isFound_7 : decode cX7_isFound 7 = .ok (.iaload, 1) := by decide +kernel
theorem dX7_isFound_8 : decode cX7_isFound 8 = .ok (.iconst 1, 1) := by decide +kernel
theorem dX7_isFound_9 : decode cX7_isFound 9 = .ok (.isub, 1) := by decide +kernel
theorem dX7_isFound_10 : decode cX7_isFound 10 = .ok (.istore_n 1, 1) := by decide +kernel
theorem dX7_isFound_11 : decode cX7_isFound 11 = .ok (.iconst 0, 1) := by decide +kernel
theorem dX7_isFound_12 : decode cX7_isFound 12 = .ok (.istore_n 2, 1) := by decide +kernel
theorem dX7_isFound_13 : decode cX7_isFound 13 = .ok (.iload_n 2, 1) := by decide +kernel
theorem dX7_isFound_14 : decode cX7_isFound 14 = .ok (.bipush 6, 2) := by decide +kernel
theorem dX7_isFound_16 : decode cX7_isFound 16 = .ok (.if_icmp .ge 48, 3) := by decide +kernel
theorem dX7_isFound_19 : decode cX7_isFound 19 = .ok (.iconst 0, 1) := by decide +kernel
theorem dX7_isFound_20 : decode cX7_isFound 20 = .ok (.istore_n 3, 1) := by decide +kernel
theorem dX7_isFound_21 : decode cX7_isFound 21 = .ok (.iload_n 3, 1) := by decide +kernel
theorem dX7_isFound_22 : decode cX7_isFound 22 = .ok (.bipush 16, 2) := by decide +kernel
theorem dX7_isFound_24 : decode cX7_isFound 24 = .ok (.if_icmp .ge 34, 3) := by decide +kernel
theorem dX7_isFound_27 : decode cX7_isFound 27 = .ok (.aload_n 0, 1) := by decide +kernel
theorem dX7_isFound_28 : decode cX7_isFound 28 = .ok (.iload_n 2, 1) := by decide +kernel
theorem dX7_isFound_29 : decode cX7_isFound 29 = .ok (.invokevirtual 125, 3) := by decide +kernel
theorem dX7_isFound_32 : decode cX7_isFound 32 = .ok (.ifCond .eq 20, 3) := by decide +kernel
theorem dX7_isFound_35 : decode cX7_isFound 35 = .ok (.aload_n 0, 1) := by decide +kernel
theorem dX7_isFound_36 : decode cX7_isFound 36 = .ok (.iload_n 2, 1) := by decide +kernel
theorem dX7_isFound_37 : decode cX7_isFound 37 = .ok (.iload_n 3, 1) := by decide +kernel
theorem dX7_isFound_38 : decode cX7_isFound 38 = .ok (.invokevirtual 122, 3) := by decide +kernel
theorem dX7_isFound_41 : decode cX7_isFound 41 = .ok (.aload_n 0, 1) := by decide +kernel
theorem dX7_isFound_42 : decode cX7_isFound 42 = .ok (.iload_n 1, 1) := by decide +kernel
theorem dX7_isFound_43 : decode cX7_isFound 43 = .ok (.iload_n 3, 1) := by decide +kernel
theorem dX7_isFound_44 : decode cX7_isFound 44 = .ok (.invokevirtual 122, 3) := by decide +kernel
theorem dX7_isFound_47 : decode cX7_isFound 47 = .ok (.if_icmp .eq 5, 3) := by decide +kernel
theorem dX7_isFound_50 : decode cX7_isFound 50 = .ok (.iconst 0, 1) := by decide +kernel
theorem dX7_isFound_51 : decode cX7_isFound 51 = .ok (.ireturn, 1) := by decide +kernel
theorem dX7_isFound_52 : decode cX7_isFound 52 = .ok (.iinc 3 1, 3) := by decide +kernel
theorem dX7_isFound_55 : decode cX7_isFound 55 = .ok (.goto (-34), 3) := by decide +kernel
theorem dX7_isFound_58 : decode cX7_isFound 58 = .ok (.iinc 2 1, 3) := by decide +kernel
theorem dX7_isFound_61 : decode cX7_isFound 61 = .ok (.goto (-48), 3) := by decide +kernel
theorem dX7_isFound_64 : decode cX7_isFound 64 = .ok (.iconst 1, 1) := by decide +kernel
theorem dX7_isFound_65 : decode cX7_isFound 65 = .ok (.ireturn, 1) := by decide +kernel
theorem dX7_groups_0 : decode cX7_groups 0 = .ok (.iconst 0, 1) := by decide +kernel
theorem dX7_groups_1 : decode cX7_groups 1 = .ok (.istore_n 3, 1) := by decide +kernel
theorem dX7_groups_2 : decode cX7_groups 2 = .ok (.iconst 0, 1) := by decide +kernel
theorem dX7_groups_3 : decode cX7_groups 3 = .ok (.istore 4, 2) := by decide +kernel
theorem dX7_groups_5 : decode cX7_groups 5 = .ok (.iconst 0, 1) := by decide +kernel
theorem dX7_groups_6 : decode cX7_groups 6 = .ok (.istore 5, 2) := by decide +kernel
theorem dX7_groups_8 : decode cX7_groups 8 = .ok (.iload 5, 2) := by decide +kernel
theorem dX7_groups_10 : decode cX7_groups 10 = .ok (.bipush 16, 2) := by decide +kernel
theorem dX7_groups_12 : decode cX7_groups 12 = .ok (.if_icmp .gt 88, 3) := by decide +kernel
theorem dX7_groups_15 : decode cX7_groups 15 = .ok (.iconst 0, 1) := by decide +kernel
theorem dX7_groups_16 : decode cX7_groups 16 = .ok (.istore 6, 2) := by decide +kernel
theorem dX7_groups_18 : decode cX7_groups 18 = .ok (.iconst 0, 1) := by decide +kernel
theorem dX7_groups_19 : decode cX7_groups 19 = .ok (.istore 7, 2) := by decide +kernel
theorem dX7_groups_21 : decode cX7_groups 21 = .ok (.iload 7, 2) := by decide +kernel
theorem dX7_groups_23 : decode cX7_groups 23 = .ok (.bipush 6, 2) := by decide +kernel
theorem dX7_groups_25 : decode cX7_groups 25 = .ok (.if_icmp .ge 40, 3) := by decide +kernel
theorem dX7_groups_28 : decode cX7_groups 28 = .ok (.iload 6, 2) := by decide +kernel
theorem dX7_groups_30 : decode cX7_groups 30 = .ok (.aload_n 0, 1) := by decide +kernel
theorem dX7_groups_31 : decode cX7_groups 31 = .ok (.iload 7, 2) := by decide +kernel
theorem dX7_groups_33 : decode cX7_groups 33 = .ok (.invokevirtual 125, 3) := by decide +kernel
theorem dX7_groups_36 : decode cX7_groups 36 = .ok (.ifCond .eq 19, 3) := by decide +kernel
theorem dX7_groups_39 : decode cX7_groups 39 = .ok (.aload_n 0, 1) := by decide +kernel
theorem dX7_groups_40 : decode cX7_groups 40 = .ok (.iload 7, 2) := by decide +kernel
theorem dX7_groups_42 : decode cX7_groups 42 = .ok (.iload_n 1, 1) := by decide +kernel
theorem dX7_groups_43 : decode cX7_groups 43 = .ok (.invokevirtual 122, 3) := by decide +kernel
theorem dX7_groups_46 : decode cX7_groups 46 = .ok (.iload 5, 2) := by decide +kernel
theorem dX7_groups_48 : decode cX7_groups 48 = .ok (.if_icmp .ne 7, 3) := by decide +kernel
theorem dX7_groups_51 : decode cX7_groups 51 = .ok (.iconst 1, 1) := by decide +kernel
theorem dX7_groups_52 : decode cX7_groups 52 = .ok (.goto 4, 3) := by decide +kernel
theorem dX7_groups_55 : decode cX7_groups 55 = .ok (.iconst 0, 1) := by decide +kernel
theorem dX7_groups_56 : decode cX7_groups 56 = .ok (.iadd, 1) := by decide +kernel
theorem dX7_groups_57 : decode cX7_groups 57 = .ok (.istore 6, 2) := by decide +kernel
theorem dX7_groups_59 : decode cX7_groups 59 = .ok (.iinc 7 1, 3) := by decide +kernel
theorem dX7_groups_62 : decode cX7_groups 62 = .ok (.goto (-41), 3) := by decide +kernel
theorem dX7_groups_65 : decode cX7_groups 65 = .ok (.iload_n 3, 1) := by decide +kernel
theorem dX7_groups_66 : decode cX7_groups 66 = .ok (.iload 6, 2) := by decide +kernel
theorem dX7_groups_68 : decode cX7_groups 68 = .ok (.ifCond .le 7, 3) := by decide +kernel
theorem dX7_groups_71 : decode cX7_groups 71 = .ok (.iconst 1, 1) := by decide +kernel
theorem dX7_groups_72 : decode cX7_groups 72 = .ok (.goto 4, 3) := by decide +kernel
theorem dX7_groups_75 : decode cX7_groups 75 = .ok (.iconst 0, 1) := by decide +kernel
theorem dX7_groups_76 : decode cX7_groups 76 = .ok (.iadd, 1) := by decide +kernel
theorem dX7_groups_77 : decode cX7_groups 77 = .ok (.istore_n 3, 1) := by decide +kernel
theorem dX7_groups_78 : decode cX7_groups 78 = .ok (.iload 6, 2) := by decide +kernel
theorem dX7_groups_80 : decode cX7_groups 80 = .ok (.iload 4, 2) := by decide +kernel
theorem dX7_groups_82 : decode cX7_groups 82 = .ok (.if_icmp .le 8, 3) := by decide +kernel
theorem dX7_groups_85 : decode cX7_groups 85 = .ok (.iload 6, 2) := by decide +kernel
theorem dX7_groups_87 : decode cX7_groups 87 = .ok (.goto 5, 3) := by decide +kernel
theorem dX7_groups_90 : decode cX7_groups 90 = .ok (.iload 4, 2) := by decide +kernel
theorem dX7_groups_92 : decode cX7_groups 92 = .ok (.istore 4, 2) := by decide +kernel
theorem dX7_groups_94 : decode cX7_groups 94 = .ok (.iinc 5 1, 3) := by decide +kernel
theorem dX7_groups_97 : decode cX7_groups 97 = .ok (.goto (-89), 3) := by decide +kernel
theorem dX7_groups_100 : decode cX7_groups 100 = .ok (.iload_n 2, 1) := by decide +kernel
theorem dX7_groups_101 : decode cX7_groups 101 = .ok (.ifCond .ne 7, 3) := by decide +kernel
theorem dX7_groups_104 : decode cX7_groups 104 = .ok (.iload_n 3, 1) := by decide +kernel
theorem dX7_groups_105 : decode cX7_groups 105 = .ok (.goto 5, 3) := by decide +kernel
theorem dX7_groups_108 : decode cX7_groups 108 = .ok (.iload 4, 2) := by decide +kernel
theorem dX7_groups_110 : decode cX7_groups 110 = .ok (.ireturn, 1) := by decide +kernel
theorem dX7_bestKey_0 : decode cX7_bestKey 0 = .ok (.iconst 0, 1) := by decide +kernel
theorem dX7_bestKey_1 : decode cX7_bestKey 1 = .ok (.istore_n 1, 1) := by decide +kernel
theorem dX7_bestKey_2 : decode cX7_bestKey 2 = .ok (.iconst 1, 1) := by decide +kernel
theorem dX7_bestKey_3 : decode cX7_bestKey 3 = .ok (.istore_n 2, 1) := by decide +kernel
theorem dX7_bestKey_4 : decode cX7_bestKey 4 = .ok (.iload_n 2, 1) := by decide +kernel
theorem dX7_bestKey_5 : decode cX7_bestKey 5 = .ok (.bipush 16, 2) := by decide +kernel
theorem dX7_bestKey_7 : decode cX7_bestKey 7 = .ok (.if_icmp .ge 52, 3) := by decide +kernel
theorem dX7_bestKey_10 : decode cX7_bestKey 10 = .ok (.aload_n 0, 1) := by decide +kernel
theorem dX7_bestKey_11 : decode cX7_bestKey 11 = .ok (.iload_n 1, 1) := by decide +kernel
theorem dX7_bestKey_12 : decode cX7_bestKey 12 = .ok (.iconst 1, 1) := by decide +kernel
theorem dX7_bestKey_13 : decode cX7_bestKey 13 = .ok (.invokevirtual 128, 3) := by decide +kernel
theorem dX7_bestKey_16 : decode cX7_bestKey 16 = .ok (.aload_n 0, 1) := by decide +kernel
theorem dX7_bestKey_17 : decode cX7_bestKey 17 = .ok (.iload_n 2, 1) := by decide +kernel
theorem dX7_bestKey_18 : decode cX7_bestKey 18 = .ok (.iconst 1, 1) := by decide +kernel
theorem dX7_bestKey_19 : decode cX7_bestKey 19 = .ok (.invokevirtual 128, 3) := by decide +kernel
theorem dX7_bestKey_22 : decode cX7_bestKey 22 = .ok (.isub, 1) := by decide +kernel
theorem dX7_bestKey_23 : decode cX7_bestKey 23 = .ok (.istore_n 3, 1) := by decide +kernel
theorem dX7_bestKey_24 : decode cX7_bestKey 24 = .ok (.iload_n 3, 1) := by decide +kernel
theorem dX7_bestKey_25 : decode cX7_bestKey 25 = .ok (.ifCond .gt 22, 3) := by decide +kernel
theorem dX7_bestKey_28 : decode cX7_bestKey 28 = .ok (.iload_n 3, 1) := by decide +kernel
theorem dX7_bestKey_29 : decode cX7_bestKey 29 = .ok (.ifCond .ne 22, 3) := by decide +kernel
theorem dX7_bestKey_32 : decode cX7_bestKey 32 = .ok (.aload_n 0, 1) := by decide +kernel
theorem dX7_bestKey_33 : decode cX7_bestKey 33 = .ok (.iload_n 2, 1) := by decide +kernel
theorem dX7_bestKey_34 : decode cX7_bestKey 34 = .ok (.iconst 0, 1) := by decide +kernel
theorem dX7_bestKey_35 : decode cX7_bestKey 35 = .ok (.invokevirtual 128, 3) := by decide +kernel
theorem dX7_bestKey_38 : decode cX7_bestKey 38 = .ok (.aload_n 0, 1) := by decide +kernel
theorem dX7_bestKey_39 : decode cX7_bestKey 39 = .ok (.iload_n 1, 1) := by decide +kernel
theorem dX7_bestKey_40 : decode cX7_bestKey 40 = .ok (.iconst 0, 1) := by decide +kernel
theorem dX7_bestKey_41 : decode cX7_bestKey 41 = .ok (.invokevirtual 128, 3) := by decide +kernel
theorem dX7_bestKey_44 : decode cX7_bestKey 44 = .ok (.if_icmp .le 7, 3) := by decide +kernel
theorem dX7_bestKey_47 : decode cX7_bestKey 47 = .ok (.iload_n 2, 1) := by decide +kernel
theorem dX7_bestKey_48 : decode cX7_bestKey 48 = .ok (.goto 4, 3) := by decide +kernel
theorem dX7_bestKey_51 : decode cX7_bestKey 51 = .ok (.iload_n 1, 1) := by decide +kernel
theorem dX7_bestKey_52 : decode cX7_bestKey 52 = .ok (.istore_n 1, 1) := by decide +kernel
theorem dX7_bestKey_53 : decode cX7_bestKey 53 = .ok (.iinc 2 1, 3) := by decide +kernel
theorem dX7_bestKey_56 : decode cX7_bestKey 56 = .ok (.goto (-52), 3) := by decide +kernel
theorem dX7_bestKey_59 : decode cX7_bestKey 59 = .ok (.iload_n 1, 1) := by decide +kernel
theorem dX7_bestKey_60 : decode cX7_bestKey 60 = .ok (.ireturn, 1) := by decide +kernel
theorem dX7_type_0 : decode cX7_type 0 = .ok (.aload_n 0, 1) := by decide +kernel
theorem dX7_type_1 : decode cX7_type 1 = .ok (.getfield 131, 3) := by decide +kernel
theorem dX7_type_4 : decode cX7_type 4 = .ok (.bipush 60, 2) := by decide +kernel
theorem dX7_type_6 : decode cX7_type 6 = .ok (.if_icmp .ne 6, 3) := by decide +kernel
theorem dX7_type_9 : decode cX7_type 9 = .ok (.bipush (-3), 2) := by decide +kernel
theorem dX7_type_11 : decode cX7_type 11 = .ok (.ireturn, 1) := by decide +kernel
theorem dX7_type_12 : decode cX7_type 12 = .ok (.aload_n 0, 1) := by decide +kernel
theorem dX7_type_13 : decode cX7_type 13 = .ok (.getfield 25, 3) := by decide +kernel
theorem dX7_type_16 : decode cX7_type 16 = .ok (.aload_n 0, 1) := by decide +kernel
theorem dX7_type_17 : decode cX7_type 17 = .ok (.getfield 131, 3) := by decide +kernel
theorem dX7_type_20 : decode cX7_type 20 = .ok (.iload_n 1, 1) := by decide +kernel
theorem dX7_type_21 : decode cX7_type 21 = .ok (.castore, 1) := by decide +kernel
theorem dX7_type_22 : decode cX7_type 22 = .ok (.aload_n 0, 1) := by decide +kernel
theorem dX7_type_23 : decode cX7_type 23 = .ok (.dup, 1) := by decide +kernel
theorem dX7_type_24 : decode cX7_type 24 = .ok (.getfield 131, 3) := by decide +kernel
theorem dX7_type_27 : decode cX7_type 27 = .ok (.iconst 1, 1) := by decide +kernel
theorem dX7_type_28 : decode cX7_type 28 = .ok (.iadd, 1) := by decide +kernel
theorem dX7_type_29 : decode cX7_type 29 = .ok (.putfield 131, 3) := by decide +kernel
theorem dX7_type_32 : decode cX7_type 32 = .ok (.aload_n 0, 1) := by decide +kernel
theorem dX7_type_33 : decode cX7_type 33 = .ok (.getfield 131, 3) := by decide +kernel
theorem dX7_type_36 : decode cX7_type 36 = .ok (.ireturn, 1) := by decide +kernel
theorem dX7_clearText_0 : decode cX7_clearText 0 = .ok (.aload_n 0, 1) := by decide +kernel
theorem dX7_clearText_1 : decode cX7_clearText 1 = .ok (.getfield 131, 3) := by decide +kernel
theorem dX7_clearText_4 : decode cX7_clearText 4 = .ok (.istore_n 1, 1) := by decide +kernel
theorem dX7_clearText_5 : decode cX7_clearText 5 = .ok (.aload_n 0, 1) := by decide +kernel
theorem dX7_clearText_6 : decode cX7_clearText 6 = .ok (.iconst 0, 1) := by decide +kernel
theorem dX7_clearText_7 : decode cX7_clearText 7 = .ok (.putfield 131, 3) := by decide +kernel
theorem dX7_clearText_10 : decode cX7_clearText 10 = .ok (.iload_n 1, 1) := by decide +kernel
theorem dX7_clearText_11 : decode cX7_clearText 11 = .ok (.ireturn, 1) := by decide +kernel
theorem dX7_isSign_0 : decode cX7_isSign 0 = .ok (.aload_n 0, 1) := by decide +kernel
theorem dX7_isSign_1 : decode cX7_isSign 1 = .ok (.getfield 85, 3) := by decide +kernel
theorem dX7_isSign_4 : decode cX7_isSign 4 = .ok (.aload_n 0, 1) := by decide +kernel
theorem dX7_isSign_5 : decode cX7_isSign 5 = .ok (.getfield 131, 3) := by decide +kernel
theorem dX7_isSign_8 : decode cX7_isSign 8 = .ok (.if_icmp .ge 20, 3) := by decide +kernel
theorem dX7_isSign_11 : decode cX7_isSign 11 = .ok (.aload_n 0, 1) := by decide +kernel
theorem dX7_isSign_12 : decode cX7_isSign 12 = .ok (.getfield 25, 3) := by decide +kernel
theorem dX7_isSign_15 : decode cX7_isSign 15 = .ok (.aload_n 0, 1) := by decide +kernel
theorem dX7_isSign_16 : decode cX7_isSign 16 = .ok (.getfield 85, 3) := by decide +kernel
theorem dX7_isSign_19 : decode cX7_isSign 19 = .ok (.caload, 1) := by decide +kernel
theorem dX7_isSign_20 : decode cX7_isSign 20 = .ok (.iload_n 1, 1) := by decide +kernel
theorem dX7_isSign_21 : decode cX7_isSign 21 = .ok (.if_icmp .ne 7, 3) := by decide +kernel
theorem dX7_isSign_24 : decode cX7_isSign 24 = .ok (.iconst 1, 1) := by decide +kernel
theorem dX7_isSign_25 : decode cX7_isSign 25 = .ok (.goto 4, 3) := by decide +kernel
theorem dX7_isSign_28 : decode cX7_isSign 28 = .ok (.iconst 0, 1) := by decide +kernel
theorem dX7_isSign_29 : decode cX7_isSign 29 = .ok (.ireturn, 1) := by decide +kernel
theorem dX7_takes_0 : decode cX7_takes 0 = .ok (.aload_n 0, 1) := by decide +kernel
theorem dX7_takes_1 : decode cX7_takes 1 = .ok (.iload_n 1, 1) := by decide +kernel
theorem dX7_takes_2 : decode cX7_takes 2 = .ok (.invokevirtual 134, 3) := by decide +kernel
theorem dX7_takes_5 : decode cX7_takes 5 = .ok (.ifCond .ne 5, 3) := by decide +kernel
theorem dX7_takes_8 : decode cX7_takes 8 = .ok (.iconst 0, 1) := by decide +kernel
theorem dX7_takes_9 : decode cX7_takes 9 = .ok (.ireturn, 1) := by decide +kernel
theorem dX7_takes_10 : decode cX7_takes 10 = .ok (.aload_n 0, 1) := by decide +kernel
theorem dX7_takes_11 : decode cX7_takes 11 = .ok (.dup, 1) := by decide +kernel
theorem dX7_takes_12 : decode cX7_takes 12 = .ok (.getfield 85, 3) := by decide +kernel
theorem dX7_takes_15 : decode cX7_takes 15 = .ok (.iconst 1, 1) := by decide +kernel
theorem dX7_takes_16 : decode cX7_takes 16 = .ok (.iadd, 1) := by decide +kernel
theorem dX7_takes_17 : decode cX7_takes 17 = .ok (.putfield 85, 3) := by decide +kernel
theorem dX7_takes_20 : decode cX7_takes 20 = .ok (.iconst 1, 1) := by decide +kernel
theorem dX7_takes_21 : decode cX7_takes 21 = .ok (.ireturn, 1) := by decide +kernel
theorem dX7_isBetween_0 : decode cX7_isBetween 0 = .ok (.aload_n 0, 1) := by decide +kernel
theorem dX7_isBetween_1 : decode cX7_isBetween 1 = .ok (.getfield 85, 3) := by decide +kernel
theorem dX7_isBetween_4 : decode cX7_isBetween 4 = .ok (.aload_n 0, 1) := by decide +kernel
theorem dX7_isBetween_5 : decode cX7_isBetween 5 = .ok (.getfield 131, 3) := by decide +kernel
theorem dX7_isBetween_8 : decode cX7_isBetween 8 = .ok (.if_icmp .ge 24, 3) := by decide +kernel
theorem dX7_isBetween_11 : decode cX7_isBetween 11 = .ok (.aload_n 0, 1) := by decide +kernel
theorem dX7_isBetween_12 : decode cX7_isBetween 12 = .ok (.getfield 25, 3) := by decide +kernel
theorem dX7_isBetween_15 : decode cX7_isBetween 15 = .ok (.aload_n 0, 1) := by decide +kernel
theorem dX7_isBetween_16 : decode cX7_isBetween 16 = .ok (.getfield 85, 3) := by decide +kernel
theorem dX7_isBetween_19 : decode cX7_isBetween 19 = .ok (.caload, 1) := by decide +kernel
theorem dX7_isBetween_20 : decode cX7_isBetween 20 = .ok (.iload_n 1, 1) := by decide +kernel
theorem dX7_isBetween_21 : decode cX7_isBetween 21 = .ok (.iload_n 2, 1) := by decide +kernel
theorem dX7_isBetween_22 : decode cX7_isBetween 22 = .ok (.invokestatic 51, 3) := by decide +kernel
theorem dX7_isBetween_25 : decode cX7_isBetween 25 = .ok (.ifCond .eq 7, 3) := by decide +kernel
theorem dX7_isBetween_28 : decode cX7_isBetween 28 = .ok (.iconst 1, 1) := by decide +kernel
theorem dX7_isBetween_29 : decode cX7_isBetween 29 = .ok (.goto 4, 3) := by decide +kernel
theorem dX7_isBetween_32 : decode cX7_isBetween 32 = .ok (.iconst 0, 1) := by decide +kernel
theorem dX7_isBetween_33 : decode cX7_isBetween 33 = .ok (.ireturn, 1) := by decide +kernel
theorem dX7_takesKey_0 : decode cX7_takesKey 0 = .ok (.aload_n 0, 1) := by decide +kernel
theorem dX7_takesKey_1 : decode cX7_takesKey 1 = .ok (.bipush 48, 2) := by decide +kernel
theorem dX7_takesKey_3 : decode cX7_takesKey 3 = .ok (.bipush 57, 2) := by decide +kernel
theorem dX7_takesKey_5 : decode cX7_takesKey 5 = .ok (.invokevirtual 137, 3) := by decide +kernel
theorem dX7_takesKey_8 : decode cX7_takesKey 8 = .ok (.ifCond .ne 5, 3) := by decide +kernel
theorem dX7_takesKey_11 : decode cX7_takesKey 11 = .ok (.iconst 0, 1) := by decide +kernel
theorem dX7_takesKey_12 : decode cX7_takesKey 12 = .ok (.ireturn, 1) := by decide +kernel
theorem dX7_takesKey_13 : decode cX7_takesKey 13 = .ok (.aload_n 0, 1) := by decide +kernel
theorem dX7_takesKey_14 : decode cX7_takesKey 14 = .ok (.aload_n 0, 1) := by decide +kernel
theorem dX7_takesKey_15 : decode cX7_takesKey 15 = .ok (.getfield 25, 3) := by decide +kernel
theorem dX7_takesKey_18 : decode cX7_takesKey 18 = .ok (.aload_n 0, 1) := by decide +kernel
theorem dX7_takesKey_19 : decode cX7_takesKey 19 = .ok (.getfield 85, 3) := by decide +kernel
theorem dX7_takesKey_22 : decode cX7_takesKey 22 = .ok (.caload, 1) := by decide +kernel
theorem dX7_takesKey_23 : decode cX7_takesKey 23 = .ok (.bipush 48, 2) := by decide +kernel
theorem dX7_takesKey_25 : decode cX7_takesKey 25 = .ok (.isub, 1) := by decide +kernel
theorem dX7_takesKey_26 : decode cX7_takesKey 26 = .ok (.putfield 140, 3) := by decide +kernel
theorem dX7_takesKey_29 : decode cX7_takesKey 29 = .ok (.aload_n 0, 1) := by decide +kernel
theorem dX7_takesKey_30 : decode cX7_takesKey 30 = .ok (.dup, 1) := by decide +kernel
theorem dX7_takesKey_31 : decode cX7_takesKey 31 = .ok (.getfield 85, 3) := by decide +kernel
theorem dX7_takesKey_34 : decode cX7_takesKey 34 = .ok (.iconst 1, 1) := by decide +kernel
theorem dX7_takesKey_35 : decode cX7_takesKey 35 = .ok (.iadd, 1) := by decide +kernel
theorem dX7_takesKey_36 : decode cX7_takesKey 36 = .ok (.putfield 85, 3) := by decide +kernel
theorem dX7_takesKey_39 : decode cX7_takesKey 39 = .ok (.aload_n 0, 1) := by decide +kernel
theorem dX7_takesKey_40 : decode cX7_takesKey 40 = .ok (.getfield 140, 3) := by decide +kernel
theorem dX7_takesKey_43 : decode cX7_takesKey 43 = .ok (.iconst 1, 1) := by decide +kernel
theorem dX7_takesKey_44 : decode cX7_takesKey 44 = .ok (.if_icmp .ne 43, 3) := by decide +kernel
theorem dX7_takesKey_47 : decode cX7_takesKey 47 = .ok (.aload_n 0, 1) := by decide +kernel
theorem dX7_takesKey_48 : decode cX7_takesKey 48 = .ok (.bipush 48, 2) := by decide +kernel
theorem dX7_takesKey_50 : decode cX7_takesKey 50 = .ok (.bipush 53, 2) := by decide +kernel
theorem dX7_takesKey_52 : decode cX7_takesKey 52 = .ok (.invokevirtual 137, 3) := by decide +kernel
theorem dX7_takesKey_55 : decode cX7_takesKey 55 = .ok (.ifCond .eq 32, 3) := by decide +kernel
theorem dX7_takesKey_58 : decode cX7_takesKey 58 = .ok (.aload_n 0, 1) := by decide +kernel
theorem dX7_takesKey_59 : decode cX7_takesKey 59 = .ok (.bipush 10, 2) := by decide +kernel
theorem dX7_takesKey_61 : decode cX7_takesKey 61 = .ok (.aload_n 0, 1) := by decide +kernel
theorem dX7_takesKey_62 : decode cX7_takesKey 62 = .ok (.getfield 25, 3) := by decide +kernel
theorem dX7_takesKey_65 : decode cX7_takesKey 65 = .ok (.aload_n 0, 1) := by decide +kernel
theorem dX7_takesKey_66 : decode cX7_takesKey 66 = .ok (.getfield 85, 3) := by decide +kernel
theorem dX7_takesKey_69 : decode cX7_takesKey 69 = .ok (.caload, 1) := by decide +kernel
theorem dX7_takesKey_70 : decode cX7_takesKey 70 = .ok (.iadd, 1) := by decide +kernel
theorem dX7_takesKey_71 : decode cX7_takesKey 71 = .ok (.bipush 48, 2) := by decide +kernel
theorem dX7_takesKey_73 : decode cX7_takesKey 73 = .ok (.isub, 1) := by decide +kernel
theorem dX7_takesKey_74 : decode cX7_takesKey 74 = .ok (.putfield 140, 3) := by decide +kernel
theorem dX7_takesKey_77 : decode cX7_takesKey 77 = .ok (.aload_n 0, 1) := by decide +kernel
theorem dX7_takesKey_78 : decode cX7_takesKey 78 = .ok (.dup, 1) := by decide +kernel
theorem dX7_takesKey_79 : decode cX7_takesKey 79 = .ok (.getfield 85, 3) := by decide +kernel
theorem dX7_takesKey_82 : decode cX7_takesKey 82 = .ok (.iconst 1, 1) := by decide +kernel
theorem dX7_takesKey_83 : decode cX7_takesKey 83 = .ok (.iadd, 1) := by decide +kernel
theorem dX7_takesKey_84 : decode cX7_takesKey 84 = .ok (.putfield 85, 3) := by decide +kernel
theorem dX7_takesKey_87 : decode cX7_takesKey 87 = .ok (.iconst 1, 1) := by decide +kernel
theorem dX7_takesKey_88 : decode cX7_takesKey 88 = .ok (.ireturn, 1) := by decide +kernel
theorem dX7_isLayerText_0 : decode cX7_isLayerText 0 = .ok (.iconst 0, 1) := by decide +kernel
theorem dX7_isLayerText_1 : decode cX7_isLayerText 1 = .ok (.istore_n 1, 1) := by decide +kernel
theorem dX7_isLayerText_2 : decode cX7_isLayerText 2 = .ok (.iload_n 1, 1) := by decide +kernel
theorem dX7_isLayerText_3 : decode cX7_isLayerText 3 = .ok (.bipush 16, 2) := by decide +kernel
theorem dX7_isLayerText_5 : decode cX7_isLayerText 5 = .ok (.if_icmp .ge 17, 3) := by decide +kernel
theorem dX7_isLayerText_8 : decode cX7_isLayerText 8 = .ok (.aload_n 0, 1) := by decide +kernel
theorem dX7_isLayerText_9 : decode cX7_isLayerText 9 = .ok (.getfield 22, 3) := by decide +kernel
theorem dX7_isLayerText_12 : decode cX7_isLayerText 12 = .ok (.iload_n 1, 1) := by decide +kernel
theorem dX7_isLayerText_13 : decode cX7_isLayerText 13 = .ok (.bipush 17, 2) := by decide +kernel
theorem dX7_isLayerText_15 : decode cX7_isLayerText 15 = .ok (.iastore, 1) := by decide +kernel
theorem dX7_isLayerText_16 : decode cX7_isLayerText 16 = .ok (.iinc 1 1, 3) := by decide +kernel
theorem dX7_isLayerText_19 : decode cX7_isLayerText 19 = .ok (.goto (-17), 3) := by decide +kernel
theorem dX7_isLayerText_22 : decode cX7_isLayerText 22 = .ok (.aload_n 0, 1) := by decide +kernel
theorem dX7_isLayerText_23 : decode cX7_isLayerText 23 = .ok (.iconst 0, 1) := by decide +kernel
theorem dX7_isLayerText_24 : decode cX7_isLayerText 24 = .ok (.putfield 85, 3) := by decide +kernel
theorem dX7_isLayerText_27 : decode cX7_isLayerText 27 = .ok (.iconst 1, 1) := by decide +kernel
theorem dX7_isLayerText_28 : decode cX7_isLayerText 28 = .ok (.istore_n 1, 1) := by decide +kernel
theorem dX7_isLayerText_29 : decode cX7_isLayerText 29 = .ok (.iload_n 1, 1) := by decide +kernel
theorem dX7_isLayerText_30 : decode cX7_isLayerText 30 = .ok (.ifCond .eq 105, 3) := by decide +kernel
theorem dX7_isLayerText_33 : decode cX7_isLayerText 33 = .ok (.aload_n 0, 1) := by decide +kernel
theorem dX7_isLayerText_34 : decode cX7_isLayerText 34 = .ok (.invokevirtual 143, 3) := by decide +kernel
theorem dX7_isLayerText_37 : decode cX7_isLayerText 37 = .ok (.ifCond .ne 5, 3) := by decide +kernel
theorem dX7_isLayerText_40 : decode cX7_isLayerText 40 = .ok (.iconst 0, 1) := by decide +kernel
theorem dX7_isLayerText_41 : decode cX7_isLayerText 41 = .ok (.ireturn, 1) := by decide +kernel
theorem dX7_isLayerText_42 : decode cX7_isLayerText 42 = .ok (.aload_n 0, 1) := by decide +kernel
theorem dX7_isLayerText_43 : decode cX7_isLayerText 43 = .ok (.getfield 140, 3) := by decide +kernel
theorem dX7_isLayerText_46 : decode cX7_isLayerText 46 = .ok (.istore_n 2, 1) := by decide +kernel
theorem dX7_isLayerText_47 : decode cX7_isLayerText 47 = .ok (.aload_n 0, 1) := by decide +kernel
theorem dX7_isLayerText_48 : decode cX7_isLayerText 48 = .ok (.bipush 62, 2) := by decide +kernel
theorem dX7_isLayerText_50 : decode cX7_isLayerText 50 = .ok (.invokevirtual 146, 3) := by decide +kernel
theorem dX7_isLayerText_53 : decode cX7_isLayerText 53 = .ok (.ifCond .ne 5, 3) := by decide +kernel
theorem dX7_isLayerText_56 : decode cX7_isLayerText 56 = .ok (.iconst 0, 1) := by decide +kernel
theorem dX7_isLayerText_57 : decode cX7_isLayerText 57 = .ok (.ireturn, 1) := by decide +kernel
theorem dX7_isLayerText_58 : decode cX7_isLayerText 58 = .ok (.aload_n 0, 1) := by decide +kernel
theorem dX7_isLayerText_59 : decode cX7_isLayerText 59 = .ok (.bipush 45, 2) := by decide +kernel
theorem dX7_isLayerText_61 : decode cX7_isLayerText 61 = .ok (.invokevirtual 146, 3) := by decide +kernel
theorem dX7_isLayerText_64 : decode cX7_isLayerText 64 = .ok (.ifCond .eq 14, 3) := by decide +kernel
theorem dX7_isLayerText_67 : decode cX7_isLayerText 67 = .ok (.aload_n 0, 1) := by decide +kernel
theorem dX7_isLayerText_68 : decode cX7_isLayerText 68 = .ok (.getfield 22, 3) := by decide +kernel
theorem dX7_isLayerText_71 : decode cX7_isLayerText 71 = .ok (.iload_n 2, 1) := by decide +kernel
theorem dX7_isLayerText_72 : decode cX7_isLayerText 72 = .ok (.bipush 16, 2) := by decide +kernel
theorem dX7_isLayerText_74 : decode cX7_isLayerText 74 = .ok (.iastore, 1) := by decide +kernel
theorem dX7_isLayerText_75 : decode cX7_isLayerText 75 = .ok (.goto 25, 3) := by decide +kernel
theorem dX7_isLayerText_78 : decode cX7_isLayerText 78 = .ok (.aload_n 0, 1) := by decide +kernel
theorem dX7_isLayerText_79 : decode cX7_isLayerText 79 = .ok (.invokevirtual 143, 3) := by decide +kernel
theorem dX7_isLayerText_82 : decode cX7_isLayerText 82 = .ok (.ifCond .eq 16, 3) := by decide +kernel
theorem dX7_isLayerText_85 : decode cX7_isLayerText 85 = .ok (.aload_n 0, 1) := by decide +kernel
theorem dX7_isLayerText_86 : decode cX7_isLayerText 86 = .ok (.getfield 22, 3) := by decide +kernel
theorem dX7_isLayerText_89 : decode cX7_isLayerText 89 = .ok (.iload_n 2, 1) := by decide +kernel
theorem dX7_isLayerText_90 : decode cX7_isLayerText 90 = .ok (.aload_n 0, 1) := by decide +kernel
theorem dX7_isLayerText_91 : decode cX7_isLayerText 91 = .ok (.getfield 140, 3) := by decide +kernel
theorem dX7_isLayerText_94 : decode cX7_isLayerText 94 = .ok (.iastore, 1) := by decide +kernel
theorem dX7_isLayerText_95 : decode cX7_isLayerText 95 = .ok (.goto 5, 3) := by decide +kernel
theorem dX7_isLayerText_98 : decode cX7_isLayerText 98 = .ok (.iconst 0, 1) := by decide +kernel
theorem dX7_isLayerText_99 : decode cX7_isLayerText 99 = .ok (.ireturn, 1) := by decide +kernel
theorem dX7_isLayerText_100 : decode cX7_isLayerText 100 = .ok (.aload_n 0, 1) := by decide +kernel
theorem dX7_isLayerText_101 : decode cX7_isLayerText 101 = .ok (.getfield 85, 3) := by decide +kernel
theorem dX7_isLayerText_104 : decode cX7_isLayerText 104 = .ok (.aload_n 0, 1) := by decide +kernel
theorem dX7_isLayerText_105 : decode cX7_isLayerText 105 = .ok (.getfield 131, 3) := by decide +kernel
theorem dX7_isLayerText_108 : decode cX7_isLayerText 108 = .ok (.if_icmp .ge 7, 3) := by decide +kernel
theorem dX7_isLayerText_111 : decode cX7_isLayerText 111 = .ok (.iconst 1, 1) := by decide +kernel
theorem dX7_isLayerText_112 : decode cX7_isLayerText 112 = .ok (.goto 4, 3) := by decide +kernel
theorem dX7_isLayerText_115 : decode cX7_isLayerText 115 = .ok (.iconst 0, 1) := by decide +kernel
theorem dX7_isLayerText_116 : decode cX7_isLayerText 116 = .ok (.istore_n 1, 1) := by decide +kernel
theorem dX7_isLayerText_117 : decode cX7_isLayerText 117 = .ok (.iload_n 1, 1) := by decide +kernel
theorem dX7_isLayerText_118 : decode cX7_isLayerText 118 = .ok (.ifCond .eq 14, 3) := by decide +kernel
theorem dX7_isLayerText_121 : decode cX7_isLayerText 121 = .ok (.aload_n 0, 1) := by decide +kernel
theorem dX7_isLayerText_122 : decode cX7_isLayerText 122 = .ok (.bipush 44, 2) := by decide +kernel
theorem dX7_isLayerText_124 : decode cX7_isLayerText 124 = .ok (.invokevirtual 146, 3) := by decide +kernel
theorem dX7_isLayerText_127 : decode cX7_isLayerText 127 = .ok (.ifCond .ne 5, 3) := by decide +kernel
theorem dX7_isLayerText_130 : decode cX7_isLayerText 130 = .ok (.iconst 0, 1) := by decide +kernel
theorem dX7_isLayerText_131 : decode cX7_isLayerText 131 = .ok (.ireturn, 1) := by decide +kernel
theorem dX7_isLayerText_132 : decode cX7_isLayerText 132 = .ok (.goto (-103), 3) := by decide +kernel
theorem dX7_isLayerText_135 : decode cX7_isLayerText 135 = .ok (.iconst 1, 1) := by decide +kernel
theorem dX7_isLayerText_136 : decode cX7_isLayerText 136 = .ok (.ireturn, 1) := by decide +kernel
theorem dX7_inverts_0 : decode cX7_inverts 0 = .ok (.iconst 0, 1) := by decide +kernel
theorem dX7_inverts_1 : decode cX7_inverts 1 = .ok (.istore_n 1, 1) := by decide +kernel
theorem dX7_inverts_2 : decode cX7_inverts 2 = .ok (.iload_n 1, 1) := by decide +kernel
theorem dX7_inverts_3 : decode cX7_inverts 3 = .ok (.bipush 16, 2) := by decide +kernel
theorem dX7_inverts_5 : decode cX7_inverts 5 = .ok (.if_icmp .ge 110, 3) := by decide +kernel
theorem dX7_inverts_8 : decode cX7_inverts 8 = .ok (.iconst 0, 1) := by decide +kernel
theorem dX7_inverts_9 : decode cX7_inverts 9 = .ok (.istore_n 2, 1) := by decide +kernel
theorem dX7_inverts_10 : decode cX7_inverts 10 = .ok (.bipush 16, 2) := by decide +kernel
theorem dX7_inverts_12 : decode cX7_inverts 12 = .ok (.istore_n 3, 1) := by decide +kernel
theorem dX7_inverts_13 : decode cX7_inverts 13 = .ok (.bipush 16, 2) := by decide +kernel
theorem dX7_inverts_15 : decode cX7_inverts 15 = .ok (.istore 4, 2) := by decide +kernel
theorem dX7_inverts_17 : decode cX7_inverts 17 = .ok (.iconst 0, 1) := by decide +kernel
theorem dX7_inverts_18 : decode cX7_inverts 18 = .ok (.istore 5, 2) := by decide +kernel
theorem dX7_inverts_20 : decode cX7_inverts 20 = .ok (.iload 5, 2) := by decide +kernel
theorem dX7_inverts_22 : decode cX7_inverts 22 = .ok (.bipush 16, 2) := by decide +kernel
theorem dX7_inverts_24 : decode cX7_inverts 24 = .ok (.if_icmp .ge 40, 3) := by decide +kernel
theorem dX7_inverts_27 : decode cX7_inverts 27 = .ok (.aload_n 0, 1) := by decide +kernel
theorem dX7_inverts_28 : decode cX7_inverts 28 = .ok (.getfield 29, 3) := by decide +kernel
theorem dX7_inverts_31 : decode cX7_inverts 31 = .ok (.iload 5, 2) := by decide +kernel
theorem dX7_inverts_33 : decode cX7_inverts 33 = .ok (.iaload, 1) := by decide +kernel
theorem dX7_inverts_34 : decode cX7_inverts 34 = .ok (.iload_n 1, 1) := by decide +kernel
theorem dX7_inverts_35 : decode cX7_inverts 35 = .ok (.if_icmp .ne 23, 3) := by decide +kernel
theorem dX7_inverts_38 : decode cX7_inverts 38 = .ok (.iinc 2 1, 3) := by decide +kernel
theorem dX7_inverts_41 : decode cX7_inverts 41 = .ok (.iload_n 3, 1) := by decide +kernel
theorem dX7_inverts_42 : decode cX7_inverts 42 = .ok (.bipush 16, 2) := by decide +kernel
theorem dX7_inverts_44 : decode cX7_inverts 44 = .ok (.if_icmp .ne 8, 3) := by decide +kernel
theorem dX7_inverts_47 : decode cX7_inverts 47 = .ok (.iload 5, 2) := by decide +kernel
theorem dX7_inverts_49 : decode cX7_inverts 49 = .ok (.goto 4, 3) := by decide +kernel
theorem dX7_inverts_52 : decode cX7_inverts 52 = .ok (.iload_n 3, 1) := by decide +kernel
theorem dX7_inverts_53 : decode cX7_inverts 53 = .ok (.istore_n 3, 1) := by decide +kernel
theorem dX7_inverts_54 : decode cX7_inverts 54 = .ok (.iload 5, 2) := by decide +kernel
theorem dX7_inverts_56 : decode cX7_inverts 56 = .ok (.istore 4, 2) := by decide +kernel
theorem dX7_inverts_58 : decode cX7_inverts 58 = .ok (.iinc 5 1, 3) := by decide +kernel
theorem dX7_inverts_61 : decode cX7_inverts 61 = .ok (.goto (-41), 3) := by decide +kernel
theorem dX7_inverts_64 : decode cX7_inverts 64 = .ok (.aload_n 0, 1) := by decide +kernel
theorem dX7_inverts_65 : decode cX7_inverts 65 = .ok (.getfield 45, 3) := by decide +kernel
theorem dX7_inverts_68 : decode cX7_inverts 68 = .ok (.iload_n 1, 1) := by decide +kernel
theorem dX7_inverts_69 : decode cX7_inverts 69 = .ok (.aload_n 0, 1) := by decide +kernel
theorem dX7_inverts_70 : decode cX7_inverts 70 = .ok (.getfield 7, 3) := by decide +kernel
theorem dX7_inverts_73 : decode cX7_inverts 73 = .ok (.sipush 414, 3) := by decide +kernel
theorem dX7_inverts_76 : decode cX7_inverts 76 = .ok (.iaload, 1) := by decide +kernel
theorem dX7_inverts_77 : decode cX7_inverts 77 = .ok (.ifCond .ne 13, 3) := by decide +kernel
theorem dX7_inverts_80 : decode cX7_inverts 80 = .ok (.iload_n 2, 1) := by decide +kernel
theorem dX7_inverts_81 : decode cX7_inverts 81 = .ok (.iconst 1, 1) := by decide +kernel
theorem dX7_inverts_82 : decode cX7_inverts 82 = .ok (.if_icmp .le 8, 3) := by decide +kernel
theorem dX7_inverts_85 : decode cX7_inverts 85 = .ok (.bipush 16, 2) := by decide +kernel
theorem dX7_inverts_87 : decode cX7_inverts 87 = .ok (.goto 21, 3) := by decide +kernel
theorem dX7_inverts_90 : decode cX7_inverts 90 = .ok (.aload_n 0, 1) := by decide +kernel
theorem dX7_inverts_91 : decode cX7_inverts 91 = .ok (.getfield 7, 3) := by decide +kernel
theorem dX7_inverts_94 : decode cX7_inverts 94 = .ok (.sipush 414, 3) := by decide +kernel
theorem dX7_inverts_97 : decode cX7_inverts 97 = .ok (.iaload, 1) := by decide +kernel
theorem dX7_inverts_98 : decode cX7_inverts 98 = .ok (.iconst 2, 1) := by decide +kernel
theorem dX7_inverts_99 : decode cX7_inverts 99 = .ok (.if_icmp .ne 8, 3) := by decide +kernel
theorem dX7_inverts_102 : decode cX7_inverts 102 = .ok (.iload 4, 2) := by decide +kernel
theorem dX7_inverts_104 : decode cX7_inverts 104 = .ok (.goto 4, 3) := by decide +kernel
theorem dX7_inverts_107 : decode cX7_inverts 107 = .ok (.iload_n 3, 1) := by decide +kernel
theorem dX7_inverts_108 : decode cX7_inverts 108 = .ok (.iastore, 1) := by decide +kernel
theorem dX7_inverts_109 : decode cX7_inverts 109 = .ok (.iinc 1 1, 3) := by decide +kernel
theorem dX7_inverts_112 : decode cX7_inverts 112 = .ok (.goto (-110), 3) := by decide +kernel
theorem dX7_inverts_115 : decode cX7_inverts 115 = .ok (.aload_n 0, 1) := by decide +kernel
theorem dX7_inverts_116 : decode cX7_inverts 116 = .ok (.invokevirtual 149, 3) := by decide +kernel
theorem dX7_inverts_119 : decode cX7_inverts 119 = .ok (.return_, 1) := by decide +kernel
theorem dX7_settles_0 : decode cX7_settles 0 = .ok (.iconst 0, 1) := by decide +kernel
theorem dX7_settles_1 : decode cX7_settles 1 = .ok (.istore_n 1, 1) := by decide +kernel
theorem dX7_settles_2 : decode cX7_settles 2 = .ok (.iload_n 1, 1) := by decide +kernel
theorem dX7_settles_3 : decode cX7_settles 3 = .ok (.bipush 16, 2) := by decide +kernel
theorem dX7_settles_5 : decode cX7_settles 5 = .ok (.if_icmp .ge 21, 3) := by decide +kernel
theorem dX7_settles_8 : decode cX7_settles 8 = .ok (.aload_n 0, 1) := by decide +kernel
theorem dX7_settles_9 : decode cX7_settles 9 = .ok (.getfield 29, 3) := by decide +kernel
theorem dX7_settles_12 : decode cX7_settles 12 = .ok (.iload_n 1, 1) := by decide +kernel
theorem dX7_settles_13 : decode cX7_settles 13 = .ok (.aload_n 0, 1) := by decide +kernel
theorem dX7_settles_14 : decode cX7_settles 14 = .ok (.getfield 45, 3) := by decide +kernel
theorem dX7_settles_17 : decode cX7_settles 17 = .ok (.iload_n 1, 1) := by decide +kernel
theorem dX7_settles_18 : decode cX7_settles 18 = .ok (.iaload, 1) := by decide +kernel
theorem dX7_settles_19 : decode cX7_settles 19 = .ok (.iastore, 1) := by decide +kernel
theorem dX7_settles_20 : decode cX7_settles 20 = .ok (.iinc 1 1, 3) := by decide +kernel
theorem dX7_settles_23 : decode cX7_settles 23 = .ok (.goto (-21), 3) := by decide +kernel
theorem dX7_settles_26 : decode cX7_settles 26 = .ok (.return_, 1) := by decide +kernel
theorem dX7_repeats_0 : decode cX7_repeats 0 = .ok (.iconst 0, 1) := by decide +kernel
theorem dX7_repeats_1 : decode cX7_repeats 1 = .ok (.istore_n 2, 1) := by decide +kernel
theorem dX7_repeats_2 : decode cX7_repeats 2 = .ok (.iload_n 2, 1) := by decide +kernel
theorem dX7_repeats_3 : decode cX7_repeats 3 = .ok (.bipush 16, 2) := by decide +kernel
theorem dX7_repeats_5 : decode cX7_repeats 5 = .ok (.if_icmp .ge 46, 3) := by decide +kernel
theorem dX7_repeats_8 : decode cX7_repeats 8 = .ok (.iload_n 2, 1) := by decide +kernel
theorem dX7_repeats_9 : decode cX7_repeats 9 = .ok (.istore_n 3, 1) := by decide +kernel
theorem dX7_repeats_10 : decode cX7_repeats 10 = .ok (.iconst 0, 1) := by decide +kernel
theorem dX7_repeats_11 : decode cX7_repeats 11 = .ok (.istore 4, 2) := by decide +kernel
theorem dX7_repeats_13 : decode cX7_repeats 13 = .ok (.iload 4, 2) := by decide +kernel
theorem dX7_repeats_15 : decode cX7_repeats 15 = .ok (.iload_n 1, 1) := by decide +kernel
theorem dX7_repeats_16 : decode cX7_repeats 16 = .ok (.if_icmp .ge 22, 3) := by decide +kernel
theorem dX7_repeats_19 : decode cX7_repeats 19 = .ok (.iload_n 3, 1) := by decide +kernel
theorem dX7_repeats_20 : decode cX7_repeats 20 = .ok (.bipush 16, 2) := by decide +kernel
theorem dX7_repeats_22 : decode cX7_repeats 22 = .ok (.if_icmp .eq 16, 3) := by decide +kernel
theorem dX7_repeats_25 : decode cX7_repeats 25 = .ok (.aload_n 0, 1) := by decide +kernel
theorem dX7_repeats_26 : decode cX7_repeats 26 = .ok (.getfield 29, 3) := by decide +kernel
theorem dX7_repeats_29 : decode cX7_repeats 29 = .ok (.iload_n 3, 1) := by decide +kernel
theorem dX7_repeats_30 : decode cX7_repeats 30 = .ok (.iaload, 1) := by decide +kernel
theorem dX7_repeats_31 : decode cX7_repeats 31 = .ok (.istore_n 3, 1) := by decide +kernel
theorem dX7_repeats_32 : decode cX7_repeats 32 = .ok (.iinc 4 1, 3) := by decide +kernel
theorem dX7_repeats_35 : decode cX7_repeats 35 = .ok (.goto (-22), 3) := by decide +kernel
theorem dX7_repeats_38 : decode cX7_repeats 38 = .ok (.aload_n 0, 1) := by decide +kernel
theorem dX7_repeats_39 : decode cX7_repeats 39 = .ok (.getfield 45, 3) := by decide +kernel
theorem dX7_repeats_42 : decode cX7_repeats 42 = .ok (.iload_n 2, 1) := by decide +kernel
theorem dX7_repeats_43 : decode cX7_repeats 43 = .ok (.iload_n 3, 1) := by decide +kernel
theorem dX7_repeats_44 : decode cX7_repeats 44 = .ok (.iastore, 1) := by decide +kernel
theorem dX7_repeats_45 : decode cX7_repeats 45 = .ok (.iinc 2 1, 3) := by decide +kernel
theorem dX7_repeats_48 : decode cX7_repeats 48 = .ok (.goto (-46), 3) := by decide +kernel
theorem dX7_repeats_51 : decode cX7_repeats 51 = .ok (.aload_n 0, 1) := by decide +kernel
theorem dX7_repeats_52 : decode cX7_repeats 52 = .ok (.invokevirtual 149, 3) := by decide +kernel
theorem dX7_repeats_55 : decode cX7_repeats 55 = .ok (.return_, 1) := by decide +kernel
theorem dX7_joins_0 : decode cX7_joins 0 = .ok (.iconst 0, 1) := by decide +kernel
theorem dX7_joins_1 : decode cX7_joins 1 = .ok (.istore_n 1, 1) := by decide +kernel
theorem dX7_joins_2 : decode cX7_joins 2 = .ok (.iload_n 1, 1) := by decide +kernel
theorem dX7_joins_3 : decode cX7_joins 3 = .ok (.bipush 16, 2) := by decide +kernel
theorem dX7_joins_5 : decode cX7_joins 5 = .ok (.if_icmp .ge 70, 3) := by decide +kernel
theorem dX7_joins_8 : decode cX7_joins 8 = .ok (.bipush 16, 2) := by decide +kernel
theorem dX7_joins_10 : decode cX7_joins 10 = .ok (.aload_n 0, 1) := by decide +kernel
theorem dX7_joins_11 : decode cX7_joins 11 = .ok (.getfield 152, 3) := by decide +kernel
theorem dX7_joins_14 : decode cX7_joins 14 = .ok (.imul, 1) := by decide +kernel
theorem dX7_joins_15 : decode cX7_joins 15 = .ok (.iload_n 1, 1) := by decide +kernel
theorem dX7_joins_16 : decode cX7_joins 16 = .ok (.iadd, 1) := by decide +kernel
theorem dX7_joins_17 : decode cX7_joins 17 = .ok (.istore_n 2, 1) := by decide +kernel
theorem dX7_joins_18 : decode cX7_joins 18 = .ok (.aload_n 0, 1) := by decide +kernel
theorem dX7_joins_19 : decode cX7_joins 19 = .ok (.getfield 39, 3) := by decide +kernel
theorem dX7_joins_22 : decode cX7_joins 22 = .ok (.iload_n 2, 1) := by decide +kernel
theorem dX7_joins_23 : decode cX7_joins 23 = .ok (.iaload, 1) := by decide +kernel
theorem dX7_joins_24 : decode cX7_joins 24 = .ok (.istore_n 3, 1) := by decide +kernel
theorem dX7_joins_25 : decode cX7_joins 25 = .ok (.aload_n 0, 1) := by decide +kernel
theorem dX7_joins_26 : decode cX7_joins 26 = .ok (.getfield 45, 3) := by decide +kernel
theorem dX7_joins_29 : decode cX7_joins 29 = .ok (.iload_n 1, 1) := by decide +kernel
theorem dX7_joins_30 : decode cX7_joins 30 = .ok (.aload_n 0, 1) := by decide +kernel
theorem dX7_joins_31 : decode cX7_joins 31 = .ok (.getfield 42, 3) := by decide +kernel
theorem dX7_joins_34 : decode cX7_joins 34 = .ok (.aload_n 0, 1) := by decide +kernel
theorem dX7_joins_35 : decode cX7_joins 35 = .ok (.getfield 152, 3) := by decide +kernel
theorem dX7_joins_38 : decode cX7_joins 38 = .ok (.baload, 1) := by decide +kernel
theorem dX7_joins_39 : decode cX7_joins 39 = .ok (.ifCond .ne 12, 3) := by decide +kernel
theorem dX7_joins_42 : decode cX7_joins 42 = .ok (.aload_n 0, 1) := by decide +kernel
theorem dX7_joins_43 : decode cX7_joins 43 = .ok (.getfield 29, 3) := by decide +kernel
theorem dX7_joins_46 : decode cX7_joins 46 = .ok (.iload_n 1, 1) := by decide +kernel
theorem dX7_joins_47 : decode cX7_joins 47 = .ok (.iaload, 1) := by decide +kernel
theorem dX7_joins_48 : decode cX7_joins 48 = .ok (.goto 20, 3) := by decide +kernel
theorem dX7_joins_51 : decode cX7_joins 51 = .ok (.iload_n 3, 1) := by decide +kernel
theorem dX7_joins_52 : decode cX7_joins 52 = .ok (.bipush 16, 2) := by decide +kernel
theorem dX7_joins_54 : decode cX7_joins 54 = .ok (.if_icmp .ne 8, 3) := by decide +kernel
theorem dX7_joins_57 : decode cX7_joins 57 = .ok (.bipush 16, 2) := by decide +kernel
theorem dX7_joins_59 : decode cX7_joins 59 = .ok (.goto 9, 3) := by decide +kernel
theorem dX7_joins_62 : decode cX7_joins 62 = .ok (.aload_n 0, 1) := by decide +kernel
theorem dX7_joins_63 : decode cX7_joins 63 = .ok (.getfield 29, 3) := by decide +kernel
theorem dX7_joins_66 : decode cX7_joins 66 = .ok (.iload_n 3, 1) := by decide +kernel
theorem dX7_joins_67 : decode cX7_joins 67 = .ok (.iaload, 1) := by decide +kernel
theorem dX7_joins_68 : decode cX7_joins 68 = .ok (.iastore, 1) := by decide +kernel
theorem dX7_joins_69 : decode cX7_joins 69 = .ok (.iinc 1 1, 3) := by decide +kernel
theorem dX7_joins_72 : decode cX7_joins 72 = .ok (.goto (-70), 3) := by decide +kernel
theorem dX7_joins_75 : decode cX7_joins 75 = .ok (.aload_n 0, 1) := by decide +kernel
theorem dX7_joins_76 : decode cX7_joins 76 = .ok (.invokevirtual 149, 3) := by decide +kernel
theorem dX7_joins_79 : decode cX7_joins 79 = .ok (.iconst 0, 1) := by decide +kernel
theorem dX7_joins_80 : decode cX7_joins 80 = .ok (.istore_n 1, 1) := by decide +kernel
theorem dX7_joins_81 : decode cX7_joins 81 = .ok (.iload_n 1, 1) := by decide +kernel
theorem dX7_joins_82 : decode cX7_joins 82 = .ok (.bipush 16, 2) := by decide +kernel
theorem dX7_joins_84 : decode cX7_joins 84 = .ok (.if_icmp .ge 29, 3) := by decide +kernel
theorem dX7_joins_87 : decode cX7_joins 87 = .ok (.aload_n 0, 1) := by decide +kernel
theorem dX7_joins_88 : decode cX7_joins 88 = .ok (.getfield 39, 3) := by decide +kernel
theorem dX7_joins_91 : decode cX7_joins 91 = .ok (.bipush 16, 2) := by decide +kernel
theorem dX7_joins_93 : decode cX7_joins 93 = .ok (.aload_n 0, 1) := by decide +kernel
theorem dX7_joins_94 : decode cX7_joins 94 = .ok (.getfield 152, 3) := by decide +kernel
theorem dX7_joins_97 : decode cX7_joins 97 = .ok (.imul, 1) := by decide +kernel
theorem dX7_joins_98 : decode cX7_joins 98 = .ok (.iload_n 1, 1) := by decide +kernel
theorem dX7_joins_99 : decode cX7_joins 99 = .ok (.iadd, 1) := by decide +kernel
theorem dX7_joins_100 : decode cX7_joins 100 = .ok (.aload_n 0, 1) := by decide +kernel
theorem dX7_joins_101 : decode cX7_joins 101 = .ok (.getfield 29, 3) := by decide +kernel
theorem dX7_joins_104 : decode cX7_joins 104 = .ok (.iload_n 1, 1) := by decide +kernel
theorem dX7_joins_105 : decode cX7_joins 105 = .ok (.iaload, 1) := by decide +kernel
theorem dX7_joins_106 : decode cX7_joins 106 = .ok (.iastore, 1) := by decide +kernel
theorem dX7_joins_107 : decode cX7_joins 107 = .ok (.iinc 1 1, 3) := by decide +kernel
theorem dX7_joins_110 : decode cX7_joins 110 = .ok (.goto (-29), 3) := by decide +kernel
theorem dX7_joins_113 : decode cX7_joins 113 = .ok (.aload_n 0, 1) := by decide +kernel
theorem dX7_joins_114 : decode cX7_joins 114 = .ok (.getfield 42, 3) := by decide +kernel
theorem dX7_joins_117 : decode cX7_joins 117 = .ok (.aload_n 0, 1) := by decide +kernel
theorem dX7_joins_118 : decode cX7_joins 118 = .ok (.getfield 152, 3) := by decide +kernel
theorem dX7_joins_121 : decode cX7_joins 121 = .ok (.iconst 1, 1) := by decide +kernel
theorem dX7_joins_122 : decode cX7_joins 122 = .ok (.bastore, 1) := by decide +kernel
theorem dX7_joins_123 : decode cX7_joins 123 = .ok (.return_, 1) := by decide +kernel
theorem dX7_underlies_0 : decode cX7_underlies 0 = .ok (.aload_n 0, 1) := by decide +kernel
theorem dX7_underlies_1 : decode cX7_underlies 1 = .ok (.invokevirtual 155, 3) := by decide +kernel
theorem dX7_underlies_4 : decode cX7_underlies 4 = .ok (.iconst 0, 1) := by decide +kernel
theorem dX7_underlies_5 : decode cX7_underlies 5 = .ok (.istore_n 1, 1) := by decide +kernel
theorem dX7_underlies_6 : decode cX7_underlies 6 = .ok (.iload_n 1, 1) := by decide +kernel
theorem dX7_underlies_7 : decode cX7_underlies 7 = .ok (.bipush 16, 2) := by decide +kernel
theorem dX7_underlies_9 : decode cX7_underlies 9 = .ok (.if_icmp .ge 75, 3) := by decide +kernel
theorem dX7_underlies_12 : decode cX7_underlies 12 = .ok (.bipush 16, 2) := by decide +kernel
theorem dX7_underlies_14 : decode cX7_underlies 14 = .ok (.aload_n 0, 1) := by decide +kernel
theorem dX7_underlies_15 : decode cX7_underlies 15 = .ok (.getfield 152, 3) := by decide +kernel
theorem dX7_underlies_18 : decode cX7_underlies 18 = .ok (.imul, 1) := by decide +kernel
theorem dX7_underlies_19 : decode cX7_underlies 19 = .ok (.iload_n 1, 1) := by decide +kernel
theorem dX7_underlies_20 : decode cX7_underlies 20 = .ok (.iadd, 1) := by decide +kernel
theorem dX7_underlies_21 : decode cX7_underlies 21 = .ok (.istore_n 2, 1) := by decide +kernel
theorem dX7_underlies_22 : decode cX7_underlies 22 = .ok (.aload_n 0, 1) := by decide +kernel
theorem dX7_underlies_23 : decode cX7_underlies 23 = .ok (.getfield 32, 3) := by decide +kernel
theorem dX7_underlies_26 : decode cX7_underlies 26 = .ok (.iload_n 2, 1) := by decide +kernel
theorem dX7_underlies_27 : decode cX7_underlies 27 = .ok (.aload_n 0, 1) := by decide +kernel
theorem dX7_underlies_28 : decode cX7_underlies 28 = .ok (.getfield 35, 3) := by decide +kernel
theorem dX7_underlies_31 : decode cX7_underlies 31 = .ok (.aload_n 0, 1) := by decide +kernel
theorem dX7_underlies_32 : decode cX7_underlies 32 = .ok (.getfield 152, 3) := by decide +kernel
theorem dX7_underlies_35 : decode cX7_underlies 35 = .ok (.baload, 1) := by decide +kernel
theorem dX7_underlies_36 : decode cX7_underlies 36 = .ok (.ifCond .eq 14, 3) := by decide +kernel
theorem dX7_underlies_39 : decode cX7_underlies 39 = .ok (.aload_n 0, 1) := by decide +kernel
theorem dX7_underlies_40 : decode cX7_underlies 40 = .ok (.getfield 32, 3) := by decide +kernel
theorem dX7_underlies_43 : decode cX7_underlies 43 = .ok (.iload_n 2, 1) := by decide +kernel
theorem dX7_underlies_44 : decode cX7_underlies 44 = .ok (.iaload, 1) := by decide +kernel
theorem dX7_underlies_45 : decode cX7_underlies 45 = .ok (.bipush 16, 2) := by decide +kernel
theorem dX7_underlies_47 : decode cX7_underlies 47 = .ok (.if_icmp .ne 12, 3) := by decide +kernel
theorem dX7_underlies_50 : decode cX7_underlies 50 = .ok (.aload_n 0, 1) := by decide +kernel
theorem dX7_underlies_51 : decode cX7_underlies 51 = .ok (.getfield 29, 3) := by decide +kernel
theorem dX7_underlies_54 : decode cX7_underlies 54 = .ok (.iload_n 1, 1) := by decide +kernel
theorem dX7_underlies_55 : decode cX7_underlies 55 = .ok (.iaload, 1) := by decide +kernel
theorem dX7_underlies_56 : decode cX7_underlies 56 = .ok (.goto 9, 3) := by decide +kernel
theorem dX7_underlies_59 : decode cX7_underlies 59 = .ok (.aload_n 0, 1) := by decide +kernel
theorem dX7_underlies_60 : decode cX7_underlies 60 = .ok (.getfield 32, 3) := by decide +kernel
theorem dX7_underlies_63 : decode cX7_underlies 63 = .ok (.iload_n 2, 1) := by decide +kernel
theorem dX7_underlies_64 : decode cX7_underlies 64 = .ok (.iaload, 1) := by decide +kernel
theorem dX7_underlies_65 : decode cX7_underlies 65 = .ok (.iastore, 1) := by decide +kernel
theorem dX7_underlies_66 : decode cX7_underlies 66 = .ok (.aload_n 0, 1) := by decide +kernel
theorem dX7_underlies_67 : decode cX7_underlies 67 = .ok (.getfield 29, 3) := by decide +kernel
theorem dX7_underlies_70 : decode cX7_underlies 70 = .ok (.iload_n 1, 1) := by decide +kernel
theorem dX7_underlies_71 : decode cX7_underlies 71 = .ok (.aload_n 0, 1) := by decide +kernel
theorem dX7_underlies_72 : decode cX7_underlies 72 = .ok (.getfield 32, 3) := by decide +kernel
theorem dX7_underlies_75 : decode cX7_underlies 75 = .ok (.iload_n 2, 1) := by decide +kernel
theorem dX7_underlies_76 : decode cX7_underlies 76 = .ok (.iaload, 1) := by decide +kernel
theorem dX7_underlies_77 : decode cX7_underlies 77 = .ok (.iastore, 1) := by decide +kernel
theorem dX7_underlies_78 : decode cX7_underlies 78 = .ok (.iinc 1 1, 3) := by decide +kernel
theorem dX7_underlies_81 : decode cX7_underlies 81 = .ok (.goto (-75), 3) := by decide +kernel
theorem dX7_underlies_84 : decode cX7_underlies 84 = .ok (.aload_n 0, 1) := by decide +kernel
theorem dX7_underlies_85 : decode cX7_underlies 85 = .ok (.getfield 35, 3) := by decide +kernel
theorem dX7_underlies_88 : decode cX7_underlies 88 = .ok (.aload_n 0, 1) := by decide +kernel
theorem dX7_underlies_89 : decode cX7_underlies 89 = .ok (.getfield 152, 3) := by decide +kernel
theorem dX7_underlies_92 : decode cX7_underlies 92 = .ok (.iconst 1, 1) := by decide +kernel
theorem dX7_underlies_93 : decode cX7_underlies 93 = .ok (.bastore, 1) := by decide +kernel
theorem dX7_underlies_94 : decode cX7_underlies 94 = .ok (.aload_n 0, 1) := by decide +kernel
theorem dX7_underlies_95 : decode cX7_underlies 95 = .ok (.getfield 42, 3) := by decide +kernel
theorem dX7_underlies_98 : decode cX7_underlies 98 = .ok (.aload_n 0, 1) := by decide +kernel
theorem dX7_underlies_99 : decode cX7_underlies 99 = .ok (.getfield 152, 3) := by decide +kernel
theorem dX7_underlies_102 : decode cX7_underlies 102 = .ok (.iconst 0, 1) := by decide +kernel
theorem dX7_underlies_103 : decode cX7_underlies 103 = .ok (.bastore, 1) := by decide +kernel
theorem dX7_underlies_104 : decode cX7_underlies 104 = .ok (.return_, 1) := by decide +kernel
theorem dX7_takesSet_0 : decode cX7_takesSet 0 = .ok (.iconst 0, 1) := by decide +kernel
end
section
theorem dX7_takesSet_1 : decode cX7_takesSet 1 = .ok (.istore_n 1, 1) := by decide +kernel
theorem dX7_takesSet_2 : decode cX7_takesSet 2 = .ok (.iconst 1, 1) := by decide +kernel
theorem dX7_takesSet_3 : decode cX7_takesSet 3 = .ok (.istore_n 2, 1) := by decide +kernel
theorem dX7_takesSet_4 : decode cX7_takesSet 4 = .ok (.iload_n 2, 1) := by decide +kernel
theorem dX7_takesSet_5 : decode cX7_takesSet 5 = .ok (.ifCond .eq 31, 3) := by decide +kernel
theorem dX7_takesSet_8 : decode cX7_takesSet 8 = .ok (.aload_n 0, 1) := by decide +kernel
theorem dX7_takesSet_9 : decode cX7_takesSet 9 = .ok (.invokevirtual 143, 3) := by decide +kernel
theorem dX7_takesSet_12 : decode cX7_takesSet 12 = .ok (.ifCond .ne 5, 3) := by decide +kernel
theorem dX7_takesSet_15 : decode cX7_takesSet 15 = .ok (.iconst 0, 1) := by decide +kernel
theorem dX7_takesSet_16 : decode cX7_takesSet 16 = .ok (.ireturn, 1) := by decide +kernel
theorem dX7_takesSet_17 : decode cX7_takesSet 17 = .ok (.iload_n 1, 1) := by decide +kernel
theorem dX7_takesSet_18 : decode cX7_takesSet 18 = .ok (.iconst 1, 1) := by decide +kernel
theorem dX7_takesSet_19 : decode cX7_takesSet 19 = .ok (.aload_n 0, 1) := by decide +kernel
theorem dX7_takesSet_20 : decode cX7_takesSet 20 = .ok (.getfield 140, 3) := by decide +kernel
theorem dX7_takesSet_23 : decode cX7_takesSet 23 = .ok (.ishl, 1) := by decide +kernel
theorem dX7_takesSet_24 : decode cX7_takesSet 24 = .ok (.ior, 1) := by decide +kernel
theorem dX7_takesSet_25 : decode cX7_takesSet 25 = .ok (.istore_n 1, 1) := by decide +kernel
theorem dX7_takesSet_26 : decode cX7_takesSet 26 = .ok (.aload_n 0, 1) := by decide +kernel
theorem dX7_takesSet_27 : decode cX7_takesSet 27 = .ok (.bipush 44, 2) := by decide +kernel
theorem dX7_takesSet_29 : decode cX7_takesSet 29 = .ok (.invokevirtual 146, 3) := by decide +kernel
theorem dX7_takesSet_32 : decode cX7_takesSet 32 = .ok (.istore_n 2, 1) := by decide +kernel
theorem dX7_takesSet_33 : decode cX7_takesSet 33 = .ok (.goto (-29), 3) := by decide +kernel
theorem dX7_takesSet_36 : decode cX7_takesSet 36 = .ok (.iconst 0, 1) := by decide +kernel
theorem dX7_takesSet_37 : decode cX7_takesSet 37 = .ok (.istore_n 3, 1) := by decide +kernel
theorem dX7_takesSet_38 : decode cX7_takesSet 38 = .ok (.iload_n 3, 1) := by decide +kernel
theorem dX7_takesSet_39 : decode cX7_takesSet 39 = .ok (.bipush 16, 2) := by decide +kernel
theorem dX7_takesSet_41 : decode cX7_takesSet 41 = .ok (.if_icmp .ge 35, 3) := by decide +kernel
theorem dX7_takesSet_44 : decode cX7_takesSet 44 = .ok (.aload_n 0, 1) := by decide +kernel
theorem dX7_takesSet_45 : decode cX7_takesSet 45 = .ok (.getfield 29, 3) := by decide +kernel
theorem dX7_takesSet_48 : decode cX7_takesSet 48 = .ok (.iload_n 3, 1) := by decide +kernel
theorem dX7_takesSet_49 : decode cX7_takesSet 49 = .ok (.iload_n 1, 1) := by decide +kernel
theorem dX7_takesSet_50 : decode cX7_takesSet 50 = .ok (.iload_n 3, 1) := by decide +kernel
theorem dX7_takesSet_51 : decode cX7_takesSet 51 = .ok (.ishr, 1) := by decide +kernel
theorem dX7_takesSet_52 : decode cX7_takesSet 52 = .ok (.iconst 1, 1) := by decide +kernel
theorem dX7_takesSet_53 : decode cX7_takesSet 53 = .ok (.iand, 1) := by decide +kernel
theorem dX7_takesSet_54 : decode cX7_takesSet 54 = .ok (.iconst 1, 1) := by decide +kernel
theorem dX7_takesSet_55 : decode cX7_takesSet 55 = .ok (.if_icmp .ne 12, 3) := by decide +kernel
theorem dX7_takesSet_58 : decode cX7_takesSet 58 = .ok (.aload_n 0, 1) := by decide +kernel
theorem dX7_takesSet_59 : decode cX7_takesSet 59 = .ok (.getfield 29, 3) := by decide +kernel
theorem dX7_takesSet_62 : decode cX7_takesSet 62 = .ok (.iload_n 3, 1) := by decide +kernel
theorem dX7_takesSet_63 : decode cX7_takesSet 63 = .ok (.iaload, 1) := by decide +kernel
theorem dX7_takesSet_64 : decode cX7_takesSet 64 = .ok (.goto 5, 3) := by decide +kernel
theorem dX7_takesSet_67 : decode cX7_takesSet 67 = .ok (.bipush 16, 2) := by decide +kernel
theorem dX7_takesSet_69 : decode cX7_takesSet 69 = .ok (.iastore, 1) := by decide +kernel
theorem dX7_takesSet_70 : decode cX7_takesSet 70 = .ok (.iinc 3 1, 3) := by decide +kernel
theorem dX7_takesSet_73 : decode cX7_takesSet 73 = .ok (.goto (-35), 3) := by decide +kernel
theorem dX7_takesSet_76 : decode cX7_takesSet 76 = .ok (.aload_n 0, 1) := by decide +kernel
theorem dX7_takesSet_77 : decode cX7_takesSet 77 = .ok (.bipush 125, 2) := by decide +kernel
theorem dX7_takesSet_79 : decode cX7_takesSet 79 = .ok (.invokevirtual 146, 3) := by decide +kernel
theorem dX7_takesSet_82 : decode cX7_takesSet 82 = .ok (.ireturn, 1) := by decide +kernel
theorem dX7_takesSigns_0 : decode cX7_takesSigns 0 = .ok (.iconst 1, 1) := by decide +kernel
theorem dX7_takesSigns_1 : decode cX7_takesSigns 1 = .ok (.istore_n 1, 1) := by decide +kernel
theorem dX7_takesSigns_2 : decode cX7_takesSigns 2 = .ok (.iload_n 1, 1) := by decide +kernel
theorem dX7_takesSigns_3 : decode cX7_takesSigns 3 = .ok (.ifCond .eq 93, 3) := by decide +kernel
theorem dX7_takesSigns_6 : decode cX7_takesSigns 6 = .ok (.aload_n 0, 1) := by decide +kernel
theorem dX7_takesSigns_7 : decode cX7_takesSigns 7 = .ok (.bipush 126, 2) := by decide +kernel
theorem dX7_takesSigns_9 : decode cX7_takesSigns 9 = .ok (.invokevirtual 146, 3) := by decide +kernel
theorem dX7_takesSigns_12 : decode cX7_takesSigns 12 = .ok (.ifCond .eq 10, 3) := by decide +kernel
theorem dX7_takesSigns_15 : decode cX7_takesSigns 15 = .ok (.aload_n 0, 1) := by decide +kernel
theorem dX7_takesSigns_16 : decode cX7_takesSigns 16 = .ok (.invokevirtual 158, 3) := by decide +kernel
theorem dX7_takesSigns_19 : decode cX7_takesSigns 19 = .ok (.goto (-17), 3) := by decide +kernel
theorem dX7_takesSigns_22 : decode cX7_takesSigns 22 = .ok (.aload_n 0, 1) := by decide +kernel
theorem dX7_takesSigns_23 : decode cX7_takesSigns 23 = .ok (.bipush 94, 2) := by decide +kernel
theorem dX7_takesSigns_25 : decode cX7_takesSigns 25 = .ok (.invokevirtual 146, 3) := by decide +kernel
theorem dX7_takesSigns_28 : decode cX7_takesSigns 28 = .ok (.ifCond .eq 45, 3) := by decide +kernel
theorem dX7_takesSigns_31 : decode cX7_takesSigns 31 = .ok (.aload_n 0, 1) := by decide +kernel
theorem dX7_takesSigns_32 : decode cX7_takesSigns 32 = .ok (.bipush 48, 2) := by decide +kernel
theorem dX7_takesSigns_34 : decode cX7_takesSigns 34 = .ok (.bipush 57, 2) := by decide +kernel
theorem dX7_takesSigns_36 : decode cX7_takesSigns 36 = .ok (.invokevirtual 137, 3) := by decide +kernel
theorem dX7_takesSigns_39 : decode cX7_takesSigns 39 = .ok (.ifCond .ne 5, 3) := by decide +kernel
theorem dX7_takesSigns_42 : decode cX7_takesSigns 42 = .ok (.iconst 0, 1) := by decide +kernel
theorem dX7_takesSigns_43 : decode cX7_takesSigns 43 = .ok (.ireturn, 1) := by decide +kernel
theorem dX7_takesSigns_44 : decode cX7_takesSigns 44 = .ok (.aload_n 0, 1) := by decide +kernel
theorem dX7_takesSigns_45 : decode cX7_takesSigns 45 = .ok (.aload_n 0, 1) := by decide +kernel
theorem dX7_takesSigns_46 : decode cX7_takesSigns 46 = .ok (.getfield 25, 3) := by decide +kernel
theorem dX7_takesSigns_49 : decode cX7_takesSigns 49 = .ok (.aload_n 0, 1) := by decide +kernel
theorem dX7_takesSigns_50 : decode cX7_takesSigns 50 = .ok (.getfield 85, 3) := by decide +kernel
theorem dX7_takesSigns_53 : decode cX7_takesSigns 53 = .ok (.caload, 1) := by decide +kernel
theorem dX7_takesSigns_54 : decode cX7_takesSigns 54 = .ok (.bipush 48, 2) := by decide +kernel
theorem dX7_takesSigns_56 : decode cX7_takesSigns 56 = .ok (.isub, 1) := by decide +kernel
theorem dX7_takesSigns_57 : decode cX7_takesSigns 57 = .ok (.invokevirtual 161, 3) := by decide +kernel
theorem dX7_takesSigns_60 : decode cX7_takesSigns 60 = .ok (.aload_n 0, 1) := by decide +kernel
theorem dX7_takesSigns_61 : decode cX7_takesSigns 61 = .ok (.dup, 1) := by decide +kernel
theorem dX7_takesSigns_62 : decode cX7_takesSigns 62 = .ok (.getfield 85, 3) := by decide +kernel
theorem dX7_takesSigns_65 : decode cX7_takesSigns 65 = .ok (.iconst 1, 1) := by decide +kernel
theorem dX7_takesSigns_66 : decode cX7_takesSigns 66 = .ok (.iadd, 1) := by decide +kernel
theorem dX7_takesSigns_67 : decode cX7_takesSigns 67 = .ok (.putfield 85, 3) := by decide +kernel
theorem dX7_takesSigns_70 : decode cX7_takesSigns 70 = .ok (.goto (-68), 3) := by decide +kernel
theorem dX7_takesSigns_73 : decode cX7_takesSigns 73 = .ok (.aload_n 0, 1) := by decide +kernel
theorem dX7_takesSigns_74 : decode cX7_takesSigns 74 = .ok (.bipush 123, 2) := by decide +kernel
theorem dX7_takesSigns_76 : decode cX7_takesSigns 76 = .ok (.invokevirtual 146, 3) := by decide +kernel
theorem dX7_takesSigns_79 : decode cX7_takesSigns 79 = .ok (.ifCond .eq 12, 3) := by decide +kernel
theorem dX7_takesSigns_82 : decode cX7_takesSigns 82 = .ok (.aload_n 0, 1) := by decide +kernel
theorem dX7_takesSigns_83 : decode cX7_takesSigns 83 = .ok (.invokevirtual 164, 3) := by decide +kernel
theorem dX7_takesSigns_86 : decode cX7_takesSigns 86 = .ok (.ifCond .ne (-84), 3) := by decide +kernel
theorem dX7_takesSigns_89 : decode cX7_takesSigns 89 = .ok (.iconst 0, 1) := by decide +kernel
theorem dX7_takesSigns_90 : decode cX7_takesSigns 90 = .ok (.ireturn, 1) := by decide +kernel
theorem dX7_takesSigns_91 : decode cX7_takesSigns 91 = .ok (.iconst 0, 1) := by decide +kernel
theorem dX7_takesSigns_92 : decode cX7_takesSigns 92 = .ok (.istore_n 1, 1) := by decide +kernel
theorem dX7_takesSigns_93 : decode cX7_takesSigns 93 = .ok (.goto (-91), 3) := by decide +kernel
theorem dX7_takesSigns_96 : decode cX7_takesSigns 96 = .ok (.iconst 1, 1) := by decide +kernel
theorem dX7_takesSigns_97 : decode cX7_takesSigns 97 = .ok (.ireturn, 1) := by decide +kernel
theorem dX7_takesLetter_0 : decode cX7_takesLetter 0 = .ok (.aload_n 0, 1) := by decide +kernel
theorem dX7_takesLetter_1 : decode cX7_takesLetter 1 = .ok (.getfield 152, 3) := by decide +kernel
theorem dX7_takesLetter_4 : decode cX7_takesLetter 4 = .ok (.iconst 4, 1) := by decide +kernel
theorem dX7_takesLetter_5 : decode cX7_takesLetter 5 = .ok (.if_icmp .ge 45, 3) := by decide +kernel
theorem dX7_takesLetter_8 : decode cX7_takesLetter 8 = .ok (.aload_n 0, 1) := by decide +kernel
theorem dX7_takesLetter_9 : decode cX7_takesLetter 9 = .ok (.bipush 40, 2) := by decide +kernel
theorem dX7_takesLetter_11 : decode cX7_takesLetter 11 = .ok (.invokevirtual 146, 3) := by decide +kernel
theorem dX7_takesLetter_14 : decode cX7_takesLetter 14 = .ok (.ifCond .eq 36, 3) := by decide +kernel
theorem dX7_takesLetter_17 : decode cX7_takesLetter 17 = .ok (.aload_n 0, 1) := by decide +kernel
theorem dX7_takesLetter_18 : decode cX7_takesLetter 18 = .ok (.dup, 1) := by decide +kernel
theorem dX7_takesLetter_19 : decode cX7_takesLetter 19 = .ok (.getfield 152, 3) := by decide +kernel
theorem dX7_takesLetter_22 : decode cX7_takesLetter 22 = .ok (.iconst 1, 1) := by decide +kernel
theorem dX7_takesLetter_23 : decode cX7_takesLetter 23 = .ok (.iadd, 1) := by decide +kernel
theorem dX7_takesLetter_24 : decode cX7_takesLetter 24 = .ok (.putfield 152, 3) := by decide +kernel
theorem dX7_takesLetter_27 : decode cX7_takesLetter 27 = .ok (.aload_n 0, 1) := by decide +kernel
theorem dX7_takesLetter_28 : decode cX7_takesLetter 28 = .ok (.getfield 35, 3) := by decide +kernel
theorem dX7_takesLetter_31 : decode cX7_takesLetter 31 = .ok (.aload_n 0, 1) := by decide +kernel
theorem dX7_takesLetter_32 : decode cX7_takesLetter 32 = .ok (.getfield 152, 3) := by decide +kernel
theorem dX7_takesLetter_35 : decode cX7_takesLetter 35 = .ok (.iconst 0, 1) := by decide +kernel
theorem dX7_takesLetter_36 : decode cX7_takesLetter 36 = .ok (.bastore, 1) := by decide +kernel
theorem dX7_takesLetter_37 : decode cX7_takesLetter 37 = .ok (.aload_n 0, 1) := by decide +kernel
theorem dX7_takesLetter_38 : decode cX7_takesLetter 38 = .ok (.getfield 42, 3) := by decide +kernel
theorem dX7_takesLetter_41 : decode cX7_takesLetter 41 = .ok (.aload_n 0, 1) := by decide +kernel
theorem dX7_takesLetter_42 : decode cX7_takesLetter 42 = .ok (.getfield 152, 3) := by decide +kernel
theorem dX7_takesLetter_45 : decode cX7_takesLetter 45 = .ok (.iconst 0, 1) := by decide +kernel
theorem dX7_takesLetter_46 : decode cX7_takesLetter 46 = .ok (.bastore, 1) := by decide +kernel
theorem dX7_takesLetter_47 : decode cX7_takesLetter 47 = .ok (.goto (-47), 3) := by decide +kernel
theorem dX7_takesLetter_50 : decode cX7_takesLetter 50 = .ok (.aload_n 0, 1) := by decide +kernel
theorem dX7_takesLetter_51 : decode cX7_takesLetter 51 = .ok (.bipush 65, 2) := by decide +kernel
theorem dX7_takesLetter_53 : decode cX7_takesLetter 53 = .ok (.bipush 70, 2) := by decide +kernel
theorem dX7_takesLetter_55 : decode cX7_takesLetter 55 = .ok (.invokevirtual 137, 3) := by decide +kernel
theorem dX7_takesLetter_58 : decode cX7_takesLetter 58 = .ok (.ifCond .ne 5, 3) := by decide +kernel
theorem dX7_takesLetter_61 : decode cX7_takesLetter 61 = .ok (.iconst 0, 1) := by decide +kernel
theorem dX7_takesLetter_62 : decode cX7_takesLetter 62 = .ok (.ireturn, 1) := by decide +kernel
theorem dX7_takesLetter_63 : decode cX7_takesLetter 63 = .ok (.iconst 0, 1) := by decide +kernel
theorem dX7_takesLetter_64 : decode cX7_takesLetter 64 = .ok (.istore_n 1, 1) := by decide +kernel
theorem dX7_takesLetter_65 : decode cX7_takesLetter 65 = .ok (.iload_n 1, 1) := by decide +kernel
theorem dX7_takesLetter_66 : decode cX7_takesLetter 66 = .ok (.bipush 16, 2) := by decide +kernel
theorem dX7_takesLetter_68 : decode cX7_takesLetter 68 = .ok (.if_icmp .ge 32, 3) := by decide +kernel
theorem dX7_takesLetter_71 : decode cX7_takesLetter 71 = .ok (.aload_n 0, 1) := by decide +kernel
theorem dX7_takesLetter_72 : decode cX7_takesLetter 72 = .ok (.getfield 29, 3) := by decide +kernel
theorem dX7_takesLetter_75 : decode cX7_takesLetter 75 = .ok (.iload_n 1, 1) := by decide +kernel
theorem dX7_takesLetter_76 : decode cX7_takesLetter 76 = .ok (.aload_n 0, 1) := by decide +kernel
theorem dX7_takesLetter_77 : decode cX7_takesLetter 77 = .ok (.aload_n 0, 1) := by decide +kernel
theorem dX7_takesLetter_78 : decode cX7_takesLetter 78 = .ok (.getfield 25, 3) := by decide +kernel
theorem dX7_takesLetter_81 : decode cX7_takesLetter 81 = .ok (.aload_n 0, 1) := by decide +kernel
theorem dX7_takesLetter_82 : decode cX7_takesLetter 82 = .ok (.getfield 85, 3) := by decide +kernel
theorem dX7_takesLetter_85 : decode cX7_takesLetter 85 = .ok (.caload, 1) := by decide +kernel
theorem dX7_takesLetter_86 : decode cX7_takesLetter 86 = .ok (.bipush 65, 2) := by decide +kernel
theorem dX7_takesLetter_88 : decode cX7_takesLetter 88 = .ok (.isub, 1) := by decide +kernel
theorem dX7_takesLetter_89 : decode cX7_takesLetter 89 = .ok (.iload_n 1, 1) := by decide +kernel
theorem dX7_takesLetter_90 : decode cX7_takesLetter 90 = .ok (.invokevirtual 75, 3) := by decide +kernel
theorem dX7_takesLetter_93 : decode cX7_takesLetter 93 = .ok (.iastore, 1) := by decide +kernel
theorem dX7_takesLetter_94 : decode cX7_takesLetter 94 = .ok (.iinc 1 1, 3) := by decide +kernel
theorem dX7_takesLetter_97 : decode cX7_takesLetter 97 = .ok (.goto (-32), 3) := by decide +kernel
theorem dX7_takesLetter_100 : decode cX7_takesLetter 100 = .ok (.aload_n 0, 1) := by decide +kernel
theorem dX7_takesLetter_101 : decode cX7_takesLetter 101 = .ok (.dup, 1) := by decide +kernel
theorem dX7_takesLetter_102 : decode cX7_takesLetter 102 = .ok (.getfield 85, 3) := by decide +kernel
theorem dX7_takesLetter_105 : decode cX7_takesLetter 105 = .ok (.iconst 1, 1) := by decide +kernel
theorem dX7_takesLetter_106 : decode cX7_takesLetter 106 = .ok (.iadd, 1) := by decide +kernel
theorem dX7_takesLetter_107 : decode cX7_takesLetter 107 = .ok (.putfield 85, 3) := by decide +kernel
theorem dX7_takesLetter_110 : decode cX7_takesLetter 110 = .ok (.iconst 1, 1) := by decide +kernel
theorem dX7_takesLetter_111 : decode cX7_takesLetter 111 = .ok (.ireturn, 1) := by decide +kernel
theorem dX7_isExpressionText_0 : decode cX7_isExpressionText 0 = .ok (.aload_n 0, 1) := by decide +kernel
theorem dX7_isExpressionText_1 : decode cX7_isExpressionText 1 = .ok (.iconst 0, 1) := by decide +kernel
theorem dX7_isExpressionText_2 : decode cX7_isExpressionText 2 = .ok (.putfield 85, 3) := by decide +kernel
theorem dX7_isExpressionText_5 : decode cX7_isExpressionText 5 = .ok (.aload_n 0, 1) := by decide +kernel
theorem dX7_isExpressionText_6 : decode cX7_isExpressionText 6 = .ok (.bipush 65, 2) := by decide +kernel
theorem dX7_isExpressionText_8 : decode cX7_isExpressionText 8 = .ok (.bipush 70, 2) := by decide +kernel
theorem dX7_isExpressionText_10 : decode cX7_isExpressionText 10 = .ok (.invokevirtual 137, 3) := by decide +kernel
theorem dX7_isExpressionText_13 : decode cX7_isExpressionText 13 = .ok (.ifCond .ne 5, 3) := by decide +kernel
theorem dX7_isExpressionText_16 : decode cX7_isExpressionText 16 = .ok (.iconst 0, 1) := by decide +kernel
theorem dX7_isExpressionText_17 : decode cX7_isExpressionText 17 = .ok (.ireturn, 1) := by decide +kernel
theorem dX7_isExpressionText_18 : decode cX7_isExpressionText 18 = .ok (.aload_n 0, 1) := by decide +kernel
theorem dX7_isExpressionText_19 : decode cX7_isExpressionText 19 = .ok (.aload_n 0, 1) := by decide +kernel
theorem dX7_isExpressionText_20 : decode cX7_isExpressionText 20 = .ok (.getfield 25, 3) := by decide +kernel
theorem dX7_isExpressionText_23 : decode cX7_isExpressionText 23 = .ok (.aload_n 0, 1) := by decide +kernel
theorem dX7_isExpressionText_24 : decode cX7_isExpressionText 24 = .ok (.getfield 85, 3) := by decide +kernel
theorem dX7_isExpressionText_27 : decode cX7_isExpressionText 27 = .ok (.caload, 1) := by decide +kernel
theorem dX7_isExpressionText_28 : decode cX7_isExpressionText 28 = .ok (.bipush 65, 2) := by decide +kernel
theorem dX7_isExpressionText_30 : decode cX7_isExpressionText 30 = .ok (.isub, 1) := by decide +kernel
theorem dX7_isExpressionText_31 : decode cX7_isExpressionText 31 = .ok (.putfield 116, 3) := by decide +kernel
theorem dX7_isExpressionText_34 : decode cX7_isExpressionText 34 = .ok (.aload_n 0, 1) := by decide +kernel
theorem dX7_isExpressionText_35 : decode cX7_isExpressionText 35 = .ok (.dup, 1) := by decide +kernel
theorem dX7_isExpressionText_36 : decode cX7_isExpressionText 36 = .ok (.getfield 85, 3) := by decide +kernel
theorem dX7_isExpressionText_39 : decode cX7_isExpressionText 39 = .ok (.iconst 1, 1) := by decide +kernel
theorem dX7_isExpressionText_40 : decode cX7_isExpressionText 40 = .ok (.iadd, 1) := by decide +kernel
theorem dX7_isExpressionText_41 : decode cX7_isExpressionText 41 = .ok (.putfield 85, 3) := by decide +kernel
theorem dX7_isExpressionText_44 : decode cX7_isExpressionText 44 = .ok (.aload_n 0, 1) := by decide +kernel
theorem dX7_isExpressionText_45 : decode cX7_isExpressionText 45 = .ok (.bipush 61, 2) := by decide +kernel
theorem dX7_isExpressionText_47 : decode cX7_isExpressionText 47 = .ok (.invokevirtual 146, 3) := by decide +kernel
theorem dX7_isExpressionText_50 : decode cX7_isExpressionText 50 = .ok (.ifCond .ne 5, 3) := by decide +kernel
theorem dX7_isExpressionText_53 : decode cX7_isExpressionText 53 = .ok (.iconst 0, 1) := by decide +kernel
theorem dX7_isExpressionText_54 : decode cX7_isExpressionText 54 = .ok (.ireturn, 1) := by decide +kernel
theorem dX7_isExpressionText_55 : decode cX7_isExpressionText 55 = .ok (.aload_n 0, 1) := by decide +kernel
theorem dX7_isExpressionText_56 : decode cX7_isExpressionText 56 = .ok (.iconst 0, 1) := by decide +kernel
theorem dX7_isExpressionText_57 : decode cX7_isExpressionText 57 = .ok (.putfield 152, 3) := by decide +kernel
theorem dX7_isExpressionText_60 : decode cX7_isExpressionText 60 = .ok (.aload_n 0, 1) := by decide +kernel
theorem dX7_isExpressionText_61 : decode cX7_isExpressionText 61 = .ok (.getfield 35, 3) := by decide +kernel
theorem dX7_isExpressionText_64 : decode cX7_isExpressionText 64 = .ok (.iconst 0, 1) := by decide +kernel
theorem dX7_isExpressionText_65 : decode cX7_isExpressionText 65 = .ok (.iconst 0, 1) := by decide +kernel
theorem dX7_isExpressionText_66 : decode cX7_isExpressionText 66 = .ok (.bastore, 1) := by decide +kernel
theorem dX7_isExpressionText_67 : decode cX7_isExpressionText 67 = .ok (.aload_n 0, 1) := by decide +kernel
theorem dX7_isExpressionText_68 : decode cX7_isExpressionText 68 = .ok (.getfield 42, 3) := by decide +kernel
theorem dX7_isExpressionText_71 : decode cX7_isExpressionText 71 = .ok (.iconst 0, 1) := by decide +kernel
theorem dX7_isExpressionText_72 : decode cX7_isExpressionText 72 = .ok (.iconst 0, 1) := by decide +kernel
theorem dX7_isExpressionText_73 : decode cX7_isExpressionText 73 = .ok (.bastore, 1) := by decide +kernel
theorem dX7_isExpressionText_74 : decode cX7_isExpressionText 74 = .ok (.aload_n 0, 1) := by decide +kernel
theorem dX7_isExpressionText_75 : decode cX7_isExpressionText 75 = .ok (.invokevirtual 167, 3) := by decide +kernel
theorem dX7_isExpressionText_78 : decode cX7_isExpressionText 78 = .ok (.ifCond .eq 10, 3) := by decide +kernel
theorem dX7_isExpressionText_81 : decode cX7_isExpressionText 81 = .ok (.aload_n 0, 1) := by decide +kernel
theorem dX7_isExpressionText_82 : decode cX7_isExpressionText 82 = .ok (.invokevirtual 170, 3) := by decide +kernel
theorem dX7_isExpressionText_85 : decode cX7_isExpressionText 85 = .ok (.ifCond .ne 5, 3) := by decide +kernel
theorem dX7_isExpressionText_88 : decode cX7_isExpressionText 88 = .ok (.iconst 0, 1) := by decide +kernel
theorem dX7_isExpressionText_89 : decode cX7_isExpressionText 89 = .ok (.ireturn, 1) := by decide +kernel
theorem dX7_isExpressionText_90 : decode cX7_isExpressionText 90 = .ok (.aload_n 0, 1) := by decide +kernel
theorem dX7_isExpressionText_91 : decode cX7_isExpressionText 91 = .ok (.getfield 152, 3) := by decide +kernel
theorem dX7_isExpressionText_94 : decode cX7_isExpressionText 94 = .ok (.ifCond .le 35, 3) := by decide +kernel
theorem dX7_isExpressionText_97 : decode cX7_isExpressionText 97 = .ok (.aload_n 0, 1) := by decide +kernel
theorem dX7_isExpressionText_98 : decode cX7_isExpressionText 98 = .ok (.bipush 41, 2) := by decide +kernel
theorem dX7_isExpressionText_100 : decode cX7_isExpressionText 100 = .ok (.invokevirtual 146, 3) := by decide +kernel
theorem dX7_isExpressionText_103 : decode cX7_isExpressionText 103 = .ok (.ifCond .eq 26, 3) := by decide +kernel
theorem dX7_isExpressionText_106 : decode cX7_isExpressionText 106 = .ok (.aload_n 0, 1) := by decide +kernel
theorem dX7_isExpressionText_107 : decode cX7_isExpressionText 107 = .ok (.invokevirtual 173, 3) := by decide +kernel
theorem dX7_isExpressionText_110 : decode cX7_isExpressionText 110 = .ok (.aload_n 0, 1) := by decide +kernel
theorem dX7_isExpressionText_111 : decode cX7_isExpressionText 111 = .ok (.dup, 1) := by decide +kernel
theorem dX7_isExpressionText_112 : decode cX7_isExpressionText 112 = .ok (.getfield 152, 3) := by decide +kernel
theorem dX7_isExpressionText_115 : decode cX7_isExpressionText 115 = .ok (.iconst 1, 1) := by decide +kernel
theorem dX7_isExpressionText_116 : decode cX7_isExpressionText 116 = .ok (.isub, 1) := by decide +kernel
theorem dX7_isExpressionText_117 : decode cX7_isExpressionText 117 = .ok (.putfield 152, 3) := by decide +kernel
theorem dX7_isExpressionText_120 : decode cX7_isExpressionText 120 = .ok (.aload_n 0, 1) := by decide +kernel
theorem dX7_isExpressionText_121 : decode cX7_isExpressionText 121 = .ok (.invokevirtual 170, 3) := by decide +kernel
theorem dX7_isExpressionText_124 : decode cX7_isExpressionText 124 = .ok (.ifCond .ne (-34), 3) := by decide +kernel
theorem dX7_isExpressionText_127 : decode cX7_isExpressionText 127 = .ok (.iconst 0, 1) := by decide +kernel
theorem dX7_isExpressionText_128 : decode cX7_isExpressionText 128 = .ok (.ireturn, 1) := by decide +kernel
theorem dX7_isExpressionText_129 : decode cX7_isExpressionText 129 = .ok (.aload_n 0, 1) := by decide +kernel
theorem dX7_isExpressionText_130 : decode cX7_isExpressionText 130 = .ok (.getfield 85, 3) := by decide +kernel
theorem dX7_isExpressionText_133 : decode cX7_isExpressionText 133 = .ok (.aload_n 0, 1) := by decide +kernel
theorem dX7_isExpressionText_134 : decode cX7_isExpressionText 134 = .ok (.getfield 131, 3) := by decide +kernel
theorem dX7_isExpressionText_137 : decode cX7_isExpressionText 137 = .ok (.if_icmp .ne 27, 3) := by decide +kernel
theorem dX7_isExpressionText_140 : decode cX7_isExpressionText 140 = .ok (.aload_n 0, 1) := by decide +kernel
theorem dX7_isExpressionText_141 : decode cX7_isExpressionText 141 = .ok (.getfield 152, 3) := by decide +kernel
theorem dX7_isExpressionText_144 : decode cX7_isExpressionText 144 = .ok (.ifCond .ne 7, 3) := by decide +kernel
theorem dX7_isExpressionText_147 : decode cX7_isExpressionText 147 = .ok (.aload_n 0, 1) := by decide +kernel
theorem dX7_isExpressionText_148 : decode cX7_isExpressionText 148 = .ok (.invokevirtual 173, 3) := by decide +kernel
theorem dX7_isExpressionText_151 : decode cX7_isExpressionText 151 = .ok (.aload_n 0, 1) := by decide +kernel
theorem dX7_isExpressionText_152 : decode cX7_isExpressionText 152 = .ok (.getfield 152, 3) := by decide +kernel
theorem dX7_isExpressionText_155 : decode cX7_isExpressionText 155 = .ok (.ifCond .ne 7, 3) := by decide +kernel
theorem dX7_isExpressionText_158 : decode cX7_isExpressionText 158 = .ok (.iconst 1, 1) := by decide +kernel
theorem dX7_isExpressionText_159 : decode cX7_isExpressionText 159 = .ok (.goto 4, 3) := by decide +kernel
theorem dX7_isExpressionText_162 : decode cX7_isExpressionText 162 = .ok (.iconst 0, 1) := by decide +kernel
theorem dX7_isExpressionText_163 : decode cX7_isExpressionText 163 = .ok (.ireturn, 1) := by decide +kernel
theorem dX7_isExpressionText_164 : decode cX7_isExpressionText 164 = .ok (.aload_n 0, 1) := by decide +kernel
theorem dX7_isExpressionText_165 : decode cX7_isExpressionText 165 = .ok (.bipush 46, 2) := by decide +kernel
theorem dX7_isExpressionText_167 : decode cX7_isExpressionText 167 = .ok (.invokevirtual 146, 3) := by decide +kernel
theorem dX7_isExpressionText_170 : decode cX7_isExpressionText 170 = .ok (.ifCond .eq 10, 3) := by decide +kernel
theorem dX7_isExpressionText_173 : decode cX7_isExpressionText 173 = .ok (.aload_n 0, 1) := by decide +kernel
theorem dX7_isExpressionText_174 : decode cX7_isExpressionText 174 = .ok (.invokevirtual 155, 3) := by decide +kernel
theorem dX7_isExpressionText_177 : decode cX7_isExpressionText 177 = .ok (.goto (-103), 3) := by decide +kernel
theorem dX7_isExpressionText_180 : decode cX7_isExpressionText 180 = .ok (.aload_n 0, 1) := by decide +kernel
theorem dX7_isExpressionText_181 : decode cX7_isExpressionText 181 = .ok (.bipush 47, 2) := by decide +kernel
theorem dX7_isExpressionText_183 : decode cX7_isExpressionText 183 = .ok (.invokevirtual 146, 3) := by decide +kernel
theorem dX7_isExpressionText_186 : decode cX7_isExpressionText 186 = .ok (.ifCond .eq 10, 3) := by decide +kernel
theorem dX7_isExpressionText_189 : decode cX7_isExpressionText 189 = .ok (.aload_n 0, 1) := by decide +kernel
theorem dX7_isExpressionText_190 : decode cX7_isExpressionText 190 = .ok (.invokevirtual 173, 3) := by decide +kernel
theorem dX7_isExpressionText_193 : decode cX7_isExpressionText 193 = .ok (.goto (-119), 3) := by decide +kernel
theorem dX7_isExpressionText_196 : decode cX7_isExpressionText 196 = .ok (.iconst 0, 1) := by decide +kernel
theorem dX7_isExpressionText_197 : decode cX7_isExpressionText 197 = .ok (.ireturn, 1) := by decide +kernel
theorem dX7_layers_0 : decode cX7_layers 0 = .ok (.iconst 0, 1) := by decide +kernel
theorem dX7_layers_1 : decode cX7_layers 1 = .ok (.istore_n 1, 1) := by decide +kernel
theorem dX7_layers_2 : decode cX7_layers 2 = .ok (.iconst 0, 1) := by decide +kernel
theorem dX7_layers_3 : decode cX7_layers 3 = .ok (.istore_n 2, 1) := by decide +kernel
theorem dX7_layers_4 : decode cX7_layers 4 = .ok (.iload_n 2, 1) := by decide +kernel
theorem dX7_layers_5 : decode cX7_layers 5 = .ok (.bipush 6, 2) := by decide +kernel
theorem dX7_layers_7 : decode cX7_layers 7 = .ok (.if_icmp .ge 22, 3) := by decide +kernel
theorem dX7_layers_10 : decode cX7_layers 10 = .ok (.iload_n 1, 1) := by decide +kernel
theorem dX7_layers_11 : decode cX7_layers 11 = .ok (.aload_n 0, 1) := by decide +kernel
theorem dX7_layers_12 : decode cX7_layers 12 = .ok (.getfield 7, 3) := by decide +kernel
theorem dX7_layers_15 : decode cX7_layers 15 = .ok (.sipush 408, 3) := by decide +kernel
theorem dX7_layers_18 : decode cX7_layers 18 = .ok (.iload_n 2, 1) := by decide +kernel
theorem dX7_layers_19 : decode cX7_layers 19 = .ok (.iadd, 1) := by decide +kernel
theorem dX7_layers_20 : decode cX7_layers 20 = .ok (.iaload, 1) := by decide +kernel
theorem dX7_layers_21 : decode cX7_layers 21 = .ok (.iadd, 1) := by decide +kernel
theorem dX7_layers_22 : decode cX7_layers 22 = .ok (.istore_n 1, 1) := by decide +kernel
theorem dX7_layers_23 : decode cX7_layers 23 = .ok (.iinc 2 1, 3) := by decide +kernel
theorem dX7_layers_26 : decode cX7_layers 26 = .ok (.goto (-22), 3) := by decide +kernel
theorem dX7_layers_29 : decode cX7_layers 29 = .ok (.iload_n 1, 1) := by decide +kernel
theorem dX7_layers_30 : decode cX7_layers 30 = .ok (.ireturn, 1) := by decide +kernel
theorem dX7_undo_0 : decode cX7_undo 0 = .ok (.aload_n 0, 1) := by decide +kernel
theorem dX7_undo_1 : decode cX7_undo 1 = .ok (.getfield 59, 3) := by decide +kernel
theorem dX7_undo_4 : decode cX7_undo 4 = .ok (.ifCond .ne 6, 3) := by decide +kernel
theorem dX7_undo_7 : decode cX7_undo 7 = .ok (.bipush (-5), 2) := by decide +kernel
theorem dX7_undo_9 : decode cX7_undo 9 = .ok (.ireturn, 1) := by decide +kernel
theorem dX7_undo_10 : decode cX7_undo 10 = .ok (.aload_n 0, 1) := by decide +kernel
theorem dX7_undo_11 : decode cX7_undo 11 = .ok (.dup, 1) := by decide +kernel
theorem dX7_undo_12 : decode cX7_undo 12 = .ok (.getfield 59, 3) := by decide +kernel
theorem dX7_undo_15 : decode cX7_undo 15 = .ok (.iconst 1, 1) := by decide +kernel
theorem dX7_undo_16 : decode cX7_undo 16 = .ok (.isub, 1) := by decide +kernel
theorem dX7_undo_17 : decode cX7_undo 17 = .ok (.putfield 59, 3) := by decide +kernel
theorem dX7_undo_20 : decode cX7_undo 20 = .ok (.iconst 0, 1) := by decide +kernel
theorem dX7_undo_21 : decode cX7_undo 21 = .ok (.istore_n 1, 1) := by decide +kernel
theorem dX7_undo_22 : decode cX7_undo 22 = .ok (.iload_n 1, 1) := by decide +kernel
theorem dX7_undo_23 : decode cX7_undo 23 = .ok (.sipush 514, 3) := by decide +kernel
theorem dX7_undo_26 : decode cX7_undo 26 = .ok (.if_icmp .ge 30, 3) := by decide +kernel
theorem dX7_undo_29 : decode cX7_undo 29 = .ok (.aload_n 0, 1) := by decide +kernel
theorem dX7_undo_30 : decode cX7_undo 30 = .ok (.getfield 7, 3) := by decide +kernel
theorem dX7_undo_33 : decode cX7_undo 33 = .ok (.iload_n 1, 1) := by decide +kernel
theorem dX7_undo_34 : decode cX7_undo 34 = .ok (.aload_n 0, 1) := by decide +kernel
theorem dX7_undo_35 : decode cX7_undo 35 = .ok (.getfield 13, 3) := by decide +kernel
theorem dX7_undo_38 : decode cX7_undo 38 = .ok (.sipush 514, 3) := by decide +kernel
theorem dX7_undo_41 : decode cX7_undo 41 = .ok (.aload_n 0, 1) := by decide +kernel
theorem dX7_undo_42 : decode cX7_undo 42 = .ok (.getfield 59, 3) := by decide +kernel
theorem dX7_undo_45 : decode cX7_undo 45 = .ok (.imul, 1) := by decide +kernel
theorem dX7_undo_46 : decode cX7_undo 46 = .ok (.iload_n 1, 1) := by decide +kernel
theorem dX7_undo_47 : decode cX7_undo 47 = .ok (.iadd, 1) := by decide +kernel
theorem dX7_undo_48 : decode cX7_undo 48 = .ok (.iaload, 1) := by decide +kernel
theorem dX7_undo_49 : decode cX7_undo 49 = .ok (.iastore, 1) := by decide +kernel
theorem dX7_undo_50 : decode cX7_undo 50 = .ok (.iinc 1 1, 3) := by decide +kernel
theorem dX7_undo_53 : decode cX7_undo 53 = .ok (.goto (-31), 3) := by decide +kernel
theorem dX7_undo_56 : decode cX7_undo 56 = .ok (.aload_n 0, 1) := by decide +kernel
theorem dX7_undo_57 : decode cX7_undo 57 = .ok (.getfield 59, 3) := by decide +kernel
theorem dX7_undo_60 : decode cX7_undo 60 = .ok (.ireturn, 1) := by decide +kernel
theorem dX7_keep_0 : decode cX7_keep 0 = .ok (.iconst 0, 1) := by decide +kernel
theorem dX7_keep_1 : decode cX7_keep 1 = .ok (.istore_n 1, 1) := by decide +kernel
theorem dX7_keep_2 : decode cX7_keep 2 = .ok (.iload_n 1, 1) := by decide +kernel
theorem dX7_keep_3 : decode cX7_keep 3 = .ok (.sipush 514, 3) := by decide +kernel
theorem dX7_keep_6 : decode cX7_keep 6 = .ok (.if_icmp .ge 21, 3) := by decide +kernel
theorem dX7_keep_9 : decode cX7_keep 9 = .ok (.aload_n 0, 1) := by decide +kernel
theorem dX7_keep_10 : decode cX7_keep 10 = .ok (.getfield 16, 3) := by decide +kernel
theorem dX7_keep_13 : decode cX7_keep 13 = .ok (.iload_n 1, 1) := by decide +kernel
theorem dX7_keep_14 : decode cX7_keep 14 = .ok (.aload_n 0, 1) := by decide +kernel
theorem dX7_keep_15 : decode cX7_keep 15 = .ok (.getfield 7, 3) := by decide +kernel
theorem dX7_keep_18 : decode cX7_keep 18 = .ok (.iload_n 1, 1) := by decide +kernel
theorem dX7_keep_19 : decode cX7_keep 19 = .ok (.iaload, 1) := by decide +kernel
theorem dX7_keep_20 : decode cX7_keep 20 = .ok (.iastore, 1) := by decide +kernel
theorem dX7_keep_21 : decode cX7_keep 21 = .ok (.iinc 1 1, 3) := by decide +kernel
theorem dX7_keep_24 : decode cX7_keep 24 = .ok (.goto (-22), 3) := by decide +kernel
theorem dX7_keep_27 : decode cX7_keep 27 = .ok (.aload_n 0, 1) := by decide +kernel
theorem dX7_keep_28 : decode cX7_keep 28 = .ok (.iconst 1, 1) := by decide +kernel
theorem dX7_keep_29 : decode cX7_keep 29 = .ok (.putfield 176, 3) := by decide +kernel
theorem dX7_keep_32 : decode cX7_keep 32 = .ok (.aload_n 0, 1) := by decide +kernel
theorem dX7_keep_33 : decode cX7_keep 33 = .ok (.invokevirtual 180, 3) := by decide +kernel
theorem dX7_keep_36 : decode cX7_keep 36 = .ok (.ireturn, 1) := by decide +kernel
theorem dX7_restore_0 : decode cX7_restore 0 = .ok (.aload_n 0, 1) := by decide +kernel
theorem dX7_restore_1 : decode cX7_restore 1 = .ok (.getfield 176, 3) := by decide +kernel
theorem dX7_restore_4 : decode cX7_restore 4 = .ok (.ifCond .ne 6, 3) := by decide +kernel
theorem dX7_restore_7 : decode cX7_restore 7 = .ok (.bipush (-5), 2) := by decide +kernel
theorem dX7_restore_9 : decode cX7_restore 9 = .ok (.ireturn, 1) := by decide +kernel
theorem dX7_restore_10 : decode cX7_restore 10 = .ok (.aload_n 0, 1) := by decide +kernel
theorem dX7_restore_11 : decode cX7_restore 11 = .ok (.invokevirtual 88, 3) := by decide +kernel
theorem dX7_restore_14 : decode cX7_restore 14 = .ok (.iconst 0, 1) := by decide +kernel
theorem dX7_restore_15 : decode cX7_restore 15 = .ok (.istore_n 1, 1) := by decide +kernel
theorem dX7_restore_16 : decode cX7_restore 16 = .ok (.iload_n 1, 1) := by decide +kernel
theorem dX7_restore_17 : decode cX7_restore 17 = .ok (.sipush 514, 3) := by decide +kernel
theorem dX7_restore_20 : decode cX7_restore 20 = .ok (.if_icmp .ge 21, 3) := by decide +kernel
theorem dX7_restore_23 : decode cX7_restore 23 = .ok (.aload_n 0, 1) := by decide +kernel
theorem dX7_restore_24 : decode cX7_restore 24 = .ok (.getfield 7, 3) := by decide +kernel
theorem dX7_restore_27 : decode cX7_restore 27 = .ok (.iload_n 1, 1) := by decide +kernel
theorem dX7_restore_28 : decode cX7_restore 28 = .ok (.aload_n 0, 1) := by decide +kernel
theorem dX7_restore_29 : decode cX7_restore 29 = .ok (.getfield 16, 3) := by decide +kernel
theorem dX7_restore_32 : decode cX7_restore 32 = .ok (.iload_n 1, 1) := by decide +kernel
theorem dX7_restore_33 : decode cX7_restore 33 = .ok (.iaload, 1) := by decide +kernel
theorem dX7_restore_34 : decode cX7_restore 34 = .ok (.iastore, 1) := by decide +kernel
theorem dX7_restore_35 : decode cX7_restore 35 = .ok (.iinc 1 1, 3) := by decide +kernel
theorem dX7_restore_38 : decode cX7_restore 38 = .ok (.goto (-22), 3) := by decide +kernel
theorem dX7_restore_41 : decode cX7_restore 41 = .ok (.aload_n 0, 1) := by decide +kernel
theorem dX7_restore_42 : decode cX7_restore 42 = .ok (.invokevirtual 180, 3) := by decide +kernel
theorem dX7_restore_45 : decode cX7_restore 45 = .ok (.ireturn, 1) := by decide +kernel
theorem dX7_get_0 : decode cX7_get 0 = .ok (.iload_n 1, 1) := by decide +kernel
theorem dX7_get_1 : decode cX7_get 1 = .ok (.invokestatic 55, 3) := by decide +kernel
theorem dX7_get_4 : decode cX7_get 4 = .ok (.ifCond .ne 10, 3) := by decide +kernel
theorem dX7_get_7 : decode cX7_get 7 = .ok (.iload_n 2, 1) := by decide +kernel
theorem dX7_get_8 : decode cX7_get 8 = .ok (.invokestatic 106, 3) := by decide +kernel
theorem dX7_get_11 : decode cX7_get 11 = .ok (.ifCond .eq 5, 3) := by decide +kernel
theorem dX7_get_14 : decode cX7_get 14 = .ok (.iconst (-1), 1) := by decide +kernel
theorem dX7_get_15 : decode cX7_get 15 = .ok (.ireturn, 1) := by decide +kernel
theorem dX7_get_16 : decode cX7_get 16 = .ok (.aload_n 0, 1) := by decide +kernel
theorem dX7_get_17 : decode cX7_get 17 = .ok (.iload_n 1, 1) := by decide +kernel
theorem dX7_get_18 : decode cX7_get 18 = .ok (.iload_n 2, 1) := by decide +kernel
theorem dX7_get_19 : decode cX7_get 19 = .ok (.invokevirtual 75, 3) := by decide +kernel
theorem dX7_get_22 : decode cX7_get 22 = .ok (.istore_n 3, 1) := by decide +kernel
theorem dX7_get_23 : decode cX7_get 23 = .ok (.iload_n 3, 1) := by decide +kernel
theorem dX7_get_24 : decode cX7_get 24 = .ok (.bipush 16, 2) := by decide +kernel
theorem dX7_get_26 : decode cX7_get 26 = .ok (.if_icmp .ne 8, 3) := by decide +kernel
theorem dX7_get_29 : decode cX7_get 29 = .ok (.bipush (-5), 2) := by decide +kernel
theorem dX7_get_31 : decode cX7_get 31 = .ok (.goto 4, 3) := by decide +kernel
theorem dX7_get_34 : decode cX7_get 34 = .ok (.iload_n 3, 1) := by decide +kernel
theorem dX7_get_35 : decode cX7_get 35 = .ok (.ireturn, 1) := by decide +kernel
theorem dX7_tells_0 : decode cX7_tells 0 = .ok (.iload_n 1, 1) := by decide +kernel
theorem dX7_tells_1 : decode cX7_tells 1 = .ok (.invokestatic 55, 3) := by decide +kernel
theorem dX7_tells_4 : decode cX7_tells 4 = .ok (.ifCond .ne 10, 3) := by decide +kernel
theorem dX7_tells_7 : decode cX7_tells 7 = .ok (.iload_n 2, 1) := by decide +kernel
theorem dX7_tells_8 : decode cX7_tells 8 = .ok (.invokestatic 106, 3) := by decide +kernel
theorem dX7_tells_11 : decode cX7_tells 11 = .ok (.ifCond .eq 7, 3) := by decide +kernel
theorem dX7_tells_14 : decode cX7_tells 14 = .ok (.iconst (-1), 1) := by decide +kernel
theorem dX7_tells_15 : decode cX7_tells 15 = .ok (.goto 9, 3) := by decide +kernel
theorem dX7_tells_18 : decode cX7_tells 18 = .ok (.aload_n 0, 1) := by decide +kernel
theorem dX7_tells_19 : decode cX7_tells 19 = .ok (.iload_n 1, 1) := by decide +kernel
theorem dX7_tells_20 : decode cX7_tells 20 = .ok (.iload_n 2, 1) := by decide +kernel
theorem dX7_tells_21 : decode cX7_tells 21 = .ok (.invokevirtual 71, 3) := by decide +kernel
theorem dX7_tells_24 : decode cX7_tells 24 = .ok (.ireturn, 1) := by decide +kernel
theorem dX7_returns_0 : decode cX7_returns 0 = .ok (.iconst 1, 1) := by decide +kernel
theorem dX7_returns_1 : decode cX7_returns 1 = .ok (.iload_n 2, 1) := by decide +kernel
theorem dX7_returns_2 : decode cX7_returns 2 = .ok (.ishl, 1) := by decide +kernel
theorem dX7_returns_3 : decode cX7_returns 3 = .ok (.istore_n 3, 1) := by decide +kernel
theorem dX7_returns_4 : decode cX7_returns 4 = .ok (.aload_n 0, 1) := by decide +kernel
theorem dX7_returns_5 : decode cX7_returns 5 = .ok (.iload_n 1, 1) := by decide +kernel
theorem dX7_returns_6 : decode cX7_returns 6 = .ok (.iload_n 2, 1) := by decide +kernel
theorem dX7_returns_7 : decode cX7_returns 7 = .ok (.invokevirtual 75, 3) := by decide +kernel
theorem dX7_returns_10 : decode cX7_returns 10 = .ok (.istore 4, 2) := by decide +kernel
theorem dX7_returns_12 : decode cX7_returns 12 = .ok (.iconst 1, 1) := by decide +kernel
theorem dX7_returns_13 : decode cX7_returns 13 = .ok (.istore 5, 2) := by decide +kernel
theorem dX7_returns_15 : decode cX7_returns 15 = .ok (.iload 4, 2) := by decide +kernel
theorem dX7_returns_17 : decode cX7_returns 17 = .ok (.bipush 16, 2) := by decide +kernel
theorem dX7_returns_19 : decode cX7_returns 19 = .ok (.if_icmp .eq 34, 3) := by decide +kernel
theorem dX7_returns_22 : decode cX7_returns 22 = .ok (.iload_n 3, 1) := by decide +kernel
theorem dX7_returns_23 : decode cX7_returns 23 = .ok (.iload 4, 2) := by decide +kernel
theorem dX7_returns_25 : decode cX7_returns 25 = .ok (.ishr, 1) := by decide +kernel
theorem dX7_returns_26 : decode cX7_returns 26 = .ok (.iconst 1, 1) := by decide +kernel
theorem dX7_returns_27 : decode cX7_returns 27 = .ok (.iand, 1) := by decide +kernel
theorem dX7_returns_28 : decode cX7_returns 28 = .ok (.ifCond .ne 25, 3) := by decide +kernel
theorem dX7_returns_31 : decode cX7_returns 31 = .ok (.iload_n 3, 1) := by decide +kernel
theorem dX7_returns_32 : decode cX7_returns 32 = .ok (.iconst 1, 1) := by decide +kernel
theorem dX7_returns_33 : decode cX7_returns 33 = .ok (.iload 4, 2) := by decide +kernel
theorem dX7_returns_35 : decode cX7_returns 35 = .ok (.ishl, 1) := by decide +kernel
theorem dX7_returns_36 : decode cX7_returns 36 = .ok (.ior, 1) := by decide +kernel
theorem dX7_returns_37 : decode cX7_returns 37 = .ok (.istore_n 3, 1) := by decide +kernel
theorem dX7_returns_38 : decode cX7_returns 38 = .ok (.aload_n 0, 1) := by decide +kernel
theorem dX7_returns_39 : decode cX7_returns 39 = .ok (.iload_n 1, 1) := by decide +kernel
theorem dX7_returns_40 : decode cX7_returns 40 = .ok (.iload 4, 2) := by decide +kernel
theorem dX7_returns_42 : decode cX7_returns 42 = .ok (.invokevirtual 75, 3) := by decide +kernel
theorem dX7_returns_45 : decode cX7_returns 45 = .ok (.istore 4, 2) := by decide +kernel
theorem dX7_returns_47 : decode cX7_returns 47 = .ok (.iinc 5 1, 3) := by decide +kernel
theorem dX7_returns_50 : decode cX7_returns 50 = .ok (.goto (-35), 3) := by decide +kernel
theorem dX7_returns_53 : decode cX7_returns 53 = .ok (.iload 4, 2) := by decide +kernel
theorem dX7_returns_55 : decode cX7_returns 55 = .ok (.bipush 16, 2) := by decide +kernel
theorem dX7_returns_57 : decode cX7_returns 57 = .ok (.if_icmp .ne 8, 3) := by decide +kernel
theorem dX7_returns_60 : decode cX7_returns 60 = .ok (.bipush (-5), 2) := by decide +kernel
theorem dX7_returns_62 : decode cX7_returns 62 = .ok (.goto 5, 3) := by decide +kernel
theorem dX7_returns_65 : decode cX7_returns 65 = .ok (.iload 5, 2) := by decide +kernel
theorem dX7_returns_67 : decode cX7_returns 67 = .ok (.ireturn, 1) := by decide +kernel
theorem dX7_walks_0 : decode cX7_walks 0 = .ok (.iload_n 2, 1) := by decide +kernel
theorem dX7_walks_1 : decode cX7_walks 1 = .ok (.istore 4, 2) := by decide +kernel
theorem dX7_walks_3 : decode cX7_walks 3 = .ok (.iconst 0, 1) := by decide +kernel
theorem dX7_walks_4 : decode cX7_walks 4 = .ok (.istore 5, 2) := by decide +kernel
theorem dX7_walks_6 : decode cX7_walks 6 = .ok (.iload 5, 2) := by decide +kernel
theorem dX7_walks_8 : decode cX7_walks 8 = .ok (.iload_n 3, 1) := by decide +kernel
theorem dX7_walks_9 : decode cX7_walks 9 = .ok (.if_icmp .ge 25, 3) := by decide +kernel
theorem dX7_walks_12 : decode cX7_walks 12 = .ok (.iload 4, 2) := by decide +kernel
theorem dX7_walks_14 : decode cX7_walks 14 = .ok (.bipush 16, 2) := by decide +kernel
theorem dX7_walks_16 : decode cX7_walks 16 = .ok (.if_icmp .eq 18, 3) := by decide +kernel
theorem dX7_walks_19 : decode cX7_walks 19 = .ok (.aload_n 0, 1) := by decide +kernel
theorem dX7_walks_20 : decode cX7_walks 20 = .ok (.iload_n 1, 1) := by decide +kernel
theorem dX7_walks_21 : decode cX7_walks 21 = .ok (.iload 4, 2) := by decide +kernel
theorem dX7_walks_23 : decode cX7_walks 23 = .ok (.invokevirtual 75, 3) := by decide +kernel
theorem dX7_walks_26 : decode cX7_walks 26 = .ok (.istore 4, 2) := by decide +kernel
theorem dX7_walks_28 : decode cX7_walks 28 = .ok (.iinc 5 1, 3) := by decide +kernel
theorem dX7_walks_31 : decode cX7_walks 31 = .ok (.goto (-25), 3) := by decide +kernel
theorem dX7_walks_34 : decode cX7_walks 34 = .ok (.iload 4, 2) := by decide +kernel
theorem dX7_walks_36 : decode cX7_walks 36 = .ok (.ireturn, 1) := by decide +kernel
theorem dX7_cycle_0 : decode cX7_cycle 0 = .ok (.aload_n 0, 1) := by decide +kernel
theorem dX7_cycle_1 : decode cX7_cycle 1 = .ok (.iload_n 1, 1) := by decide +kernel
theorem dX7_cycle_2 : decode cX7_cycle 2 = .ok (.iload_n 2, 1) := by decide +kernel
theorem dX7_cycle_3 : decode cX7_cycle 3 = .ok (.invokevirtual 184, 3) := by decide +kernel
theorem dX7_cycle_6 : decode cX7_cycle 6 = .ok (.istore_n 3, 1) := by decide +kernel
theorem dX7_cycle_7 : decode cX7_cycle 7 = .ok (.iload_n 3, 1) := by decide +kernel
theorem dX7_cycle_8 : decode cX7_cycle 8 = .ok (.bipush (-5), 2) := by decide +kernel
theorem dX7_cycle_10 : decode cX7_cycle 10 = .ok (.if_icmp .eq 18, 3) := by decide +kernel
theorem dX7_cycle_13 : decode cX7_cycle 13 = .ok (.aload_n 0, 1) := by decide +kernel
theorem dX7_cycle_14 : decode cX7_cycle 14 = .ok (.iload_n 1, 1) := by decide +kernel
theorem dX7_cycle_15 : decode cX7_cycle 15 = .ok (.iload_n 2, 1) := by decide +kernel
theorem dX7_cycle_16 : decode cX7_cycle 16 = .ok (.iload_n 3, 1) := by decide +kernel
theorem dX7_cycle_17 : decode cX7_cycle 17 = .ok (.invokevirtual 187, 3) := by decide +kernel
theorem dX7_cycle_20 : decode cX7_cycle 20 = .ok (.iload_n 2, 1) := by decide +kernel
theorem dX7_cycle_21 : decode cX7_cycle 21 = .ok (.if_icmp .ne 7, 3) := by decide +kernel
theorem dX7_cycle_24 : decode cX7_cycle 24 = .ok (.iload_n 3, 1) := by decide +kernel
theorem dX7_cycle_25 : decode cX7_cycle 25 = .ok (.goto 4, 3) := by decide +kernel
theorem dX7_cycle_28 : decode cX7_cycle 28 = .ok (.iconst 0, 1) := by decide +kernel
theorem dX7_cycle_29 : decode cX7_cycle 29 = .ok (.ireturn, 1) := by decide +kernel
theorem dX7_set_0 : decode cX7_set 0 = .ok (.iconst 0, 1) := by decide +kernel
theorem dX7_set_1 : decode cX7_set 1 = .ok (.istore_n 3, 1) := by decide +kernel
theorem dX7_set_2 : decode cX7_set 2 = .ok (.iconst 0, 1) := by decide +kernel
theorem dX7_set_3 : decode cX7_set 3 = .ok (.istore 4, 2) := by decide +kernel
theorem dX7_set_5 : decode cX7_set 5 = .ok (.iload 4, 2) := by decide +kernel
theorem dX7_set_7 : decode cX7_set 7 = .ok (.bipush 16, 2) := by decide +kernel
theorem dX7_set_9 : decode cX7_set 9 = .ok (.if_icmp .ge 91, 3) := by decide +kernel
theorem dX7_set_12 : decode cX7_set 12 = .ok (.aload_n 0, 1) := by decide +kernel
theorem dX7_set_13 : decode cX7_set 13 = .ok (.iload_n 1, 1) := by decide +kernel
theorem dX7_set_14 : decode cX7_set 14 = .ok (.iload 4, 2) := by decide +kernel
theorem dX7_set_16 : decode cX7_set 16 = .ok (.invokevirtual 75, 3) := by decide +kernel
theorem dX7_set_19 : decode cX7_set 19 = .ok (.istore 5, 2) := by decide +kernel
theorem dX7_set_21 : decode cX7_set 21 = .ok (.iload_n 2, 1) := by decide +kernel
theorem dX7_set_22 : decode cX7_set 22 = .ok (.iconst 3, 1) := by decide +kernel
theorem dX7_set_23 : decode cX7_set 23 = .ok (.if_icmp .ne 24, 3) := by decide +kernel
theorem dX7_set_26 : decode cX7_set 26 = .ok (.iload_n 3, 1) := by decide +kernel
theorem dX7_set_27 : decode cX7_set 27 = .ok (.iload 5, 2) := by decide +kernel
theorem dX7_set_29 : decode cX7_set 29 = .ok (.bipush 16, 2) := by decide +kernel
theorem dX7_set_31 : decode cX7_set 31 = .ok (.if_icmp .ne 7, 3) := by decide +kernel
theorem dX7_set_34 : decode cX7_set 34 = .ok (.iconst 0, 1) := by decide +kernel
theorem dX7_set_35 : decode cX7_set 35 = .ok (.goto 7, 3) := by decide +kernel
theorem dX7_set_38 : decode cX7_set 38 = .ok (.iconst 1, 1) := by decide +kernel
theorem dX7_set_39 : decode cX7_set 39 = .ok (.iload 5, 2) := by decide +kernel
theorem dX7_set_41 : decode cX7_set 41 = .ok (.ishl, 1) := by decide +kernel
theorem dX7_set_42 : decode cX7_set 42 = .ok (.ior, 1) := by decide +kernel
theorem dX7_set_43 : decode cX7_set 43 = .ok (.istore_n 3, 1) := by decide +kernel
theorem dX7_set_44 : decode cX7_set 44 = .ok (.goto 50, 3) := by decide +kernel
theorem dX7_set_47 : decode cX7_set 47 = .ok (.iload_n 2, 1) := by decide +kernel
theorem dX7_set_48 : decode cX7_set 48 = .ok (.iconst 2, 1) := by decide +kernel
theorem dX7_set_49 : decode cX7_set 49 = .ok (.if_icmp .ne 10, 3) := by decide +kernel
theorem dX7_set_52 : decode cX7_set 52 = .ok (.iload 5, 2) := by decide +kernel
theorem dX7_set_54 : decode cX7_set 54 = .ok (.bipush 16, 2) := by decide +kernel
theorem dX7_set_56 : decode cX7_set 56 = .ok (.if_icmp .eq 31, 3) := by decide +kernel
theorem dX7_set_59 : decode cX7_set 59 = .ok (.iload_n 2, 1) := by decide +kernel
theorem dX7_set_60 : decode cX7_set 60 = .ok (.iconst 5, 1) := by decide +kernel
theorem dX7_set_61 : decode cX7_set 61 = .ok (.if_icmp .ne 10, 3) := by decide +kernel
theorem dX7_set_64 : decode cX7_set 64 = .ok (.iload 5, 2) := by decide +kernel
theorem dX7_set_66 : decode cX7_set 66 = .ok (.iload 4, 2) := by decide +kernel
theorem dX7_set_68 : decode cX7_set 68 = .ok (.if_icmp .eq 19, 3) := by decide +kernel
theorem dX7_set_71 : decode cX7_set 71 = .ok (.iload_n 2, 1) := by decide +kernel
theorem dX7_set_72 : decode cX7_set 72 = .ok (.bipush 7, 2) := by decide +kernel
theorem dX7_set_74 : decode cX7_set 74 = .ok (.if_icmp .ne 20, 3) := by decide +kernel
theorem dX7_set_77 : decode cX7_set 77 = .ok (.aload_n 0, 1) := by decide +kernel
theorem dX7_set_78 : decode cX7_set 78 = .ok (.iload_n 1, 1) := by decide +kernel
theorem dX7_set_79 : decode cX7_set 79 = .ok (.iload 4, 2) := by decide +kernel
theorem dX7_set_81 : decode cX7_set 81 = .ok (.invokevirtual 190, 3) := by decide +kernel
theorem dX7_set_84 : decode cX7_set 84 = .ok (.ifCond .le 10, 3) := by decide +kernel
theorem dX7_set_87 : decode cX7_set 87 = .ok (.iload_n 3, 1) := by decide +kernel
theorem dX7_set_88 : decode cX7_set 88 = .ok (.iconst 1, 1) := by decide +kernel
theorem dX7_set_89 : decode cX7_set 89 = .ok (.iload 4, 2) := by decide +kernel
theorem dX7_set_91 : decode cX7_set 91 = .ok (.ishl, 1) := by decide +kernel
theorem dX7_set_92 : decode cX7_set 92 = .ok (.ior, 1) := by decide +kernel
theorem dX7_set_93 : decode cX7_set 93 = .ok (.istore_n 3, 1) := by decide +kernel
theorem dX7_set_94 : decode cX7_set 94 = .ok (.iinc 4 1, 3) := by decide +kernel
theorem dX7_set_97 : decode cX7_set 97 = .ok (.goto (-92), 3) := by decide +kernel
theorem dX7_set_100 : decode cX7_set 100 = .ok (.iload_n 3, 1) := by decide +kernel
theorem dX7_set_101 : decode cX7_set 101 = .ok (.ireturn, 1) := by decide +kernel
theorem dX7_onLayers_0 : decode cX7_onLayers 0 = .ok (.iconst 0, 1) := by decide +kernel
theorem dX7_onLayers_1 : decode cX7_onLayers 1 = .ok (.istore_n 2, 1) := by decide +kernel
theorem dX7_onLayers_2 : decode cX7_onLayers 2 = .ok (.iconst 0, 1) := by decide +kernel
theorem dX7_onLayers_3 : decode cX7_onLayers 3 = .ok (.istore_n 3, 1) := by decide +kernel
theorem dX7_onLayers_4 : decode cX7_onLayers 4 = .ok (.iload_n 3, 1) := by decide +kernel
theorem dX7_onLayers_5 : decode cX7_onLayers 5 = .ok (.aload_n 0, 1) := by decide +kernel
theorem dX7_onLayers_6 : decode cX7_onLayers 6 = .ok (.getfield 7, 3) := by decide +kernel
theorem dX7_onLayers_9 : decode cX7_onLayers 9 = .ok (.sipush 408, 3) := by decide +kernel
theorem dX7_onLayers_12 : decode cX7_onLayers 12 = .ok (.iload_n 1, 1) := by decide +kernel
theorem dX7_onLayers_13 : decode cX7_onLayers 13 = .ok (.iadd, 1) := by decide +kernel
theorem dX7_onLayers_14 : decode cX7_onLayers 14 = .ok (.iaload, 1) := by decide +kernel
theorem dX7_onLayers_15 : decode cX7_onLayers 15 = .ok (.if_icmp .ge 26, 3) := by decide +kernel
theorem dX7_onLayers_18 : decode cX7_onLayers 18 = .ok (.iload_n 2, 1) := by decide +kernel
theorem dX7_onLayers_19 : decode cX7_onLayers 19 = .ok (.aload_n 0, 1) := by decide +kernel
theorem dX7_onLayers_20 : decode cX7_onLayers 20 = .ok (.iload_n 1, 1) := by decide +kernel
theorem dX7_onLayers_21 : decode cX7_onLayers 21 = .ok (.iload_n 3, 1) := by decide +kernel
theorem dX7_onLayers_22 : decode cX7_onLayers 22 = .ok (.invokevirtual 63, 3) := by decide +kernel
theorem dX7_onLayers_25 : decode cX7_onLayers 25 = .ok (.ifCond .eq 7, 3) := by decide +kernel
theorem dX7_onLayers_28 : decode cX7_onLayers 28 = .ok (.iconst 1, 1) := by decide +kernel
theorem dX7_onLayers_29 : decode cX7_onLayers 29 = .ok (.goto 4, 3) := by decide +kernel
theorem dX7_onLayers_32 : decode cX7_onLayers 32 = .ok (.iconst 0, 1) := by decide +kernel
theorem dX7_onLayers_33 : decode cX7_onLayers 33 = .ok (.iadd, 1) := by decide +kernel
theorem dX7_onLayers_34 : decode cX7_onLayers 34 = .ok (.istore_n 2, 1) := by decide +kernel
theorem dX7_onLayers_35 : decode cX7_onLayers 35 = .ok (.iinc 3 1, 3) := by decide +kernel
theorem dX7_onLayers_38 : decode cX7_onLayers 38 = .ok (.goto (-34), 3) := by decide +kernel
theorem dX7_onLayers_41 : decode cX7_onLayers 41 = .ok (.iload_n 2, 1) := by decide +kernel
theorem dX7_onLayers_42 : decode cX7_onLayers 42 = .ok (.ireturn, 1) := by decide +kernel
theorem dX7_longest_0 : decode cX7_longest 0 = .ok (.iconst 0, 1) := by decide +kernel
theorem dX7_longest_1 : decode cX7_longest 1 = .ok (.istore_n 2, 1) := by decide +kernel
theorem dX7_longest_2 : decode cX7_longest 2 = .ok (.iconst 0, 1) := by decide +kernel
theorem dX7_longest_3 : decode cX7_longest 3 = .ok (.istore_n 3, 1) := by decide +kernel
theorem dX7_longest_4 : decode cX7_longest 4 = .ok (.iload_n 3, 1) := by decide +kernel
theorem dX7_longest_5 : decode cX7_longest 5 = .ok (.bipush 16, 2) := by decide +kernel
theorem dX7_longest_7 : decode cX7_longest 7 = .ok (.if_icmp .ge 30, 3) := by decide +kernel
theorem dX7_longest_10 : decode cX7_longest 10 = .ok (.aload_n 0, 1) := by decide +kernel
theorem dX7_longest_11 : decode cX7_longest 11 = .ok (.iload_n 1, 1) := by decide +kernel
theorem dX7_longest_12 : decode cX7_longest 12 = .ok (.iload_n 3, 1) := by decide +kernel
theorem dX7_longest_13 : decode cX7_longest 13 = .ok (.invokevirtual 190, 3) := by decide +kernel
theorem dX7_longest_16 : decode cX7_longest 16 = .ok (.istore 4, 2) := by decide +kernel
theorem dX7_longest_18 : decode cX7_longest 18 = .ok (.iload 4, 2) := by decide +kernel
theorem dX7_longest_20 : decode cX7_longest 20 = .ok (.iload_n 2, 1) := by decide +kernel
theorem dX7_longest_21 : decode cX7_longest 21 = .ok (.if_icmp .le 8, 3) := by decide +kernel
theorem dX7_longest_24 : decode cX7_longest 24 = .ok (.iload 4, 2) := by decide +kernel
theorem dX7_longest_26 : decode cX7_longest 26 = .ok (.goto 4, 3) := by decide +kernel
theorem dX7_longest_29 : decode cX7_longest 29 = .ok (.iload_n 2, 1) := by decide +kernel
theorem dX7_longest_30 : decode cX7_longest 30 = .ok (.istore_n 2, 1) := by decide +kernel
theorem dX7_longest_31 : decode cX7_longest 31 = .ok (.iinc 3 1, 3) := by decide +kernel
theorem dX7_longest_34 : decode cX7_longest 34 = .ok (.goto (-30), 3) := by decide +kernel
theorem dX7_longest_37 : decode cX7_longest 37 = .ok (.iload_n 2, 1) := by decide +kernel
theorem dX7_longest_38 : decode cX7_longest 38 = .ok (.ireturn, 1) := by decide +kernel
theorem dX7_map_0 : decode cX7_map 0 = .ok (.iload_n 1, 1) := by decide +kernel
theorem dX7_map_1 : decode cX7_map 1 = .ok (.invokestatic 55, 3) := by decide +kernel
theorem dX7_map_4 : decode cX7_map 4 = .ok (.ifCond .eq 5, 3) := by decide +kernel
theorem dX7_map_7 : decode cX7_map 7 = .ok (.iconst (-1), 1) := by decide +kernel
theorem dX7_map_8 : decode cX7_map 8 = .ok (.ireturn, 1) := by decide +kernel
theorem dX7_map_9 : decode cX7_map 9 = .ok (.iload_n 2, 1) := by decide +kernel
theorem dX7_map_10 : decode cX7_map 10 = .ok (.tableswitch 116 0 8 #[50, 61, 67, 67, 74, 67, 104, 67, 110], 50) := by decide +kernel
theorem dX7_map_60 : decode cX7_map 60 = .ok (.aload_n 0, 1) := by decide +kernel
theorem dX7_map_61 : decode cX7_map 61 = .ok (.getfield 7, 3) := by decide +kernel
theorem dX7_map_64 : decode cX7_map 64 = .ok (.sipush 408, 3) := by decide +kernel
theorem dX7_map_67 : decode cX7_map 67 = .ok (.iload_n 1, 1) := by decide +kernel
theorem dX7_map_68 : decode cX7_map 68 = .ok (.iadd, 1) := by decide +kernel
theorem dX7_map_69 : decode cX7_map 69 = .ok (.iaload, 1) := by decide +kernel
theorem dX7_map_70 : decode cX7_map 70 = .ok (.ireturn, 1) := by decide +kernel
theorem dX7_map_71 : decode cX7_map 71 = .ok (.aload_n 0, 1) := by decide +kernel
theorem dX7_map_72 : decode cX7_map 72 = .ok (.iload_n 1, 1) := by decide +kernel
theorem dX7_map_73 : decode cX7_map 73 = .ok (.invokevirtual 193, 3) := by decide +kernel
theorem dX7_map_76 : decode cX7_map 76 = .ok (.ireturn, 1) := by decide +kernel
theorem dX7_map_77 : decode cX7_map 77 = .ok (.aload_n 0, 1) := by decide +kernel
theorem dX7_map_78 : decode cX7_map 78 = .ok (.iload_n 1, 1) := by decide +kernel
theorem dX7_map_79 : decode cX7_map 79 = .ok (.iload_n 2, 1) := by decide +kernel
theorem dX7_map_80 : decode cX7_map 80 = .ok (.invokevirtual 196, 3) := by decide +kernel
theorem dX7_map_83 : decode cX7_map 83 = .ok (.ireturn, 1) := by decide +kernel
theorem dX7_map_84 : decode cX7_map 84 = .ok (.aload_n 0, 1) := by decide +kernel
theorem dX7_map_85 : decode cX7_map 85 = .ok (.iload_n 1, 1) := by decide +kernel
theorem dX7_map_86 : decode cX7_map 86 = .ok (.iconst 3, 1) := by decide +kernel
theorem dX7_map_87 : decode cX7_map 87 = .ok (.invokevirtual 196, 3) := by decide +kernel
theorem dX7_map_90 : decode cX7_map 90 = .ok (.invokestatic 119, 3) := by decide +kernel
theorem dX7_map_93 : decode cX7_map 93 = .ok (.aload_n 0, 1) := by decide +kernel
theorem dX7_map_94 : decode cX7_map 94 = .ok (.iload_n 1, 1) := by decide +kernel
theorem dX7_map_95 : decode cX7_map 95 = .ok (.iconst 2, 1) := by decide +kernel
theorem dX7_map_96 : decode cX7_map 96 = .ok (.invokevirtual 196, 3) := by decide +kernel
theorem dX7_map_99 : decode cX7_map 99 = .ok (.invokestatic 119, 3) := by decide +kernel
theorem dX7_map_102 : decode cX7_map 102 = .ok (.iadd, 1) := by decide +kernel
theorem dX7_map_103 : decode cX7_map 103 = .ok (.bipush 16, 2) := by decide +kernel
theorem dX7_map_105 : decode cX7_map 105 = .ok (.if_icmp .ne 7, 3) := by decide +kernel
theorem dX7_map_108 : decode cX7_map 108 = .ok (.iconst 1, 1) := by decide +kernel
theorem dX7_map_109 : decode cX7_map 109 = .ok (.goto 4, 3) := by decide +kernel
theorem dX7_map_112 : decode cX7_map 112 = .ok (.iconst 0, 1) := by decide +kernel
theorem dX7_map_113 : decode cX7_map 113 = .ok (.ireturn, 1) := by decide +kernel
theorem dX7_map_114 : decode cX7_map 114 = .ok (.aload_n 0, 1) := by decide +kernel
theorem dX7_map_115 : decode cX7_map 115 = .ok (.iload_n 1, 1) := by decide +kernel
theorem dX7_map_116 : decode cX7_map 116 = .ok (.invokevirtual 199, 3) := by decide +kernel
theorem dX7_map_119 : decode cX7_map 119 = .ok (.ireturn, 1) := by decide +kernel
theorem dX7_map_120 : decode cX7_map 120 = .ok (.aload_n 0, 1) := by decide +kernel
theorem dX7_map_121 : decode cX7_map 121 = .ok (.iload_n 1, 1) := by decide +kernel
theorem dX7_map_122 : decode cX7_map 122 = .ok (.invokevirtual 202, 3) := by decide +kernel
theorem dX7_map_125 : decode cX7_map 125 = .ok (.ireturn, 1) := by decide +kernel
theorem dX7_map_126 : decode cX7_map 126 = .ok (.bipush (-2), 2) := by decide +kernel
theorem dX7_map_128 : decode cX7_map 128 = .ok (.ireturn, 1) := by decide +kernel
theorem dX7_layer_0 : decode cX7_layer 0 = .ok (.aload_n 0, 1) := by decide +kernel
theorem dX7_layer_1 : decode cX7_layer 1 = .ok (.iload_n 1, 1) := by decide +kernel
theorem dX7_layer_2 : decode cX7_layer 2 = .ok (.iload_n 2, 1) := by decide +kernel
theorem dX7_layer_3 : decode cX7_layer 3 = .ok (.invokevirtual 91, 3) := by decide +kernel
theorem dX7_layer_6 : decode cX7_layer 6 = .ok (.ifCond .eq 5, 3) := by decide +kernel
theorem dX7_layer_9 : decode cX7_layer 9 = .ok (.iconst (-1), 1) := by decide +kernel
theorem dX7_layer_10 : decode cX7_layer 10 = .ok (.ireturn, 1) := by decide +kernel
theorem dX7_layer_11 : decode cX7_layer 11 = .ok (.iload_n 3, 1) := by decide +kernel
theorem dX7_layer_12 : decode cX7_layer 12 = .ok (.tableswitch 71 0 3 #[32, 40, 55, 63], 32) := by decide +kernel
theorem dX7_layer_44 : decode cX7_layer 44 = .ok (.aload_n 0, 1) := by decide +kernel
theorem dX7_layer_45 : decode cX7_layer 45 = .ok (.iload_n 1, 1) := by decide +kernel
theorem dX7_layer_46 : decode cX7_layer 46 = .ok (.iload_n 2, 1) := by decide +kernel
theorem dX7_layer_47 : decode cX7_layer 47 = .ok (.iconst 0, 1) := by decide +kernel
theorem dX7_layer_48 : decode cX7_layer 48 = .ok (.invokevirtual 78, 3) := by decide +kernel
theorem dX7_layer_51 : decode cX7_layer 51 = .ok (.ireturn, 1) := by decide +kernel
theorem dX7_layer_52 : decode cX7_layer 52 = .ok (.aload_n 0, 1) := by decide +kernel
theorem dX7_layer_53 : decode cX7_layer 53 = .ok (.iload_n 1, 1) := by decide +kernel
theorem dX7_layer_54 : decode cX7_layer 54 = .ok (.iload_n 2, 1) := by decide +kernel
theorem dX7_layer_55 : decode cX7_layer 55 = .ok (.invokevirtual 63, 3) := by decide +kernel
theorem dX7_layer_58 : decode cX7_layer 58 = .ok (.ifCond .eq 7, 3) := by decide +kernel
theorem dX7_layer_61 : decode cX7_layer 61 = .ok (.iconst 1, 1) := by decide +kernel
theorem dX7_layer_62 : decode cX7_layer 62 = .ok (.goto 4, 3) := by decide +kernel
theorem dX7_layer_65 : decode cX7_layer 65 = .ok (.iconst 0, 1) := by decide +kernel
theorem dX7_layer_66 : decode cX7_layer 66 = .ok (.ireturn, 1) := by decide +kernel
theorem dX7_layer_67 : decode cX7_layer 67 = .ok (.aload_n 0, 1) := by decide +kernel
theorem dX7_layer_68 : decode cX7_layer 68 = .ok (.iload_n 1, 1) := by decide +kernel
theorem dX7_layer_69 : decode cX7_layer 69 = .ok (.iload_n 2, 1) := by decide +kernel
theorem dX7_layer_70 : decode cX7_layer 70 = .ok (.iconst 2, 1) := by decide +kernel
theorem dX7_layer_71 : decode cX7_layer 71 = .ok (.invokevirtual 78, 3) := by decide +kernel
theorem dX7_layer_74 : decode cX7_layer 74 = .ok (.ireturn, 1) := by decide +kernel
theorem dX7_layer_75 : decode cX7_layer 75 = .ok (.aload_n 0, 1) := by decide +kernel
theorem dX7_layer_76 : decode cX7_layer 76 = .ok (.iload_n 1, 1) := by decide +kernel
theorem dX7_layer_77 : decode cX7_layer 77 = .ok (.iload_n 2, 1) := by decide +kernel
theorem dX7_layer_78 : decode cX7_layer 78 = .ok (.iconst 1, 1) := by decide +kernel
theorem dX7_layer_79 : decode cX7_layer 79 = .ok (.invokevirtual 78, 3) := by decide +kernel
theorem dX7_layer_82 : decode cX7_layer 82 = .ok (.ireturn, 1) := by decide +kernel
theorem dX7_layer_83 : decode cX7_layer 83 = .ok (.bipush (-2), 2) := by decide +kernel
theorem dX7_layer_85 : decode cX7_layer 85 = .ok (.ireturn, 1) := by decide +kernel
theorem dX7_entry_0 : decode cX7_entry 0 = .ok (.aload_n 0, 1) := by decide +kernel
theorem dX7_entry_1 : decode cX7_entry 1 = .ok (.iload_n 1, 1) := by decide +kernel
theorem dX7_entry_2 : decode cX7_entry 2 = .ok (.iload_n 2, 1) := by decide +kernel
theorem dX7_entry_3 : decode cX7_entry 3 = .ok (.invokevirtual 91, 3) := by decide +kernel
theorem dX7_entry_6 : decode cX7_entry 6 = .ok (.ifCond .ne 10, 3) := by decide +kernel
theorem dX7_entry_9 : decode cX7_entry 9 = .ok (.iload_n 3, 1) := by decide +kernel
theorem dX7_entry_10 : decode cX7_entry 10 = .ok (.invokestatic 106, 3) := by decide +kernel
theorem dX7_entry_13 : decode cX7_entry 13 = .ok (.ifCond .eq 7, 3) := by decide +kernel
theorem dX7_entry_16 : decode cX7_entry 16 = .ok (.iconst (-1), 1) := by decide +kernel
theorem dX7_entry_17 : decode cX7_entry 17 = .ok (.goto 14, 3) := by decide +kernel
theorem dX7_entry_20 : decode cX7_entry 20 = .ok (.aload_n 0, 1) := by decide +kernel
theorem dX7_entry_21 : decode cX7_entry 21 = .ok (.getfield 7, 3) := by decide +kernel
theorem dX7_entry_24 : decode cX7_entry 24 = .ok (.iload_n 1, 1) := by decide +kernel
theorem dX7_entry_25 : decode cX7_entry 25 = .ok (.iload_n 2, 1) := by decide +kernel
theorem dX7_entry_26 : decode cX7_entry 26 = .ok (.iload_n 3, 1) := by decide +kernel
theorem dX7_entry_27 : decode cX7_entry 27 = .ok (.invokestatic 67, 3) := by decide +kernel
theorem dX7_entry_30 : decode cX7_entry 30 = .ok (.iaload, 1) := by decide +kernel
theorem dX7_entry_31 : decode cX7_entry 31 = .ok (.ireturn, 1) := by decide +kernel
theorem dX7_follow_0 : decode cX7_follow 0 = .ok (.iload_n 1, 1) := by decide +kernel
theorem dX7_follow_1 : decode cX7_follow 1 = .ok (.invokestatic 55, 3) := by decide +kernel
theorem dX7_follow_4 : decode cX7_follow 4 = .ok (.ifCond .ne 10, 3) := by decide +kernel
theorem dX7_follow_7 : decode cX7_follow 7 = .ok (.iload_n 2, 1) := by decide +kernel
theorem dX7_follow_8 : decode cX7_follow 8 = .ok (.invokestatic 106, 3) := by decide +kernel
theorem dX7_follow_11 : decode cX7_follow 11 = .ok (.ifCond .eq 5, 3) := by decide +kernel
theorem dX7_follow_14 : decode cX7_follow 14 = .ok (.iconst (-1), 1) := by decide +kernel
theorem dX7_follow_15 : decode cX7_follow 15 = .ok (.ireturn, 1) := by decide +kernel
theorem dX7_follow_16 : decode cX7_follow 16 = .ok (.iload_n 3, 1) := by decide +kernel
theorem dX7_follow_17 : decode cX7_follow 17 = .ok (.iconst 0, 1) := by decide +kernel
theorem dX7_follow_18 : decode cX7_follow 18 = .ok (.iconst 2, 1) := by decide +kernel
theorem dX7_follow_19 : decode cX7_follow 19 = .ok (.invokestatic 51, 3) := by decide +kernel
theorem dX7_follow_22 : decode cX7_follow 22 = .ok (.ifCond .ne 6, 3) := by decide +kernel
theorem dX7_follow_25 : decode cX7_follow 25 = .ok (.bipush (-2), 2) := by decide +kernel
theorem dX7_follow_27 : decode cX7_follow 27 = .ok (.ireturn, 1) := by decide +kernel
theorem dX7_follow_28 : decode cX7_follow 28 = .ok (.aload_n 0, 1) := by decide +kernel
theorem dX7_follow_29 : decode cX7_follow 29 = .ok (.iload_n 1, 1) := by decide +kernel
theorem dX7_follow_30 : decode cX7_follow 30 = .ok (.iload_n 2, 1) := by decide +kernel
theorem dX7_follow_31 : decode cX7_follow 31 = .ok (.invokevirtual 184, 3) := by decide +kernel
theorem dX7_follow_34 : decode cX7_follow 34 = .ok (.istore 4, 2) := by decide +kernel
theorem dX7_follow_36 : decode cX7_follow 36 = .ok (.iload_n 3, 1) := by decide +kernel
theorem dX7_follow_37 : decode cX7_follow 37 = .ok (.ifCond .ne 49, 3) := by decide +kernel
theorem dX7_follow_40 : decode cX7_follow 40 = .ok (.iconst 0, 1) := by decide +kernel
theorem dX7_follow_41 : decode cX7_follow 41 = .ok (.istore 5, 2) := by decide +kernel
theorem dX7_follow_43 : decode cX7_follow 43 = .ok (.iload 4, 2) := by decide +kernel
theorem dX7_follow_45 : decode cX7_follow 45 = .ok (.bipush (-5), 2) := by decide +kernel
theorem dX7_follow_47 : decode cX7_follow 47 = .ok (.if_icmp .ne 24, 3) := by decide +kernel
theorem dX7_follow_50 : decode cX7_follow 50 = .ok (.aload_n 0, 1) := by decide +kernel
theorem dX7_follow_51 : decode cX7_follow 51 = .ok (.iload_n 1, 1) := by decide +kernel
theorem dX7_follow_52 : decode cX7_follow 52 = .ok (.iload_n 2, 1) := by decide +kernel
theorem dX7_follow_53 : decode cX7_follow 53 = .ok (.iload 5, 2) := by decide +kernel
theorem dX7_follow_55 : decode cX7_follow 55 = .ok (.iconst 1, 1) := by decide +kernel
theorem dX7_follow_56 : decode cX7_follow 56 = .ok (.iadd, 1) := by decide +kernel
theorem dX7_follow_57 : decode cX7_follow 57 = .ok (.invokevirtual 187, 3) := by decide +kernel
theorem dX7_follow_60 : decode cX7_follow 60 = .ok (.bipush 16, 2) := by decide +kernel
theorem dX7_follow_62 : decode cX7_follow 62 = .ok (.if_icmp .eq 9, 3) := by decide +kernel
theorem dX7_follow_65 : decode cX7_follow 65 = .ok (.iinc 5 1, 3) := by decide +kernel
theorem dX7_follow_68 : decode cX7_follow 68 = .ok (.goto (-25), 3) := by decide +kernel
theorem dX7_follow_71 : decode cX7_follow 71 = .ok (.iload 4, 2) := by decide +kernel
theorem dX7_follow_73 : decode cX7_follow 73 = .ok (.bipush (-5), 2) := by decide +kernel
theorem dX7_follow_75 : decode cX7_follow 75 = .ok (.if_icmp .ne 8, 3) := by decide +kernel
theorem dX7_follow_78 : decode cX7_follow 78 = .ok (.iload 5, 2) := by decide +kernel
theorem dX7_follow_80 : decode cX7_follow 80 = .ok (.goto 5, 3) := by decide +kernel
theorem dX7_follow_83 : decode cX7_follow 83 = .ok (.bipush (-5), 2) := by decide +kernel
theorem dX7_follow_85 : decode cX7_follow 85 = .ok (.ireturn, 1) := by decide +kernel
theorem dX7_follow_86 : decode cX7_follow 86 = .ok (.iload 4, 2) := by decide +kernel
theorem dX7_follow_88 : decode cX7_follow 88 = .ok (.bipush (-5), 2) := by decide +kernel
theorem dX7_follow_90 : decode cX7_follow 90 = .ok (.if_icmp .eq 8, 3) := by decide +kernel
theorem dX7_follow_93 : decode cX7_follow 93 = .ok (.iload_n 3, 1) := by decide +kernel
theorem dX7_follow_94 : decode cX7_follow 94 = .ok (.iconst 1, 1) := by decide +kernel
theorem dX7_follow_95 : decode cX7_follow 95 = .ok (.if_icmp .ne 8, 3) := by decide +kernel
theorem dX7_follow_98 : decode cX7_follow 98 = .ok (.iload 4, 2) := by decide +kernel
theorem dX7_follow_100 : decode cX7_follow 100 = .ok (.goto 16, 3) := by decide +kernel
theorem dX7_follow_103 : decode cX7_follow 103 = .ok (.aload_n 0, 1) := by decide +kernel
theorem dX7_follow_104 : decode cX7_follow 104 = .ok (.iload_n 1, 1) := by decide +kernel
theorem dX7_follow_105 : decode cX7_follow 105 = .ok (.aload_n 0, 1) := by decide +kernel
theorem dX7_follow_106 : decode cX7_follow 106 = .ok (.iload_n 1, 1) := by decide +kernel
theorem dX7_follow_107 : decode cX7_follow 107 = .ok (.iload_n 2, 1) := by decide +kernel
theorem dX7_follow_108 : decode cX7_follow 108 = .ok (.iload 4, 2) := by decide +kernel
theorem dX7_follow_110 : decode cX7_follow 110 = .ok (.invokevirtual 187, 3) := by decide +kernel
theorem dX7_follow_113 : decode cX7_follow 113 = .ok (.invokevirtual 190, 3) := by decide +kernel
theorem dX7_follow_116 : decode cX7_follow 116 = .ok (.ireturn, 1) := by decide +kernel
theorem dX7_after_0 : decode cX7_after 0 = .ok (.iload_n 1, 1) := by decide +kernel
theorem dX7_after_1 : decode cX7_after 1 = .ok (.invokestatic 55, 3) := by decide +kernel
theorem dX7_after_4 : decode cX7_after 4 = .ok (.ifCond .ne 10, 3) := by decide +kernel
theorem dX7_after_7 : decode cX7_after 7 = .ok (.iload_n 2, 1) := by decide +kernel
theorem dX7_after_8 : decode cX7_after 8 = .ok (.invokestatic 106, 3) := by decide +kernel
theorem dX7_after_11 : decode cX7_after 11 = .ok (.ifCond .eq 5, 3) := by decide +kernel
theorem dX7_after_14 : decode cX7_after 14 = .ok (.iconst (-1), 1) := by decide +kernel
theorem dX7_after_15 : decode cX7_after 15 = .ok (.ireturn, 1) := by decide +kernel
theorem dX7_after_16 : decode cX7_after 16 = .ok (.iload_n 3, 1) := by decide +kernel
theorem dX7_after_17 : decode cX7_after 17 = .ok (.iconst 0, 1) := by decide +kernel
theorem dX7_after_18 : decode cX7_after 18 = .ok (.ldc 205, 2) := by decide +kernel
theorem dX7_after_20 : decode cX7_after 20 = .ok (.invokestatic 51, 3) := by decide +kernel
theorem dX7_after_23 : decode cX7_after 23 = .ok (.ifCond .ne 6, 3) := by decide +kernel
theorem dX7_after_26 : decode cX7_after 26 = .ok (.bipush (-2), 2) := by decide +kernel
theorem dX7_after_28 : decode cX7_after 28 = .ok (.ireturn, 1) := by decide +kernel
theorem dX7_after_29 : decode cX7_after 29 = .ok (.aload_n 0, 1) := by decide +kernel
theorem dX7_after_30 : decode cX7_after 30 = .ok (.iload_n 1, 1) := by decide +kernel
theorem dX7_after_31 : decode cX7_after 31 = .ok (.iload_n 2, 1) := by decide +kernel
theorem dX7_after_32 : decode cX7_after 32 = .ok (.iload_n 3, 1) := by decide +kernel
theorem dX7_after_33 : decode cX7_after 33 = .ok (.bipush 16, 2) := by decide +kernel
theorem dX7_after_35 : decode cX7_after 35 = .ok (.if_icmp .ge 7, 3) := by decide +kernel
theorem dX7_after_38 : decode cX7_after 38 = .ok (.iload_n 3, 1) := by decide +kernel
theorem dX7_after_39 : decode cX7_after 39 = .ok (.goto 5, 3) := by decide +kernel
theorem dX7_after_42 : decode cX7_after 42 = .ok (.bipush 16, 2) := by decide +kernel
theorem dX7_after_44 : decode cX7_after 44 = .ok (.invokevirtual 187, 3) := by decide +kernel
theorem dX7_after_47 : decode cX7_after 47 = .ok (.istore 4, 2) := by decide +kernel
theorem dX7_after_49 : decode cX7_after 49 = .ok (.iload 4, 2) := by decide +kernel
theorem dX7_after_51 : decode cX7_after 51 = .ok (.bipush 16, 2) := by decide +kernel
theorem dX7_after_53 : decode cX7_after 53 = .ok (.if_icmp .eq 30, 3) := by decide +kernel
theorem dX7_after_56 : decode cX7_after 56 = .ok (.iload_n 3, 1) := by decide +kernel
theorem dX7_after_57 : decode cX7_after 57 = .ok (.bipush 16, 2) := by decide +kernel
theorem dX7_after_59 : decode cX7_after 59 = .ok (.if_icmp .le 24, 3) := by decide +kernel
theorem dX7_after_62 : decode cX7_after 62 = .ok (.aload_n 0, 1) := by decide +kernel
theorem dX7_after_63 : decode cX7_after 63 = .ok (.iload_n 1, 1) := by decide +kernel
theorem dX7_after_64 : decode cX7_after 64 = .ok (.iload 4, 2) := by decide +kernel
theorem dX7_after_66 : decode cX7_after 66 = .ok (.iload_n 3, 1) := by decide +kernel
theorem dX7_after_67 : decode cX7_after 67 = .ok (.bipush 16, 2) := by decide +kernel
theorem dX7_after_69 : decode cX7_after 69 = .ok (.isub, 1) := by decide +kernel
theorem dX7_after_70 : decode cX7_after 70 = .ok (.aload_n 0, 1) := by decide +kernel
theorem dX7_after_71 : decode cX7_after 71 = .ok (.iload_n 1, 1) := by decide +kernel
theorem dX7_after_72 : decode cX7_after 72 = .ok (.iload 4, 2) := by decide +kernel
theorem dX7_after_74 : decode cX7_after 74 = .ok (.invokevirtual 190, 3) := by decide +kernel
theorem dX7_after_77 : decode cX7_after 77 = .ok (.irem, 1) := by decide +kernel
theorem dX7_after_78 : decode cX7_after 78 = .ok (.invokevirtual 187, 3) := by decide +kernel
theorem dX7_after_81 : decode cX7_after 81 = .ok (.istore 4, 2) := by decide +kernel
theorem dX7_after_83 : decode cX7_after 83 = .ok (.iload 4, 2) := by decide +kernel
theorem dX7_after_85 : decode cX7_after 85 = .ok (.bipush 16, 2) := by decide +kernel
theorem dX7_after_87 : decode cX7_after 87 = .ok (.if_icmp .ne 8, 3) := by decide +kernel
theorem dX7_after_90 : decode cX7_after 90 = .ok (.bipush (-5), 2) := by decide +kernel
theorem dX7_after_92 : decode cX7_after 92 = .ok (.goto 5, 3) := by decide +kernel
theorem dX7_after_95 : decode cX7_after 95 = .ok (.iload 4, 2) := by decide +kernel
theorem dX7_after_97 : decode cX7_after 97 = .ok (.ireturn, 1) := by decide +kernel
theorem dX7_gives_0 : decode cX7_gives 0 = .ok (.iload_n 1, 1) := by decide +kernel
theorem dX7_gives_1 : decode cX7_gives 1 = .ok (.invokestatic 106, 3) := by decide +kernel
theorem dX7_gives_4 : decode cX7_gives 4 = .ok (.ifCond .eq 5, 3) := by decide +kernel
theorem dX7_gives_7 : decode cX7_gives 7 = .ok (.iconst (-1), 1) := by decide +kernel
theorem dX7_gives_8 : decode cX7_gives 8 = .ok (.ireturn, 1) := by decide +kernel
theorem dX7_gives_9 : decode cX7_gives 9 = .ok (.aload_n 0, 1) := by decide +kernel
theorem dX7_gives_10 : decode cX7_gives 10 = .ok (.invokevirtual 113, 3) := by decide +kernel
theorem dX7_gives_13 : decode cX7_gives 13 = .ok (.ifCond .ne 11, 3) := by decide +kernel
theorem dX7_gives_16 : decode cX7_gives 16 = .ok (.bipush (-100), 2) := by decide +kernel
theorem dX7_gives_18 : decode cX7_gives 18 = .ok (.aload_n 0, 1) := by decide +kernel
theorem dX7_gives_19 : decode cX7_gives 19 = .ok (.getfield 85, 3) := by decide +kernel
theorem dX7_gives_22 : decode cX7_gives 22 = .ok (.isub, 1) := by decide +kernel
theorem dX7_gives_23 : decode cX7_gives 23 = .ok (.ireturn, 1) := by decide +kernel
theorem dX7_gives_24 : decode cX7_gives 24 = .ok (.aload_n 0, 1) := by decide +kernel
theorem dX7_gives_25 : decode cX7_gives 25 = .ok (.getfield 29, 3) := by decide +kernel
theorem dX7_gives_28 : decode cX7_gives 28 = .ok (.iload_n 1, 1) := by decide +kernel
theorem dX7_gives_29 : decode cX7_gives 29 = .ok (.iaload, 1) := by decide +kernel
theorem dX7_gives_30 : decode cX7_gives 30 = .ok (.bipush 16, 2) := by decide +kernel
theorem dX7_gives_32 : decode cX7_gives 32 = .ok (.if_icmp .ne 8, 3) := by decide +kernel
theorem dX7_gives_35 : decode cX7_gives 35 = .ok (.bipush (-5), 2) := by decide +kernel
theorem dX7_gives_37 : decode cX7_gives 37 = .ok (.goto 9, 3) := by decide +kernel
theorem dX7_gives_40 : decode cX7_gives 40 = .ok (.aload_n 0, 1) := by decide +kernel
theorem dX7_gives_41 : decode cX7_gives 41 = .ok (.getfield 29, 3) := by decide +kernel
theorem dX7_gives_44 : decode cX7_gives 44 = .ok (.iload_n 1, 1) := by decide +kernel
theorem dX7_gives_45 : decode cX7_gives 45 = .ok (.iaload, 1) := by decide +kernel
theorem dX7_gives_46 : decode cX7_gives 46 = .ok (.ireturn, 1) := by decide +kernel
theorem dX7_apart_0 : decode cX7_apart 0 = .ok (.iconst 0, 1) := by decide +kernel
theorem dX7_apart_1 : decode cX7_apart 1 = .ok (.istore_n 3, 1) := by decide +kernel
theorem dX7_apart_2 : decode cX7_apart 2 = .ok (.iconst 0, 1) := by decide +kernel
theorem dX7_apart_3 : decode cX7_apart 3 = .ok (.istore 4, 2) := by decide +kernel
theorem dX7_apart_5 : decode cX7_apart 5 = .ok (.iload 4, 2) := by decide +kernel
theorem dX7_apart_7 : decode cX7_apart 7 = .ok (.bipush 16, 2) := by decide +kernel
theorem dX7_apart_9 : decode cX7_apart 9 = .ok (.if_icmp .ge 37, 3) := by decide +kernel
theorem dX7_apart_12 : decode cX7_apart 12 = .ok (.iload_n 3, 1) := by decide +kernel
theorem dX7_apart_13 : decode cX7_apart 13 = .ok (.aload_n 0, 1) := by decide +kernel
theorem dX7_apart_14 : decode cX7_apart 14 = .ok (.iload_n 1, 1) := by decide +kernel
theorem dX7_apart_15 : decode cX7_apart 15 = .ok (.iload 4, 2) := by decide +kernel
theorem dX7_apart_17 : decode cX7_apart 17 = .ok (.invokevirtual 75, 3) := by decide +kernel
theorem dX7_apart_20 : decode cX7_apart 20 = .ok (.aload_n 0, 1) := by decide +kernel
theorem dX7_apart_21 : decode cX7_apart 21 = .ok (.iload_n 2, 1) := by decide +kernel
theorem dX7_apart_22 : decode cX7_apart 22 = .ok (.iload 4, 2) := by decide +kernel
theorem dX7_apart_24 : decode cX7_apart 24 = .ok (.invokevirtual 75, 3) := by decide +kernel
theorem dX7_apart_27 : decode cX7_apart 27 = .ok (.if_icmp .ne 7, 3) := by decide +kernel
theorem dX7_apart_30 : decode cX7_apart 30 = .ok (.iconst 0, 1) := by decide +kernel
theorem dX7_apart_31 : decode cX7_apart 31 = .ok (.goto 7, 3) := by decide +kernel
theorem dX7_apart_34 : decode cX7_apart 34 = .ok (.iconst 1, 1) := by decide +kernel
theorem dX7_apart_35 : decode cX7_apart 35 = .ok (.iload 4, 2) := by decide +kernel
theorem dX7_apart_37 : decode cX7_apart 37 = .ok (.ishl, 1) := by decide +kernel
theorem dX7_apart_38 : decode cX7_apart 38 = .ok (.ior, 1) := by decide +kernel
theorem dX7_apart_39 : decode cX7_apart 39 = .ok (.istore_n 3, 1) := by decide +kernel
theorem dX7_apart_40 : decode cX7_apart 40 = .ok (.iinc 4 1, 3) := by decide +kernel
theorem dX7_apart_43 : decode cX7_apart 43 = .ok (.goto (-38), 3) := by decide +kernel
theorem dX7_apart_46 : decode cX7_apart 46 = .ok (.iload_n 3, 1) := by decide +kernel
theorem dX7_apart_47 : decode cX7_apart 47 = .ok (.ireturn, 1) := by decide +kernel
theorem dX7_differ_0 : decode cX7_differ 0 = .ok (.iload_n 1, 1) := by decide +kernel
theorem dX7_differ_1 : decode cX7_differ 1 = .ok (.invokestatic 55, 3) := by decide +kernel
theorem dX7_differ_4 : decode cX7_differ 4 = .ok (.ifCond .ne 10, 3) := by decide +kernel
theorem dX7_differ_7 : decode cX7_differ 7 = .ok (.iload_n 2, 1) := by decide +kernel
theorem dX7_differ_8 : decode cX7_differ 8 = .ok (.invokestatic 55, 3) := by decide +kernel
theorem dX7_differ_11 : decode cX7_differ 11 = .ok (.ifCond .eq 7, 3) := by decide +kernel
theorem dX7_differ_14 : decode cX7_differ 14 = .ok (.iconst (-1), 1) := by decide +kernel
theorem dX7_differ_15 : decode cX7_differ 15 = .ok (.goto 9, 3) := by decide +kernel
theorem dX7_differ_18 : decode cX7_differ 18 = .ok (.aload_n 0, 1) := by decide +kernel
theorem dX7_differ_19 : decode cX7_differ 19 = .ok (.iload_n 1, 1) := by decide +kernel
theorem dX7_differ_20 : decode cX7_differ 20 = .ok (.iload_n 2, 1) := by decide +kernel
theorem dX7_differ_21 : decode cX7_differ 21 = .ok (.invokevirtual 206, 3) := by decide +kernel
theorem dX7_differ_24 : decode cX7_differ 24 = .ok (.ireturn, 1) := by decide +kernel
theorem dX7_probes_0 : decode cX7_probes 0 = .ok (.iload_n 1, 1) := by decide +kernel
theorem dX7_probes_1 : decode cX7_probes 1 = .ok (.iconst 1, 1) := by decide +kernel
theorem dX7_probes_2 : decode cX7_probes 2 = .ok (.bipush 63, 2) := by decide +kernel
theorem dX7_probes_4 : decode cX7_probes 4 = .ok (.invokestatic 51, 3) := by decide +kernel
theorem dX7_probes_7 : decode cX7_probes 7 = .ok (.ifCond .ne 6, 3) := by decide +kernel
theorem dX7_probes_10 : decode cX7_probes 10 = .ok (.bipush (-2), 2) := by decide +kernel
theorem dX7_probes_12 : decode cX7_probes 12 = .ok (.ireturn, 1) := by decide +kernel
theorem dX7_probes_13 : decode cX7_probes 13 = .ok (.iconst 0, 1) := by decide +kernel
theorem dX7_probes_14 : decode cX7_probes 14 = .ok (.istore_n 2, 1) := by decide +kernel
theorem dX7_probes_15 : decode cX7_probes 15 = .ok (.iconst 0, 1) := by decide +kernel
theorem dX7_probes_16 : decode cX7_probes 16 = .ok (.istore_n 3, 1) := by decide +kernel
theorem dX7_probes_17 : decode cX7_probes 17 = .ok (.iload_n 3, 1) := by decide +kernel
theorem dX7_probes_18 : decode cX7_probes 18 = .ok (.bipush 6, 2) := by decide +kernel
theorem dX7_probes_20 : decode cX7_probes 20 = .ok (.if_icmp .ge 72, 3) := by decide +kernel
theorem dX7_probes_23 : decode cX7_probes 23 = .ok (.iconst 0, 1) := by decide +kernel
theorem dX7_probes_24 : decode cX7_probes 24 = .ok (.istore 4, 2) := by decide +kernel
theorem dX7_probes_26 : decode cX7_probes 26 = .ok (.iload 4, 2) := by decide +kernel
theorem dX7_probes_28 : decode cX7_probes 28 = .ok (.iload_n 3, 1) := by decide +kernel
theorem dX7_probes_29 : decode cX7_probes 29 = .ok (.if_icmp .ge 57, 3) := by decide +kernel
theorem dX7_probes_32 : decode cX7_probes 32 = .ok (.iload_n 1, 1) := by decide +kernel
theorem dX7_probes_33 : decode cX7_probes 33 = .ok (.iload_n 3, 1) := by decide +kernel
theorem dX7_probes_34 : decode cX7_probes 34 = .ok (.ishr, 1) := by decide +kernel
theorem dX7_probes_35 : decode cX7_probes 35 = .ok (.iconst 1, 1) := by decide +kernel
theorem dX7_probes_36 : decode cX7_probes 36 = .ok (.iand, 1) := by decide +kernel
theorem dX7_probes_37 : decode cX7_probes 37 = .ok (.iconst 1, 1) := by decide +kernel
theorem dX7_probes_38 : decode cX7_probes 38 = .ok (.if_icmp .ne 23, 3) := by decide +kernel
theorem dX7_probes_41 : decode cX7_probes 41 = .ok (.iload_n 1, 1) := by decide +kernel
theorem dX7_probes_42 : decode cX7_probes 42 = .ok (.iload 4, 2) := by decide +kernel
theorem dX7_probes_44 : decode cX7_probes 44 = .ok (.ishr, 1) := by decide +kernel
theorem dX7_probes_45 : decode cX7_probes 45 = .ok (.iconst 1, 1) := by decide +kernel
theorem dX7_probes_46 : decode cX7_probes 46 = .ok (.iand, 1) := by decide +kernel
theorem dX7_probes_47 : decode cX7_probes 47 = .ok (.iconst 1, 1) := by decide +kernel
theorem dX7_probes_48 : decode cX7_probes 48 = .ok (.if_icmp .ne 13, 3) := by decide +kernel
theorem dX7_probes_51 : decode cX7_probes 51 = .ok (.aload_n 0, 1) := by decide +kernel
theorem dX7_probes_52 : decode cX7_probes 52 = .ok (.iload_n 3, 1) := by decide +kernel
theorem dX7_probes_53 : decode cX7_probes 53 = .ok (.iload 4, 2) := by decide +kernel
theorem dX7_probes_55 : decode cX7_probes 55 = .ok (.invokevirtual 206, 3) := by decide +kernel
theorem dX7_probes_58 : decode cX7_probes 58 = .ok (.goto 4, 3) := by decide +kernel
theorem dX7_probes_61 : decode cX7_probes 61 = .ok (.iconst 0, 1) := by decide +kernel
theorem dX7_probes_62 : decode cX7_probes 62 = .ok (.istore 5, 2) := by decide +kernel
theorem dX7_probes_64 : decode cX7_probes 64 = .ok (.iload 5, 2) := by decide +kernel
theorem dX7_probes_66 : decode cX7_probes 66 = .ok (.ifCond .eq 14, 3) := by decide +kernel
theorem dX7_probes_69 : decode cX7_probes 69 = .ok (.aload_n 0, 1) := by decide +kernel
theorem dX7_probes_70 : decode cX7_probes 70 = .ok (.getfield 48, 3) := by decide +kernel
theorem dX7_probes_73 : decode cX7_probes 73 = .ok (.iload_n 2, 1) := by decide +kernel
theorem dX7_probes_74 : decode cX7_probes 74 = .ok (.iload 5, 2) := by decide +kernel
theorem dX7_probes_76 : decode cX7_probes 76 = .ok (.iastore, 1) := by decide +kernel
theorem dX7_probes_77 : decode cX7_probes 77 = .ok (.iinc 2 1, 3) := by decide +kernel
theorem dX7_probes_80 : decode cX7_probes 80 = .ok (.iinc 4 1, 3) := by decide +kernel
theorem dX7_probes_83 : decode cX7_probes 83 = .ok (.goto (-57), 3) := by decide +kernel
theorem dX7_probes_86 : decode cX7_probes 86 = .ok (.iinc 3 1, 3) := by decide +kernel
theorem dX7_probes_89 : decode cX7_probes 89 = .ok (.goto (-72), 3) := by decide +kernel
theorem dX7_probes_92 : decode cX7_probes 92 = .ok (.ldc 209, 2) := by decide +kernel
theorem dX7_probes_94 : decode cX7_probes 94 = .ok (.istore_n 3, 1) := by decide +kernel
theorem dX7_probes_95 : decode cX7_probes 95 = .ok (.bipush 16, 2) := by decide +kernel
theorem dX7_probes_97 : decode cX7_probes 97 = .ok (.istore 4, 2) := by decide +kernel
theorem dX7_probes_99 : decode cX7_probes 99 = .ok (.iconst 0, 1) := by decide +kernel
theorem dX7_probes_100 : decode cX7_probes 100 = .ok (.istore 5, 2) := by decide +kernel
theorem dX7_probes_102 : decode cX7_probes 102 = .ok (.iload 5, 2) := by decide +kernel
theorem dX7_probes_104 : decode cX7_probes 104 = .ok (.ldc 209, 2) := by decide +kernel
theorem dX7_probes_106 : decode cX7_probes 106 = .ok (.if_icmp .ge 63, 3) := by decide +kernel
theorem dX7_probes_109 : decode cX7_probes 109 = .ok (.iconst 0, 1) := by decide +kernel
theorem dX7_probes_110 : decode cX7_probes 110 = .ok (.istore 6, 2) := by decide +kernel
theorem dX7_probes_112 : decode cX7_probes 112 = .ok (.iload 6, 2) := by decide +kernel
theorem dX7_probes_114 : decode cX7_probes 114 = .ok (.iload_n 2, 1) := by decide +kernel
theorem dX7_probes_115 : decode cX7_probes 115 = .ok (.if_icmp .ge 22, 3) := by decide +kernel
theorem dX7_probes_118 : decode cX7_probes 118 = .ok (.aload_n 0, 1) := by decide +kernel
theorem dX7_probes_119 : decode cX7_probes 119 = .ok (.getfield 48, 3) := by decide +kernel
theorem dX7_probes_122 : decode cX7_probes 122 = .ok (.iload 6, 2) := by decide +kernel
theorem dX7_probes_124 : decode cX7_probes 124 = .ok (.iaload, 1) := by decide +kernel
theorem dX7_probes_125 : decode cX7_probes 125 = .ok (.iload 5, 2) := by decide +kernel
theorem dX7_probes_127 : decode cX7_probes 127 = .ok (.iand, 1) := by decide +kernel
theorem dX7_probes_128 : decode cX7_probes 128 = .ok (.ifCond .eq 9, 3) := by decide +kernel
theorem dX7_probes_131 : decode cX7_probes 131 = .ok (.iinc 6 1, 3) := by decide +kernel
theorem dX7_probes_134 : decode cX7_probes 134 = .ok (.goto (-22), 3) := by decide +kernel
theorem dX7_probes_137 : decode cX7_probes 137 = .ok (.iload 6, 2) := by decide +kernel
theorem dX7_probes_139 : decode cX7_probes 139 = .ok (.iload_n 2, 1) := by decide +kernel
theorem dX7_probes_140 : decode cX7_probes 140 = .ok (.if_icmp .ne 23, 3) := by decide +kernel
theorem dX7_probes_143 : decode cX7_probes 143 = .ok (.iload 5, 2) := by decide +kernel
theorem dX7_probes_145 : decode cX7_probes 145 = .ok (.invokestatic 119, 3) := by decide +kernel
theorem dX7_probes_148 : decode cX7_probes 148 = .ok (.iload 4, 2) := by decide +kernel
theorem dX7_probes_150 : decode cX7_probes 150 = .ok (.if_icmp .ge 13, 3) := by decide +kernel
theorem dX7_probes_153 : decode cX7_probes 153 = .ok (.iload 5, 2) := by decide +kernel
theorem dX7_probes_155 : decode cX7_probes 155 = .ok (.istore_n 3, 1) := by decide +kernel
theorem dX7_probes_156 : decode cX7_probes 156 = .ok (.iload 5, 2) := by decide +kernel
theorem dX7_probes_158 : decode cX7_probes 158 = .ok (.invokestatic 119, 3) := by decide +kernel
theorem dX7_probes_161 : decode cX7_probes 161 = .ok (.istore 4, 2) := by decide +kernel
theorem dX7_probes_163 : decode cX7_probes 163 = .ok (.iinc 5 1, 3) := by decide +kernel
theorem dX7_probes_166 : decode cX7_probes 166 = .ok (.goto (-64), 3) := by decide +kernel
theorem dX7_probes_169 : decode cX7_probes 169 = .ok (.iload_n 3, 1) := by decide +kernel
theorem dX7_probes_170 : decode cX7_probes 170 = .ok (.ireturn, 1) := by decide +kernel
theorem dX7_hidden_0 : decode cX7_hidden 0 = .ok (.iload_n 1, 1) := by decide +kernel
theorem dX7_hidden_1 : decode cX7_hidden 1 = .ok (.iconst 0, 1) := by decide +kernel
theorem dX7_hidden_2 : decode cX7_hidden 2 = .ok (.iconst 5, 1) := by decide +kernel
theorem dX7_hidden_3 : decode cX7_hidden 3 = .ok (.invokestatic 51, 3) := by decide +kernel
theorem dX7_hidden_6 : decode cX7_hidden 6 = .ok (.ifCond .ne 6, 3) := by decide +kernel
theorem dX7_hidden_9 : decode cX7_hidden 9 = .ok (.bipush (-2), 2) := by decide +kernel
theorem dX7_hidden_11 : decode cX7_hidden 11 = .ok (.ireturn, 1) := by decide +kernel
theorem dX7_hidden_12 : decode cX7_hidden 12 = .ok (.aload_n 0, 1) := by decide +kernel
theorem dX7_hidden_13 : decode cX7_hidden 13 = .ok (.getfield 7, 3) := by decide +kernel
theorem dX7_hidden_16 : decode cX7_hidden 16 = .ok (.sipush 415, 3) := by decide +kernel
theorem dX7_hidden_19 : decode cX7_hidden 19 = .ok (.iaload, 1) := by decide +kernel
theorem dX7_hidden_20 : decode cX7_hidden 20 = .ok (.ifCond .ne 6, 3) := by decide +kernel
theorem dX7_hidden_23 : decode cX7_hidden 23 = .ok (.bipush (-4), 2) := by decide +kernel
theorem dX7_hidden_25 : decode cX7_hidden 25 = .ok (.ireturn, 1) := by decide +kernel
theorem dX7_hidden_26 : decode cX7_hidden 26 = .ok (.iload_n 1, 1) := by decide +kernel
theorem dX7_hidden_27 : decode cX7_hidden 27 = .ok (.iconst 2, 1) := by decide +kernel
theorem dX7_hidden_28 : decode cX7_hidden 28 = .ok (.if_icmp .ge 14, 3) := by decide +kernel
theorem dX7_hidden_31 : decode cX7_hidden 31 = .ok (.aload_n 0, 1) := by decide +kernel
theorem dX7_hidden_32 : decode cX7_hidden 32 = .ok (.getfield 7, 3) := by decide +kernel
theorem dX7_hidden_35 : decode cX7_hidden 35 = .ok (.sipush 416, 3) := by decide +kernel
theorem dX7_hidden_38 : decode cX7_hidden 38 = .ok (.iload_n 1, 1) := by decide +kernel
theorem dX7_hidden_39 : decode cX7_hidden 39 = .ok (.iadd, 1) := by decide +kernel
theorem dX7_hidden_40 : decode cX7_hidden 40 = .ok (.iaload, 1) := by decide +kernel
theorem dX7_hidden_41 : decode cX7_hidden 41 = .ok (.ireturn, 1) := by decide +kernel
theorem dX7_hidden_42 : decode cX7_hidden 42 = .ok (.aload_n 0, 1) := by decide +kernel
theorem dX7_hidden_43 : decode cX7_hidden 43 = .ok (.invokevirtual 210, 3) := by decide +kernel
theorem dX7_hidden_46 : decode cX7_hidden 46 = .ok (.istore_n 2, 1) := by decide +kernel
theorem dX7_hidden_47 : decode cX7_hidden 47 = .ok (.iload_n 1, 1) := by decide +kernel
theorem dX7_hidden_48 : decode cX7_hidden 48 = .ok (.iconst 2, 1) := by decide +kernel
theorem dX7_hidden_49 : decode cX7_hidden 49 = .ok (.if_icmp .ne 13, 3) := by decide +kernel
theorem dX7_hidden_52 : decode cX7_hidden 52 = .ok (.iload_n 2, 1) := by decide +kernel
theorem dX7_hidden_53 : decode cX7_hidden 53 = .ok (.ifCond .eq 7, 3) := by decide +kernel
theorem dX7_hidden_56 : decode cX7_hidden 56 = .ok (.iconst 1, 1) := by decide +kernel
theorem dX7_hidden_57 : decode cX7_hidden 57 = .ok (.goto 4, 3) := by decide +kernel
theorem dX7_hidden_60 : decode cX7_hidden 60 = .ok (.iconst 0, 1) := by decide +kernel
theorem dX7_hidden_61 : decode cX7_hidden 61 = .ok (.ireturn, 1) := by decide +kernel
theorem dX7_hidden_62 : decode cX7_hidden 62 = .ok (.iload_n 2, 1) := by decide +kernel
theorem dX7_hidden_63 : decode cX7_hidden 63 = .ok (.ifCond .eq 6, 3) := by decide +kernel
theorem dX7_hidden_66 : decode cX7_hidden 66 = .ok (.bipush (-5), 2) := by decide +kernel
theorem dX7_hidden_68 : decode cX7_hidden 68 = .ok (.ireturn, 1) := by decide +kernel
theorem dX7_hidden_69 : decode cX7_hidden 69 = .ok (.aload_n 0, 1) := by decide +kernel
theorem dX7_hidden_70 : decode cX7_hidden 70 = .ok (.invokevirtual 213, 3) := by decide +kernel
theorem dX7_hidden_73 : decode cX7_hidden 73 = .ok (.istore_n 3, 1) := by decide +kernel
theorem dX7_hidden_74 : decode cX7_hidden 74 = .ok (.iload_n 1, 1) := by decide +kernel
theorem dX7_hidden_75 : decode cX7_hidden 75 = .ok (.iconst 3, 1) := by decide +kernel
theorem dX7_hidden_76 : decode cX7_hidden 76 = .ok (.if_icmp .ne 7, 3) := by decide +kernel
theorem dX7_hidden_79 : decode cX7_hidden 79 = .ok (.iload_n 3, 1) := by decide +kernel
theorem dX7_hidden_80 : decode cX7_hidden 80 = .ok (.goto 11, 3) := by decide +kernel
theorem dX7_hidden_83 : decode cX7_hidden 83 = .ok (.aload_n 0, 1) := by decide +kernel
theorem dX7_hidden_84 : decode cX7_hidden 84 = .ok (.iload_n 3, 1) := by decide +kernel
theorem dX7_hidden_85 : decode cX7_hidden 85 = .ok (.iconst 5, 1) := by decide +kernel
theorem dX7_hidden_86 : decode cX7_hidden 86 = .ok (.iload_n 1, 1) := by decide +kernel
theorem dX7_hidden_87 : decode cX7_hidden 87 = .ok (.isub, 1) := by decide +kernel
theorem dX7_hidden_88 : decode cX7_hidden 88 = .ok (.invokevirtual 128, 3) := by decide +kernel
theorem dX7_hidden_91 : decode cX7_hidden 91 = .ok (.ireturn, 1) := by decide +kernel
theorem dX7_split_0 : decode cX7_split 0 = .ok (.iload_n 1, 1) := by decide +kernel
theorem dX7_split_1 : decode cX7_split 1 = .ok (.invokestatic 106, 3) := by decide +kernel
theorem dX7_split_4 : decode cX7_split 4 = .ok (.ifCond .eq 5, 3) := by decide +kernel
theorem dX7_split_7 : decode cX7_split 7 = .ok (.iconst (-1), 1) := by decide +kernel
theorem dX7_split_8 : decode cX7_split 8 = .ok (.ireturn, 1) := by decide +kernel
theorem dX7_split_9 : decode cX7_split 9 = .ok (.iload_n 2, 1) := by decide +kernel
theorem dX7_split_10 : decode cX7_split 10 = .ok (.iconst 0, 1) := by decide +kernel
theorem dX7_split_11 : decode cX7_split 11 = .ok (.iconst 1, 1) := by decide +kernel
theorem dX7_split_12 : decode cX7_split 12 = .ok (.invokestatic 51, 3) := by decide +kernel
theorem dX7_split_15 : decode cX7_split 15 = .ok (.ifCond .ne 6, 3) := by decide +kernel
theorem dX7_split_18 : decode cX7_split 18 = .ok (.bipush (-2), 2) := by decide +kernel
theorem dX7_split_20 : decode cX7_split 20 = .ok (.ireturn, 1) := by decide +kernel
theorem dX7_split_21 : decode cX7_split 21 = .ok (.aload_n 0, 1) := by decide +kernel
theorem dX7_split_22 : decode cX7_split 22 = .ok (.getfield 7, 3) := by decide +kernel
theorem dX7_split_25 : decode cX7_split 25 = .ok (.sipush 415, 3) := by decide +kernel
theorem dX7_split_28 : decode cX7_split 28 = .ok (.iaload, 1) := by decide +kernel
theorem dX7_split_29 : decode cX7_split 29 = .ok (.ifCond .ne 8, 3) := by decide +kernel
theorem dX7_split_32 : decode cX7_split 32 = .ok (.bipush (-4), 2) := by decide +kernel
theorem dX7_split_34 : decode cX7_split 34 = .ok (.goto 9, 3) := by decide +kernel
theorem dX7_split_37 : decode cX7_split 37 = .ok (.aload_n 0, 1) := by decide +kernel
theorem dX7_split_38 : decode cX7_split 38 = .ok (.iload_n 1, 1) := by decide +kernel
theorem dX7_split_39 : decode cX7_split 39 = .ok (.iload_n 2, 1) := by decide +kernel
theorem dX7_split_40 : decode cX7_split 40 = .ok (.invokevirtual 128, 3) := by decide +kernel
theorem dX7_split_43 : decode cX7_split 43 = .ok (.ireturn, 1) := by decide +kernel
theorem dX7_allEntries_0 : decode cX7_allEntries 0 = .ok (.iconst 0, 1) := by decide +kernel
theorem dX7_allEntries_1 : decode cX7_allEntries 1 = .ok (.istore_n 2, 1) := by decide +kernel
theorem dX7_allEntries_2 : decode cX7_allEntries 2 = .ok (.iconst 0, 1) := by decide +kernel
theorem dX7_allEntries_3 : decode cX7_allEntries 3 = .ok (.istore_n 3, 1) := by decide +kernel
theorem dX7_allEntries_4 : decode cX7_allEntries 4 = .ok (.iload_n 3, 1) := by decide +kernel
theorem dX7_allEntries_5 : decode cX7_allEntries 5 = .ok (.bipush 6, 2) := by decide +kernel
theorem dX7_allEntries_7 : decode cX7_allEntries 7 = .ok (.if_icmp .ge 52, 3) := by decide +kernel
theorem dX7_allEntries_10 : decode cX7_allEntries 10 = .ok (.iconst 0, 1) := by decide +kernel
theorem dX7_allEntries_11 : decode cX7_allEntries 11 = .ok (.istore 4, 2) := by decide +kernel
theorem dX7_allEntries_13 : decode cX7_allEntries 13 = .ok (.iload 4, 2) := by decide +kernel
theorem dX7_allEntries_15 : decode cX7_allEntries 15 = .ok (.aload_n 0, 1) := by decide +kernel
theorem dX7_allEntries_16 : decode cX7_allEntries 16 = .ok (.getfield 7, 3) := by decide +kernel
theorem dX7_allEntries_19 : decode cX7_allEntries 19 = .ok (.sipush 408, 3) := by decide +kernel
theorem dX7_allEntries_22 : decode cX7_allEntries 22 = .ok (.iload_n 3, 1) := by decide +kernel
theorem dX7_allEntries_23 : decode cX7_allEntries 23 = .ok (.iadd, 1) := by decide +kernel
theorem dX7_allEntries_24 : decode cX7_allEntries 24 = .ok (.iaload, 1) := by decide +kernel
theorem dX7_allEntries_25 : decode cX7_allEntries 25 = .ok (.if_icmp .ge 28, 3) := by decide +kernel
theorem dX7_allEntries_28 : decode cX7_allEntries 28 = .ok (.iload_n 2, 1) := by decide +kernel
theorem dX7_allEntries_29 : decode cX7_allEntries 29 = .ok (.aload_n 0, 1) := by decide +kernel
theorem dX7_allEntries_30 : decode cX7_allEntries 30 = .ok (.iload_n 3, 1) := by decide +kernel
theorem dX7_allEntries_31 : decode cX7_allEntries 31 = .ok (.iload 4, 2) := by decide +kernel
theorem dX7_allEntries_33 : decode cX7_allEntries 33 = .ok (.iload_n 1, 1) := by decide +kernel
theorem dX7_allEntries_34 : decode cX7_allEntries 34 = .ok (.ifCond .eq 7, 3) := by decide +kernel
theorem dX7_allEntries_37 : decode cX7_allEntries 37 = .ok (.iconst 2, 1) := by decide +kernel
theorem dX7_allEntries_38 : decode cX7_allEntries 38 = .ok (.goto 4, 3) := by decide +kernel
theorem dX7_allEntries_41 : decode cX7_allEntries 41 = .ok (.iconst 0, 1) := by decide +kernel
theorem dX7_allEntries_42 : decode cX7_allEntries 42 = .ok (.invokevirtual 78, 3) := by decide +kernel
theorem dX7_allEntries_45 : decode cX7_allEntries 45 = .ok (.iadd, 1) := by decide +kernel
theorem dX7_allEntries_46 : decode cX7_allEntries 46 = .ok (.istore_n 2, 1) := by decide +kernel
theorem dX7_allEntries_47 : decode cX7_allEntries 47 = .ok (.iinc 4 1, 3) := by decide +kernel
theorem dX7_allEntries_50 : decode cX7_allEntries 50 = .ok (.goto (-37), 3) := by decide +kernel
theorem dX7_allEntries_53 : decode cX7_allEntries 53 = .ok (.iinc 3 1, 3) := by decide +kernel
theorem dX7_allEntries_56 : decode cX7_allEntries 56 = .ok (.goto (-52), 3) := by decide +kernel
theorem dX7_allEntries_59 : decode cX7_allEntries 59 = .ok (.iload_n 2, 1) := by decide +kernel
theorem dX7_allEntries_60 : decode cX7_allEntries 60 = .ok (.ireturn, 1) := by decide +kernel
theorem dX7_twins_0 : decode cX7_twins 0 = .ok (.iconst 0, 1) := by decide +kernel
theorem dX7_twins_1 : decode cX7_twins 1 = .ok (.istore_n 1, 1) := by decide +kernel
theorem dX7_twins_2 : decode cX7_twins 2 = .ok (.iconst 0, 1) := by decide +kernel
theorem dX7_twins_3 : decode cX7_twins 3 = .ok (.istore_n 2, 1) := by decide +kernel
theorem dX7_twins_4 : decode cX7_twins 4 = .ok (.iload_n 2, 1) := by decide +kernel
theorem dX7_twins_5 : decode cX7_twins 5 = .ok (.bipush 6, 2) := by decide +kernel
theorem dX7_twins_7 : decode cX7_twins 7 = .ok (.if_icmp .ge 56, 3) := by decide +kernel
theorem dX7_twins_10 : decode cX7_twins 10 = .ok (.iconst 0, 1) := by decide +kernel
theorem dX7_twins_11 : decode cX7_twins 11 = .ok (.istore_n 3, 1) := by decide +kernel
theorem dX7_twins_12 : decode cX7_twins 12 = .ok (.iconst 0, 1) := by decide +kernel
theorem dX7_twins_13 : decode cX7_twins 13 = .ok (.istore 4, 2) := by decide +kernel
theorem dX7_twins_15 : decode cX7_twins 15 = .ok (.iload 4, 2) := by decide +kernel
theorem dX7_twins_17 : decode cX7_twins 17 = .ok (.iload_n 2, 1) := by decide +kernel
theorem dX7_twins_18 : decode cX7_twins 18 = .ok (.if_icmp .ge 27, 3) := by decide +kernel
theorem dX7_twins_21 : decode cX7_twins 21 = .ok (.iload_n 3, 1) := by decide +kernel
theorem dX7_twins_22 : decode cX7_twins 22 = .ok (.aload_n 0, 1) := by decide +kernel
theorem dX7_twins_23 : decode cX7_twins 23 = .ok (.iload_n 2, 1) := by decide +kernel
theorem dX7_twins_24 : decode cX7_twins 24 = .ok (.iload 4, 2) := by decide +kernel
theorem dX7_twins_26 : decode cX7_twins 26 = .ok (.invokevirtual 206, 3) := by decide +kernel
theorem dX7_twins_29 : decode cX7_twins 29 = .ok (.ifCond .ne 7, 3) := by decide +kernel
theorem dX7_twins_32 : decode cX7_twins 32 = .ok (.iconst 1, 1) := by decide +kernel
theorem dX7_twins_33 : decode cX7_twins 33 = .ok (.goto 4, 3) := by decide +kernel
theorem dX7_twins_36 : decode cX7_twins 36 = .ok (.iconst 0, 1) := by decide +kernel
theorem dX7_twins_37 : decode cX7_twins 37 = .ok (.ior, 1) := by decide +kernel
theorem dX7_twins_38 : decode cX7_twins 38 = .ok (.istore_n 3, 1) := by decide +kernel
theorem dX7_twins_39 : decode cX7_twins 39 = .ok (.iinc 4 1, 3) := by decide +kernel
theorem dX7_twins_42 : decode cX7_twins 42 = .ok (.goto (-27), 3) := by decide +kernel
theorem dX7_twins_45 : decode cX7_twins 45 = .ok (.iload_n 1, 1) := by decide +kernel
theorem dX7_twins_46 : decode cX7_twins 46 = .ok (.iload_n 3, 1) := by decide +kernel
theorem dX7_twins_47 : decode cX7_twins 47 = .ok (.ifCond .eq 7, 3) := by decide +kernel
theorem dX7_twins_50 : decode cX7_twins 50 = .ok (.iconst 1, 1) := by decide +kernel
theorem dX7_twins_51 : decode cX7_twins 51 = .ok (.goto 4, 3) := by decide +kernel
theorem dX7_twins_54 : decode cX7_twins 54 = .ok (.iconst 0, 1) := by decide +kernel
theorem dX7_twins_55 : decode cX7_twins 55 = .ok (.iadd, 1) := by decide +kernel
theorem dX7_twins_56 : decode cX7_twins 56 = .ok (.istore_n 1, 1) := by decide +kernel
theorem dX7_twins_57 : decode cX7_twins 57 = .ok (.iinc 2 1, 3) := by decide +kernel
theorem dX7_twins_60 : decode cX7_twins 60 = .ok (.goto (-56), 3) := by decide +kernel
theorem dX7_twins_63 : decode cX7_twins 63 = .ok (.iload_n 1, 1) := by decide +kernel
theorem dX7_twins_64 : decode cX7_twins 64 = .ok (.ireturn, 1) := by decide +kernel
theorem dX7_count_0 : decode cX7_count 0 = .ok (.iload_n 1, 1) := by decide +kernel
theorem dX7_count_1 : decode cX7_count 1 = .ok (.tableswitch 84 0 6 #[43, 52, 57, 63, 69, 74, 79], 43) := by decide +kernel
theorem dX7_count_44 : decode cX7_count 44 = .ok (.aload_n 0, 1) := by decide +kernel
theorem dX7_count_45 : decode cX7_count 45 = .ok (.getfield 7, 3) := by decide +kernel
theorem dX7_count_48 : decode cX7_count 48 = .ok (.sipush 414, 3) := by decide +kernel
theorem dX7_count_51 : decode cX7_count 51 = .ok (.iaload, 1) := by decide +kernel
theorem dX7_count_52 : decode cX7_count 52 = .ok (.ireturn, 1) := by decide +kernel
theorem dX7_count_53 : decode cX7_count 53 = .ok (.aload_n 0, 1) := by decide +kernel
theorem dX7_count_54 : decode cX7_count 54 = .ok (.invokevirtual 180, 3) := by decide +kernel
theorem dX7_count_57 : decode cX7_count 57 = .ok (.ireturn, 1) := by decide +kernel
theorem dX7_count_58 : decode cX7_count 58 = .ok (.aload_n 0, 1) := by decide +kernel
theorem dX7_count_59 : decode cX7_count 59 = .ok (.iconst 0, 1) := by decide +kernel
theorem dX7_count_60 : decode cX7_count 60 = .ok (.invokevirtual 216, 3) := by decide +kernel
theorem dX7_count_63 : decode cX7_count 63 = .ok (.ireturn, 1) := by decide +kernel
theorem dX7_count_64 : decode cX7_count 64 = .ok (.aload_n 0, 1) := by decide +kernel
theorem dX7_count_65 : decode cX7_count 65 = .ok (.iconst 1, 1) := by decide +kernel
theorem dX7_count_66 : decode cX7_count 66 = .ok (.invokevirtual 216, 3) := by decide +kernel
theorem dX7_count_69 : decode cX7_count 69 = .ok (.ireturn, 1) := by decide +kernel
theorem dX7_count_70 : decode cX7_count 70 = .ok (.aload_n 0, 1) := by decide +kernel
theorem dX7_count_71 : decode cX7_count 71 = .ok (.invokevirtual 220, 3) := by decide +kernel
theorem dX7_count_74 : decode cX7_count 74 = .ok (.ireturn, 1) := by decide +kernel
theorem dX7_count_75 : decode cX7_count 75 = .ok (.aload_n 0, 1) := by decide +kernel
theorem dX7_count_76 : decode cX7_count 76 = .ok (.getfield 59, 3) := by decide +kernel
theorem dX7_count_79 : decode cX7_count 79 = .ok (.ireturn, 1) := by decide +kernel
theorem dX7_count_80 : decode cX7_count 80 = .ok (.aload_n 0, 1) := by decide +kernel
theorem dX7_count_81 : decode cX7_count 81 = .ok (.getfield 131, 3) := by decide +kernel
theorem dX7_count_84 : decode cX7_count 84 = .ok (.ireturn, 1) := by decide +kernel
theorem dX7_count_85 : decode cX7_count 85 = .ok (.bipush (-2), 2) := by decide +kernel
theorem dX7_count_87 : decode cX7_count 87 = .ok (.ireturn, 1) := by decide +kernel
theorem dL_law_0 : decode cL_law 0 = .ok (.new 7, 3) := by decide +kernel
theorem dL_law_3 : decode cL_law 3 = .ok (.dup, 1) := by decide +kernel
theorem dL_law_4 : decode cL_law 4 = .ok (.invokespecial 9, 3) := by decide +kernel
theorem dL_law_7 : decode cL_law 7 = .ok (.astore_n 1, 1) := by decide +kernel
theorem dL_law_8 : decode cL_law 8 = .ok (.new 10, 3) := by decide +kernel
theorem dL_law_11 : decode cL_law 11 = .ok (.dup, 1) := by decide +kernel
theorem dL_law_12 : decode cL_law 12 = .ok (.invokespecial 12, 3) := by decide +kernel
theorem dL_law_15 : decode cL_law 15 = .ok (.astore_n 2, 1) := by decide +kernel
theorem dL_law_16 : decode cL_law 16 = .ok (.iconst 0, 1) := by decide +kernel
theorem dL_law_17 : decode cL_law 17 = .ok (.istore_n 3, 1) := by decide +kernel
theorem dL_law_18 : decode cL_law 18 = .ok (.iload_n 3, 1) := by decide +kernel
theorem dL_law_19 : decode cL_law 19 = .ok (.aload_n 0, 1) := by decide +kernel
theorem dL_law_20 : decode cL_law 20 = .ok (.arraylength, 1) := by decide +kernel
theorem dL_law_21 : decode cL_law 21 = .ok (.iconst 5, 1) := by decide +kernel
theorem dL_law_22 : decode cL_law 22 = .ok (.isub, 1) := by decide +kernel
theorem dL_law_23 : decode cL_law 23 = .ok (.if_icmp .gt 965, 3) := by decide +kernel
theorem dL_law_26 : decode cL_law 26 = .ok (.aload_n 0, 1) := by decide +kernel
theorem dL_law_27 : decode cL_law 27 = .ok (.iload_n 3, 1) := by decide +kernel
theorem dL_law_28 : decode cL_law 28 = .ok (.iaload, 1) := by decide +kernel
theorem dL_law_29 : decode cL_law 29 = .ok (.bipush 31, 2) := by decide +kernel
theorem dL_law_31 : decode cL_law 31 = .ok (.iand, 1) := by decide +kernel
theorem dL_law_32 : decode cL_law 32 = .ok (.tableswitch 950 0 27 #[128, 151, 174, 233, 276, 329, 352, 365, 388, 421, 444, 469, 482, 495, 508, 521, 554, 587, 620, 663, 706, 749, 792, 815, 848, 871, 894, 927], 128) := by decide +kernel
theorem dL_law_160 : decode cL_law 160 = .ok (.aload_n 1, 1) := by decide +kernel
theorem dL_law_161 : decode cL_law 161 = .ok (.aload_n 0, 1) := by decide +kernel
theorem dL_law_162 : decode cL_law 162 = .ok (.iload_n 3, 1) := by decide +kernel
theorem dL_law_163 : decode cL_law 163 = .ok (.iconst 1, 1) := by decide +kernel
theorem dL_law_164 : decode cL_law 164 = .ok (.iadd, 1) := by decide +kernel
theorem dL_law_165 : decode cL_law 165 = .ok (.iaload, 1) := by decide +kernel
theorem dL_law_166 : decode cL_law 166 = .ok (.invokevirtual 13, 3) := by decide +kernel
theorem dL_law_169 : decode cL_law 169 = .ok (.aload_n 2, 1) := by decide +kernel
theorem dL_law_170 : decode cL_law 170 = .ok (.aload_n 0, 1) := by decide +kernel
theorem dL_law_171 : decode cL_law 171 = .ok (.iload_n 3, 1) := by decide +kernel
theorem dL_law_172 : decode cL_law 172 = .ok (.iconst 1, 1) := by decide +kernel
theorem dL_law_173 : decode cL_law 173 = .ok (.iadd, 1) := by decide +kernel
theorem dL_law_174 : decode cL_law 174 = .ok (.iaload, 1) := by decide +kernel
theorem dL_law_175 : decode cL_law 175 = .ok (.invokevirtual 17, 3) := by decide +kernel
theorem dL_law_178 : decode cL_law 178 = .ok (.if_icmp .eq 804, 3) := by decide +kernel
theorem dL_law_181 : decode cL_law 181 = .ok (.iconst 0, 1) := by decide +kernel
theorem dL_law_182 : decode cL_law 182 = .ok (.ireturn, 1) := by decide +kernel
theorem dL_law_183 : decode cL_law 183 = .ok (.aload_n 1, 1) := by decide +kernel
theorem dL_law_184 : decode cL_law 184 = .ok (.aload_n 0, 1) := by decide +kernel
theorem dL_law_185 : decode cL_law 185 = .ok (.iload_n 3, 1) := by decide +kernel
theorem dL_law_186 : decode cL_law 186 = .ok (.iconst 1, 1) := by decide +kernel
theorem dL_law_187 : decode cL_law 187 = .ok (.iadd, 1) := by decide +kernel
theorem dL_law_188 : decode cL_law 188 = .ok (.iaload, 1) := by decide +kernel
theorem dL_law_189 : decode cL_law 189 = .ok (.invokevirtual 18, 3) := by decide +kernel
theorem dL_law_192 : decode cL_law 192 = .ok (.aload_n 2, 1) := by decide +kernel
theorem dL_law_193 : decode cL_law 193 = .ok (.aload_n 0, 1) := by decide +kernel
theorem dL_law_194 : decode cL_law 194 = .ok (.iload_n 3, 1) := by decide +kernel
theorem dL_law_195 : decode cL_law 195 = .ok (.iconst 1, 1) := by decide +kernel
theorem dL_law_196 : decode cL_law 196 = .ok (.iadd, 1) := by decide +kernel
theorem dL_law_197 : decode cL_law 197 = .ok (.iaload, 1) := by decide +kernel
theorem dL_law_198 : decode cL_law 198 = .ok (.invokevirtual 21, 3) := by decide +kernel
theorem dL_law_201 : decode cL_law 201 = .ok (.if_icmp .eq 781, 3) := by decide +kernel
theorem dL_law_204 : decode cL_law 204 = .ok (.iconst 0, 1) := by decide +kernel
theorem dL_law_205 : decode cL_law 205 = .ok (.ireturn, 1) := by decide +kernel
theorem dL_law_206 : decode cL_law 206 = .ok (.aload_n 1, 1) := by decide +kernel
theorem dL_law_207 : decode cL_law 207 = .ok (.aload_n 0, 1) := by decide +kernel
theorem dL_law_208 : decode cL_law 208 = .ok (.iload_n 3, 1) := by decide +kernel
theorem dL_law_209 : decode cL_law 209 = .ok (.iconst 1, 1) := by decide +kernel
theorem dL_law_210 : decode cL_law 210 = .ok (.iadd, 1) := by decide +kernel
theorem dL_law_211 : decode cL_law 211 = .ok (.iaload, 1) := by decide +kernel
theorem dL_law_212 : decode cL_law 212 = .ok (.aload_n 0, 1) := by decide +kernel
theorem dL_law_213 : decode cL_law 213 = .ok (.iload_n 3, 1) := by decide +kernel
theorem dL_law_214 : decode cL_law 214 = .ok (.iconst 2, 1) := by decide +kernel
theorem dL_law_215 : decode cL_law 215 = .ok (.iadd, 1) := by decide +kernel
theorem dL_law_216 : decode cL_law 216 = .ok (.iaload, 1) := by decide +kernel
theorem dL_law_217 : decode cL_law 217 = .ok (.aload_n 0, 1) := by decide +kernel
theorem dL_law_218 : decode cL_law 218 = .ok (.iload_n 3, 1) := by decide +kernel
theorem dL_law_219 : decode cL_law 219 = .ok (.iconst 3, 1) := by decide +kernel
theorem dL_law_220 : decode cL_law 220 = .ok (.iadd, 1) := by decide +kernel
theorem dL_law_221 : decode cL_law 221 = .ok (.iaload, 1) := by decide +kernel
theorem dL_law_222 : decode cL_law 222 = .ok (.ifCond .eq 7, 3) := by decide +kernel
theorem dL_law_225 : decode cL_law 225 = .ok (.iconst 1, 1) := by decide +kernel
theorem dL_law_226 : decode cL_law 226 = .ok (.goto 4, 3) := by decide +kernel
theorem dL_law_229 : decode cL_law 229 = .ok (.iconst 0, 1) := by decide +kernel
theorem dL_law_230 : decode cL_law 230 = .ok (.invokevirtual 22, 3) := by decide +kernel
theorem dL_law_233 : decode cL_law 233 = .ok (.aload_n 2, 1) := by decide +kernel
theorem dL_law_234 : decode cL_law 234 = .ok (.aload_n 0, 1) := by decide +kernel
theorem dL_law_235 : decode cL_law 235 = .ok (.iload_n 3, 1) := by decide +kernel
theorem dL_law_236 : decode cL_law 236 = .ok (.iconst 1, 1) := by decide +kernel
theorem dL_law_237 : decode cL_law 237 = .ok (.iadd, 1) := by decide +kernel
theorem dL_law_238 : decode cL_law 238 = .ok (.iaload, 1) := by decide +kernel
theorem dL_law_239 : decode cL_law 239 = .ok (.aload_n 0, 1) := by decide +kernel
theorem dL_law_240 : decode cL_law 240 = .ok (.iload_n 3, 1) := by decide +kernel
theorem dL_law_241 : decode cL_law 241 = .ok (.iconst 2, 1) := by decide +kernel
theorem dL_law_242 : decode cL_law 242 = .ok (.iadd, 1) := by decide +kernel
theorem dL_law_243 : decode cL_law 243 = .ok (.iaload, 1) := by decide +kernel
theorem dL_law_244 : decode cL_law 244 = .ok (.aload_n 0, 1) := by decide +kernel
theorem dL_law_245 : decode cL_law 245 = .ok (.iload_n 3, 1) := by decide +kernel
theorem dL_law_246 : decode cL_law 246 = .ok (.iconst 3, 1) := by decide +kernel
theorem dL_law_247 : decode cL_law 247 = .ok (.iadd, 1) := by decide +kernel
theorem dL_law_248 : decode cL_law 248 = .ok (.iaload, 1) := by decide +kernel
theorem dL_law_249 : decode cL_law 249 = .ok (.ifCond .eq 7, 3) := by decide +kernel
theorem dL_law_252 : decode cL_law 252 = .ok (.iconst 1, 1) := by decide +kernel
theorem dL_law_253 : decode cL_law 253 = .ok (.goto 4, 3) := by decide +kernel
theorem dL_law_256 : decode cL_law 256 = .ok (.iconst 0, 1) := by decide +kernel
theorem dL_law_257 : decode cL_law 257 = .ok (.invokevirtual 26, 3) := by decide +kernel
theorem dL_law_260 : decode cL_law 260 = .ok (.if_icmp .eq 722, 3) := by decide +kernel
theorem dL_law_263 : decode cL_law 263 = .ok (.iconst 0, 1) := by decide +kernel
theorem dL_law_264 : decode cL_law 264 = .ok (.ireturn, 1) := by decide +kernel
theorem dL_law_265 : decode cL_law 265 = .ok (.aload_n 1, 1) := by decide +kernel
theorem dL_law_266 : decode cL_law 266 = .ok (.aload_n 0, 1) := by decide +kernel
theorem dL_law_267 : decode cL_law 267 = .ok (.iload_n 3, 1) := by decide +kernel
theorem dL_law_268 : decode cL_law 268 = .ok (.iconst 1, 1) := by decide +kernel
theorem dL_law_269 : decode cL_law 269 = .ok (.iadd, 1) := by decide +kernel
theorem dL_law_270 : decode cL_law 270 = .ok (.iaload, 1) := by decide +kernel
theorem dL_law_271 : decode cL_law 271 = .ok (.aload_n 0, 1) := by decide +kernel
theorem dL_law_272 : decode cL_law 272 = .ok (.iload_n 3, 1) := by decide +kernel
theorem dL_law_273 : decode cL_law 273 = .ok (.iconst 2, 1) := by decide +kernel
theorem dL_law_274 : decode cL_law 274 = .ok (.iadd, 1) := by decide +kernel
theorem dL_law_275 : decode cL_law 275 = .ok (.iaload, 1) := by decide +kernel
theorem dL_law_276 : decode cL_law 276 = .ok (.aload_n 0, 1) := by decide +kernel
theorem dL_law_277 : decode cL_law 277 = .ok (.iload_n 3, 1) := by decide +kernel
theorem dL_law_278 : decode cL_law 278 = .ok (.iconst 3, 1) := by decide +kernel
theorem dL_law_279 : decode cL_law 279 = .ok (.iadd, 1) := by decide +kernel
theorem dL_law_280 : decode cL_law 280 = .ok (.iaload, 1) := by decide +kernel
theorem dL_law_281 : decode cL_law 281 = .ok (.invokevirtual 27, 3) := by decide +kernel
theorem dL_law_284 : decode cL_law 284 = .ok (.aload_n 2, 1) := by decide +kernel
theorem dL_law_285 : decode cL_law 285 = .ok (.aload_n 0, 1) := by decide +kernel
theorem dL_law_286 : decode cL_law 286 = .ok (.iload_n 3, 1) := by decide +kernel
theorem dL_law_287 : decode cL_law 287 = .ok (.iconst 1, 1) := by decide +kernel
theorem dL_law_288 : decode cL_law 288 = .ok (.iadd, 1) := by decide +kernel
theorem dL_law_289 : decode cL_law 289 = .ok (.iaload, 1) := by decide +kernel
theorem dL_law_290 : decode cL_law 290 = .ok (.aload_n 0, 1) := by decide +kernel
theorem dL_law_291 : decode cL_law 291 = .ok (.iload_n 3, 1) := by decide +kernel
theorem dL_law_292 : decode cL_law 292 = .ok (.iconst 2, 1) := by decide +kernel
theorem dL_law_293 : decode cL_law 293 = .ok (.iadd, 1) := by decide +kernel
theorem dL_law_294 : decode cL_law 294 = .ok (.iaload, 1) := by decide +kernel
theorem dL_law_295 : decode cL_law 295 = .ok (.aload_n 0, 1) := by decide +kernel
theorem dL_law_296 : decode cL_law 296 = .ok (.iload_n 3, 1) := by decide +kernel
theorem dL_law_297 : decode cL_law 297 = .ok (.iconst 3, 1) := by decide +kernel
theorem dL_law_298 : decode cL_law 298 = .ok (.iadd, 1) := by decide +kernel
theorem dL_law_299 : decode cL_law 299 = .ok (.iaload, 1) := by decide +kernel
theorem dL_law_300 : decode cL_law 300 = .ok (.invokevirtual 31, 3) := by decide +kernel
theorem dL_law_303 : decode cL_law 303 = .ok (.if_icmp .eq 679, 3) := by decide +kernel
theorem dL_law_306 : decode cL_law 306 = .ok (.iconst 0, 1) := by decide +kernel
theorem dL_law_307 : decode cL_law 307 = .ok (.ireturn, 1) := by decide +kernel
theorem dL_law_308 : decode cL_law 308 = .ok (.aload_n 1, 1) := by decide +kernel
theorem dL_law_309 : decode cL_law 309 = .ok (.aload_n 0, 1) := by decide +kernel
theorem dL_law_310 : decode cL_law 310 = .ok (.iload_n 3, 1) := by decide +kernel
theorem dL_law_311 : decode cL_law 311 = .ok (.iconst 1, 1) := by decide +kernel
theorem dL_law_312 : decode cL_law 312 = .ok (.iadd, 1) := by decide +kernel
theorem dL_law_313 : decode cL_law 313 = .ok (.iaload, 1) := by decide +kernel
theorem dL_law_314 : decode cL_law 314 = .ok (.aload_n 0, 1) := by decide +kernel
theorem dL_law_315 : decode cL_law 315 = .ok (.iload_n 3, 1) := by decide +kernel
theorem dL_law_316 : decode cL_law 316 = .ok (.iconst 2, 1) := by decide +kernel
theorem dL_law_317 : decode cL_law 317 = .ok (.iadd, 1) := by decide +kernel
theorem dL_law_318 : decode cL_law 318 = .ok (.iaload, 1) := by decide +kernel
theorem dL_law_319 : decode cL_law 319 = .ok (.aload_n 0, 1) := by decide +kernel
theorem dL_law_320 : decode cL_law 320 = .ok (.iload_n 3, 1) := by decide +kernel
theorem dL_law_321 : decode cL_law 321 = .ok (.iconst 3, 1) := by decide +kernel
theorem dL_law_322 : decode cL_law 322 = .ok (.iadd, 1) := by decide +kernel
theorem dL_law_323 : decode cL_law 323 = .ok (.iaload, 1) := by decide +kernel
theorem dL_law_324 : decode cL_law 324 = .ok (.aload_n 0, 1) := by decide +kernel
theorem dL_law_325 : decode cL_law 325 = .ok (.iload_n 3, 1) := by decide +kernel
theorem dL_law_326 : decode cL_law 326 = .ok (.iconst 4, 1) := by decide +kernel
theorem dL_law_327 : decode cL_law 327 = .ok (.iadd, 1) := by decide +kernel
theorem dL_law_328 : decode cL_law 328 = .ok (.iaload, 1) := by decide +kernel
theorem dL_law_329 : decode cL_law 329 = .ok (.invokevirtual 32, 3) := by decide +kernel
theorem dL_law_332 : decode cL_law 332 = .ok (.aload_n 2, 1) := by decide +kernel
theorem dL_law_333 : decode cL_law 333 = .ok (.aload_n 0, 1) := by decide +kernel
theorem dL_law_334 : decode cL_law 334 = .ok (.iload_n 3, 1) := by decide +kernel
theorem dL_law_335 : decode cL_law 335 = .ok (.iconst 1, 1) := by decide +kernel
theorem dL_law_336 : decode cL_law 336 = .ok (.iadd, 1) := by decide +kernel
theorem dL_law_337 : decode cL_law 337 = .ok (.iaload, 1) := by decide +kernel
theorem dL_law_338 : decode cL_law 338 = .ok (.aload_n 0, 1) := by decide +kernel
theorem dL_law_339 : decode cL_law 339 = .ok (.iload_n 3, 1) := by decide +kernel
theorem dL_law_340 : decode cL_law 340 = .ok (.iconst 2, 1) := by decide +kernel
theorem dL_law_341 : decode cL_law 341 = .ok (.iadd, 1) := by decide +kernel
theorem dL_law_342 : decode cL_law 342 = .ok (.iaload, 1) := by decide +kernel
theorem dL_law_343 : decode cL_law 343 = .ok (.aload_n 0, 1) := by decide +kernel
theorem dL_law_344 : decode cL_law 344 = .ok (.iload_n 3, 1) := by decide +kernel
theorem dL_law_345 : decode cL_law 345 = .ok (.iconst 3, 1) := by decide +kernel
theorem dL_law_346 : decode cL_law 346 = .ok (.iadd, 1) := by decide +kernel
theorem dL_law_347 : decode cL_law 347 = .ok (.iaload, 1) := by decide +kernel
theorem dL_law_348 : decode cL_law 348 = .ok (.aload_n 0, 1) := by decide +kernel
theorem dL_law_349 : decode cL_law 349 = .ok (.iload_n 3, 1) := by decide +kernel
theorem dL_law_350 : decode cL_law 350 = .ok (.iconst 4, 1) := by decide +kernel
theorem dL_law_351 : decode cL_law 351 = .ok (.iadd, 1) := by decide +kernel
theorem dL_law_352 : decode cL_law 352 = .ok (.iaload, 1) := by decide +kernel
theorem dL_law_353 : decode cL_law 353 = .ok (.invokevirtual 36, 3) := by decide +kernel
theorem dL_law_356 : decode cL_law 356 = .ok (.if_icmp .eq 626, 3) := by decide +kernel
theorem dL_law_359 : decode cL_law 359 = .ok (.iconst 0, 1) := by decide +kernel
theorem dL_law_360 : decode cL_law 360 = .ok (.ireturn, 1) := by decide +kernel
theorem dL_law_361 : decode cL_law 361 = .ok (.aload_n 1, 1) := by decide +kernel
theorem dL_law_362 : decode cL_law 362 = .ok (.aload_n 0, 1) := by decide +kernel
theorem dL_law_363 : decode cL_law 363 = .ok (.iload_n 3, 1) := by decide +kernel
theorem dL_law_364 : decode cL_law 364 = .ok (.iconst 1, 1) := by decide +kernel
theorem dL_law_365 : decode cL_law 365 = .ok (.iadd, 1) := by decide +kernel
theorem dL_law_366 : decode cL_law 366 = .ok (.iaload, 1) := by decide +kernel
theorem dL_law_367 : decode cL_law 367 = .ok (.invokevirtual 37, 3) := by decide +kernel
theorem dL_law_370 : decode cL_law 370 = .ok (.aload_n 2, 1) := by decide +kernel
theorem dL_law_371 : decode cL_law 371 = .ok (.aload_n 0, 1) := by decide +kernel
theorem dL_law_372 : decode cL_law 372 = .ok (.iload_n 3, 1) := by decide +kernel
theorem dL_law_373 : decode cL_law 373 = .ok (.iconst 1, 1) := by decide +kernel
theorem dL_law_374 : decode cL_law 374 = .ok (.iadd, 1) := by decide +kernel
theorem dL_law_375 : decode cL_law 375 = .ok (.iaload, 1) := by decide +kernel
theorem dL_law_376 : decode cL_law 376 = .ok (.invokevirtual 40, 3) := by decide +kernel
theorem dL_law_379 : decode cL_law 379 = .ok (.if_icmp .eq 603, 3) := by decide +kernel
theorem dL_law_382 : decode cL_law 382 = .ok (.iconst 0, 1) := by decide +kernel
theorem dL_law_383 : decode cL_law 383 = .ok (.ireturn, 1) := by decide +kernel
theorem dL_law_384 : decode cL_law 384 = .ok (.aload_n 1, 1) := by decide +kernel
theorem dL_law_385 : decode cL_law 385 = .ok (.invokevirtual 41, 3) := by decide +kernel
theorem dL_law_388 : decode cL_law 388 = .ok (.aload_n 2, 1) := by decide +kernel
theorem dL_law_389 : decode cL_law 389 = .ok (.invokevirtual 45, 3) := by decide +kernel
theorem dL_law_392 : decode cL_law 392 = .ok (.if_icmp .eq 590, 3) := by decide +kernel
theorem dL_law_395 : decode cL_law 395 = .ok (.iconst 0, 1) := by decide +kernel
theorem dL_law_396 : decode cL_law 396 = .ok (.ireturn, 1) := by decide +kernel
theorem dL_law_397 : decode cL_law 397 = .ok (.aload_n 1, 1) := by decide +kernel
theorem dL_law_398 : decode cL_law 398 = .ok (.aload_n 0, 1) := by decide +kernel
theorem dL_law_399 : decode cL_law 399 = .ok (.iload_n 3, 1) := by decide +kernel
theorem dL_law_400 : decode cL_law 400 = .ok (.iconst 1, 1) := by decide +kernel
theorem dL_law_401 : decode cL_law 401 = .ok (.iadd, 1) := by decide +kernel
theorem dL_law_402 : decode cL_law 402 = .ok (.iaload, 1) := by decide +kernel
theorem dL_law_403 : decode cL_law 403 = .ok (.invokevirtual 46, 3) := by decide +kernel
theorem dL_law_406 : decode cL_law 406 = .ok (.aload_n 2, 1) := by decide +kernel
theorem dL_law_407 : decode cL_law 407 = .ok (.aload_n 0, 1) := by decide +kernel
theorem dL_law_408 : decode cL_law 408 = .ok (.iload_n 3, 1) := by decide +kernel
theorem dL_law_409 : decode cL_law 409 = .ok (.iconst 1, 1) := by decide +kernel
theorem dL_law_410 : decode cL_law 410 = .ok (.iadd, 1) := by decide +kernel
theorem dL_law_411 : decode cL_law 411 = .ok (.iaload, 1) := by decide +kernel
theorem dL_law_412 : decode cL_law 412 = .ok (.invokevirtual 49, 3) := by decide +kernel
theorem dL_law_415 : decode cL_law 415 = .ok (.if_icmp .eq 567, 3) := by decide +kernel
theorem dL_law_418 : decode cL_law 418 = .ok (.iconst 0, 1) := by decide +kernel
theorem dL_law_419 : decode cL_law 419 = .ok (.ireturn, 1) := by decide +kernel
theorem dL_law_420 : decode cL_law 420 = .ok (.aload_n 1, 1) := by decide +kernel
theorem dL_law_421 : decode cL_law 421 = .ok (.aload_n 0, 1) := by decide +kernel
theorem dL_law_422 : decode cL_law 422 = .ok (.iload_n 3, 1) := by decide +kernel
theorem dL_law_423 : decode cL_law 423 = .ok (.iconst 1, 1) := by decide +kernel
theorem dL_law_424 : decode cL_law 424 = .ok (.iadd, 1) := by decide +kernel
theorem dL_law_425 : decode cL_law 425 = .ok (.iaload, 1) := by decide +kernel
theorem dL_law_426 : decode cL_law 426 = .ok (.aload_n 0, 1) := by decide +kernel
theorem dL_law_427 : decode cL_law 427 = .ok (.iload_n 3, 1) := by decide +kernel
theorem dL_law_428 : decode cL_law 428 = .ok (.iconst 2, 1) := by decide +kernel
theorem dL_law_429 : decode cL_law 429 = .ok (.iadd, 1) := by decide +kernel
theorem dL_law_430 : decode cL_law 430 = .ok (.iaload, 1) := by decide +kernel
theorem dL_law_431 : decode cL_law 431 = .ok (.invokevirtual 50, 3) := by decide +kernel
theorem dL_law_434 : decode cL_law 434 = .ok (.aload_n 2, 1) := by decide +kernel
theorem dL_law_435 : decode cL_law 435 = .ok (.aload_n 0, 1) := by decide +kernel
theorem dL_law_436 : decode cL_law 436 = .ok (.iload_n 3, 1) := by decide +kernel
theorem dL_law_437 : decode cL_law 437 = .ok (.iconst 1, 1) := by decide +kernel
theorem dL_law_438 : decode cL_law 438 = .ok (.iadd, 1) := by decide +kernel
theorem dL_law_439 : decode cL_law 439 = .ok (.iaload, 1) := by decide +kernel
theorem dL_law_440 : decode cL_law 440 = .ok (.aload_n 0, 1) := by decide +kernel
theorem dL_law_441 : decode cL_law 441 = .ok (.iload_n 3, 1) := by decide +kernel
theorem dL_law_442 : decode cL_law 442 = .ok (.iconst 2, 1) := by decide +kernel
theorem dL_law_443 : decode cL_law 443 = .ok (.iadd, 1) := by decide +kernel
theorem dL_law_444 : decode cL_law 444 = .ok (.iaload, 1) := by decide +kernel
theorem dL_law_445 : decode cL_law 445 = .ok (.invokevirtual 54, 3) := by decide +kernel
theorem dL_law_448 : decode cL_law 448 = .ok (.if_icmp .eq 534, 3) := by decide +kernel
theorem dL_law_451 : decode cL_law 451 = .ok (.iconst 0, 1) := by decide +kernel
theorem dL_law_452 : decode cL_law 452 = .ok (.ireturn, 1) := by decide +kernel
theorem dL_law_453 : decode cL_law 453 = .ok (.aload_n 1, 1) := by decide +kernel
theorem dL_law_454 : decode cL_law 454 = .ok (.aload_n 0, 1) := by decide +kernel
theorem dL_law_455 : decode cL_law 455 = .ok (.iload_n 3, 1) := by decide +kernel
theorem dL_law_456 : decode cL_law 456 = .ok (.iconst 1, 1) := by decide +kernel
theorem dL_law_457 : decode cL_law 457 = .ok (.iadd, 1) := by decide +kernel
theorem dL_law_458 : decode cL_law 458 = .ok (.iaload, 1) := by decide +kernel
theorem dL_law_459 : decode cL_law 459 = .ok (.invokevirtual 55, 3) := by decide +kernel
theorem dL_law_462 : decode cL_law 462 = .ok (.aload_n 2, 1) := by decide +kernel
theorem dL_law_463 : decode cL_law 463 = .ok (.aload_n 0, 1) := by decide +kernel
theorem dL_law_464 : decode cL_law 464 = .ok (.iload_n 3, 1) := by decide +kernel
theorem dL_law_465 : decode cL_law 465 = .ok (.iconst 1, 1) := by decide +kernel
theorem dL_law_466 : decode cL_law 466 = .ok (.iadd, 1) := by decide +kernel
theorem dL_law_467 : decode cL_law 467 = .ok (.iaload, 1) := by decide +kernel
theorem dL_law_468 : decode cL_law 468 = .ok (.invokevirtual 58, 3) := by decide +kernel
theorem dL_law_471 : decode cL_law 471 = .ok (.if_icmp .eq 511, 3) := by decide +kernel
theorem dL_law_474 : decode cL_law 474 = .ok (.iconst 0, 1) := by decide +kernel
theorem dL_law_475 : decode cL_law 475 = .ok (.ireturn, 1) := by decide +kernel
theorem dL_law_476 : decode cL_law 476 = .ok (.aload_n 1, 1) := by decide +kernel
theorem dL_law_477 : decode cL_law 477 = .ok (.aload_n 0, 1) := by decide +kernel
theorem dL_law_478 : decode cL_law 478 = .ok (.iload_n 3, 1) := by decide +kernel
theorem dL_law_479 : decode cL_law 479 = .ok (.iconst 1, 1) := by decide +kernel
theorem dL_law_480 : decode cL_law 480 = .ok (.iadd, 1) := by decide +kernel
theorem dL_law_481 : decode cL_law 481 = .ok (.iaload, 1) := by decide +kernel
theorem dL_law_482 : decode cL_law 482 = .ok (.i2c, 1) := by decide +kernel
theorem dL_law_483 : decode cL_law 483 = .ok (.invokevirtual 59, 3) := by decide +kernel
theorem dL_law_486 : decode cL_law 486 = .ok (.aload_n 2, 1) := by decide +kernel
theorem dL_law_487 : decode cL_law 487 = .ok (.aload_n 0, 1) := by decide +kernel
theorem dL_law_488 : decode cL_law 488 = .ok (.iload_n 3, 1) := by decide +kernel
theorem dL_law_489 : decode cL_law 489 = .ok (.iconst 1, 1) := by decide +kernel
theorem dL_law_490 : decode cL_law 490 = .ok (.iadd, 1) := by decide +kernel
theorem dL_law_491 : decode cL_law 491 = .ok (.iaload, 1) := by decide +kernel
theorem dL_law_492 : decode cL_law 492 = .ok (.i2c, 1) := by decide +kernel
theorem dL_law_493 : decode cL_law 493 = .ok (.invokevirtual 63, 3) := by decide +kernel
theorem dL_law_496 : decode cL_law 496 = .ok (.if_icmp .eq 486, 3) := by decide +kernel
theorem dL_law_499 : decode cL_law 499 = .ok (.iconst 0, 1) := by decide +kernel
theorem dL_law_500 : decode cL_law 500 = .ok (.ireturn, 1) := by decide +kernel
theorem dL_law_501 : decode cL_law 501 = .ok (.aload_n 1, 1) := by decide +kernel
theorem dL_law_502 : decode cL_law 502 = .ok (.invokevirtual 64, 3) := by decide +kernel
theorem dL_law_505 : decode cL_law 505 = .ok (.aload_n 2, 1) := by decide +kernel
theorem dL_law_506 : decode cL_law 506 = .ok (.invokevirtual 67, 3) := by decide +kernel
theorem dL_law_509 : decode cL_law 509 = .ok (.if_icmp .eq 473, 3) := by decide +kernel
theorem dL_law_512 : decode cL_law 512 = .ok (.iconst 0, 1) := by decide +kernel
theorem dL_law_513 : decode cL_law 513 = .ok (.ireturn, 1) := by decide +kernel
theorem dL_law_514 : decode cL_law 514 = .ok (.aload_n 1, 1) := by decide +kernel
theorem dL_law_515 : decode cL_law 515 = .ok (.invokevirtual 68, 3) := by decide +kernel
theorem dL_law_518 : decode cL_law 518 = .ok (.aload_n 2, 1) := by decide +kernel
theorem dL_law_519 : decode cL_law 519 = .ok (.invokevirtual 71, 3) := by decide +kernel
theorem dL_law_522 : decode cL_law 522 = .ok (.if_icmp .eq 460, 3) := by decide +kernel
theorem dL_law_525 : decode cL_law 525 = .ok (.iconst 0, 1) := by decide +kernel
theorem dL_law_526 : decode cL_law 526 = .ok (.ireturn, 1) := by decide +kernel
theorem dL_law_527 : decode cL_law 527 = .ok (.aload_n 1, 1) := by decide +kernel
theorem dL_law_528 : decode cL_law 528 = .ok (.invokevirtual 72, 3) := by decide +kernel
theorem dL_law_531 : decode cL_law 531 = .ok (.aload_n 2, 1) := by decide +kernel
theorem dL_law_532 : decode cL_law 532 = .ok (.invokevirtual 75, 3) := by decide +kernel
theorem dL_law_535 : decode cL_law 535 = .ok (.if_icmp .eq 447, 3) := by decide +kernel
theorem dL_law_538 : decode cL_law 538 = .ok (.iconst 0, 1) := by decide +kernel
theorem dL_law_539 : decode cL_law 539 = .ok (.ireturn, 1) := by decide +kernel
theorem dL_law_540 : decode cL_law 540 = .ok (.aload_n 1, 1) := by decide +kernel
theorem dL_law_541 : decode cL_law 541 = .ok (.invokevirtual 76, 3) := by decide +kernel
theorem dL_law_544 : decode cL_law 544 = .ok (.aload_n 2, 1) := by decide +kernel
theorem dL_law_545 : decode cL_law 545 = .ok (.invokevirtual 79, 3) := by decide +kernel
theorem dL_law_548 : decode cL_law 548 = .ok (.if_icmp .eq 434, 3) := by decide +kernel
theorem dL_law_551 : decode cL_law 551 = .ok (.iconst 0, 1) := by decide +kernel
theorem dL_law_552 : decode cL_law 552 = .ok (.ireturn, 1) := by decide +kernel
theorem dL_law_553 : decode cL_law 553 = .ok (.aload_n 1, 1) := by decide +kernel
theorem dL_law_554 : decode cL_law 554 = .ok (.aload_n 0, 1) := by decide +kernel
theorem dL_law_555 : decode cL_law 555 = .ok (.iload_n 3, 1) := by decide +kernel
theorem dL_law_556 : decode cL_law 556 = .ok (.iconst 1, 1) := by decide +kernel
theorem dL_law_557 : decode cL_law 557 = .ok (.iadd, 1) := by decide +kernel
theorem dL_law_558 : decode cL_law 558 = .ok (.iaload, 1) := by decide +kernel
theorem dL_law_559 : decode cL_law 559 = .ok (.aload_n 0, 1) := by decide +kernel
theorem dL_law_560 : decode cL_law 560 = .ok (.iload_n 3, 1) := by decide +kernel
theorem dL_law_561 : decode cL_law 561 = .ok (.iconst 2, 1) := by decide +kernel
theorem dL_law_562 : decode cL_law 562 = .ok (.iadd, 1) := by decide +kernel
theorem dL_law_563 : decode cL_law 563 = .ok (.iaload, 1) := by decide +kernel
theorem dL_law_564 : decode cL_law 564 = .ok (.invokevirtual 80, 3) := by decide +kernel
theorem dL_law_567 : decode cL_law 567 = .ok (.aload_n 2, 1) := by decide +kernel
theorem dL_law_568 : decode cL_law 568 = .ok (.aload_n 0, 1) := by decide +kernel
theorem dL_law_569 : decode cL_law 569 = .ok (.iload_n 3, 1) := by decide +kernel
theorem dL_law_570 : decode cL_law 570 = .ok (.iconst 1, 1) := by decide +kernel
theorem dL_law_571 : decode cL_law 571 = .ok (.iadd, 1) := by decide +kernel
theorem dL_law_572 : decode cL_law 572 = .ok (.iaload, 1) := by decide +kernel
theorem dL_law_573 : decode cL_law 573 = .ok (.aload_n 0, 1) := by decide +kernel
theorem dL_law_574 : decode cL_law 574 = .ok (.iload_n 3, 1) := by decide +kernel
theorem dL_law_575 : decode cL_law 575 = .ok (.iconst 2, 1) := by decide +kernel
theorem dL_law_576 : decode cL_law 576 = .ok (.iadd, 1) := by decide +kernel
theorem dL_law_577 : decode cL_law 577 = .ok (.iaload, 1) := by decide +kernel
theorem dL_law_578 : decode cL_law 578 = .ok (.invokevirtual 83, 3) := by decide +kernel
theorem dL_law_581 : decode cL_law 581 = .ok (.if_icmp .eq 401, 3) := by decide +kernel
theorem dL_law_584 : decode cL_law 584 = .ok (.iconst 0, 1) := by decide +kernel
theorem dL_law_585 : decode cL_law 585 = .ok (.ireturn, 1) := by decide +kernel
theorem dL_law_586 : decode cL_law 586 = .ok (.aload_n 1, 1) := by decide +kernel
theorem dL_law_587 : decode cL_law 587 = .ok (.aload_n 0, 1) := by decide +kernel
theorem dL_law_588 : decode cL_law 588 = .ok (.iload_n 3, 1) := by decide +kernel
theorem dL_law_589 : decode cL_law 589 = .ok (.iconst 1, 1) := by decide +kernel
theorem dL_law_590 : decode cL_law 590 = .ok (.iadd, 1) := by decide +kernel
theorem dL_law_591 : decode cL_law 591 = .ok (.iaload, 1) := by decide +kernel
theorem dL_law_592 : decode cL_law 592 = .ok (.aload_n 0, 1) := by decide +kernel
theorem dL_law_593 : decode cL_law 593 = .ok (.iload_n 3, 1) := by decide +kernel
end
section
theorem dL_law_594 : decode cL_law 594 = .ok (.iconst 2, 1) := by decide +kernel
theorem dL_law_595 : decode cL_law 595 = .ok (.iadd, 1) := by decide +kernel
theorem dL_law_596 : decode cL_law 596 = .ok (.iaload, 1) := by decide +kernel
theorem dL_law_597 : decode cL_law 597 = .ok (.invokevirtual 84, 3) := by decide +kernel
theorem dL_law_600 : decode cL_law 600 = .ok (.aload_n 2, 1) := by decide +kernel
theorem dL_law_601 : decode cL_law 601 = .ok (.aload_n 0, 1) := by decide +kernel
theorem dL_law_602 : decode cL_law 602 = .ok (.iload_n 3, 1) := by decide +kernel
theorem dL_law_603 : decode cL_law 603 = .ok (.iconst 1, 1) := by decide +kernel
theorem dL_law_604 : decode cL_law 604 = .ok (.iadd, 1) := by decide +kernel
theorem dL_law_605 : decode cL_law 605 = .ok (.iaload, 1) := by decide +kernel
theorem dL_law_606 : decode cL_law 606 = .ok (.aload_n 0, 1) := by decide +kernel
theorem dL_law_607 : decode cL_law 607 = .ok (.iload_n 3, 1) := by decide +kernel
theorem dL_law_608 : decode cL_law 608 = .ok (.iconst 2, 1) := by decide +kernel
theorem dL_law_609 : decode cL_law 609 = .ok (.iadd, 1) := by decide +kernel
theorem dL_law_610 : decode cL_law 610 = .ok (.iaload, 1) := by decide +kernel
theorem dL_law_611 : decode cL_law 611 = .ok (.invokevirtual 87, 3) := by decide +kernel
theorem dL_law_614 : decode cL_law 614 = .ok (.if_icmp .eq 368, 3) := by decide +kernel
theorem dL_law_617 : decode cL_law 617 = .ok (.iconst 0, 1) := by decide +kernel
theorem dL_law_618 : decode cL_law 618 = .ok (.ireturn, 1) := by decide +kernel
theorem dL_law_619 : decode cL_law 619 = .ok (.aload_n 1, 1) := by decide +kernel
theorem dL_law_620 : decode cL_law 620 = .ok (.aload_n 0, 1) := by decide +kernel
theorem dL_law_621 : decode cL_law 621 = .ok (.iload_n 3, 1) := by decide +kernel
theorem dL_law_622 : decode cL_law 622 = .ok (.iconst 1, 1) := by decide +kernel
theorem dL_law_623 : decode cL_law 623 = .ok (.iadd, 1) := by decide +kernel
theorem dL_law_624 : decode cL_law 624 = .ok (.iaload, 1) := by decide +kernel
theorem dL_law_625 : decode cL_law 625 = .ok (.aload_n 0, 1) := by decide +kernel
theorem dL_law_626 : decode cL_law 626 = .ok (.iload_n 3, 1) := by decide +kernel
theorem dL_law_627 : decode cL_law 627 = .ok (.iconst 2, 1) := by decide +kernel
theorem dL_law_628 : decode cL_law 628 = .ok (.iadd, 1) := by decide +kernel
theorem dL_law_629 : decode cL_law 629 = .ok (.iaload, 1) := by decide +kernel
theorem dL_law_630 : decode cL_law 630 = .ok (.invokevirtual 88, 3) := by decide +kernel
theorem dL_law_633 : decode cL_law 633 = .ok (.aload_n 2, 1) := by decide +kernel
theorem dL_law_634 : decode cL_law 634 = .ok (.aload_n 0, 1) := by decide +kernel
theorem dL_law_635 : decode cL_law 635 = .ok (.iload_n 3, 1) := by decide +kernel
theorem dL_law_636 : decode cL_law 636 = .ok (.iconst 1, 1) := by decide +kernel
theorem dL_law_637 : decode cL_law 637 = .ok (.iadd, 1) := by decide +kernel
theorem dL_law_638 : decode cL_law 638 = .ok (.iaload, 1) := by decide +kernel
theorem dL_law_639 : decode cL_law 639 = .ok (.aload_n 0, 1) := by decide +kernel
theorem dL_law_640 : decode cL_law 640 = .ok (.iload_n 3, 1) := by decide +kernel
theorem dL_law_641 : decode cL_law 641 = .ok (.iconst 2, 1) := by decide +kernel
theorem dL_law_642 : decode cL_law 642 = .ok (.iadd, 1) := by decide +kernel
theorem dL_law_643 : decode cL_law 643 = .ok (.iaload, 1) := by decide +kernel
theorem dL_law_644 : decode cL_law 644 = .ok (.invokevirtual 91, 3) := by decide +kernel
theorem dL_law_647 : decode cL_law 647 = .ok (.if_icmp .eq 335, 3) := by decide +kernel
theorem dL_law_650 : decode cL_law 650 = .ok (.iconst 0, 1) := by decide +kernel
theorem dL_law_651 : decode cL_law 651 = .ok (.ireturn, 1) := by decide +kernel
theorem dL_law_652 : decode cL_law 652 = .ok (.aload_n 1, 1) := by decide +kernel
theorem dL_law_653 : decode cL_law 653 = .ok (.aload_n 0, 1) := by decide +kernel
theorem dL_law_654 : decode cL_law 654 = .ok (.iload_n 3, 1) := by decide +kernel
theorem dL_law_655 : decode cL_law 655 = .ok (.iconst 1, 1) := by decide +kernel
theorem dL_law_656 : decode cL_law 656 = .ok (.iadd, 1) := by decide +kernel
theorem dL_law_657 : decode cL_law 657 = .ok (.iaload, 1) := by decide +kernel
theorem dL_law_658 : decode cL_law 658 = .ok (.aload_n 0, 1) := by decide +kernel
theorem dL_law_659 : decode cL_law 659 = .ok (.iload_n 3, 1) := by decide +kernel
theorem dL_law_660 : decode cL_law 660 = .ok (.iconst 2, 1) := by decide +kernel
theorem dL_law_661 : decode cL_law 661 = .ok (.iadd, 1) := by decide +kernel
theorem dL_law_662 : decode cL_law 662 = .ok (.iaload, 1) := by decide +kernel
theorem dL_law_663 : decode cL_law 663 = .ok (.aload_n 0, 1) := by decide +kernel
theorem dL_law_664 : decode cL_law 664 = .ok (.iload_n 3, 1) := by decide +kernel
theorem dL_law_665 : decode cL_law 665 = .ok (.iconst 3, 1) := by decide +kernel
theorem dL_law_666 : decode cL_law 666 = .ok (.iadd, 1) := by decide +kernel
theorem dL_law_667 : decode cL_law 667 = .ok (.iaload, 1) := by decide +kernel
theorem dL_law_668 : decode cL_law 668 = .ok (.invokevirtual 92, 3) := by decide +kernel
theorem dL_law_671 : decode cL_law 671 = .ok (.aload_n 2, 1) := by decide +kernel
theorem dL_law_672 : decode cL_law 672 = .ok (.aload_n 0, 1) := by decide +kernel
theorem dL_law_673 : decode cL_law 673 = .ok (.iload_n 3, 1) := by decide +kernel
theorem dL_law_674 : decode cL_law 674 = .ok (.iconst 1, 1) := by decide +kernel
theorem dL_law_675 : decode cL_law 675 = .ok (.iadd, 1) := by decide +kernel
theorem dL_law_676 : decode cL_law 676 = .ok (.iaload, 1) := by decide +kernel
theorem dL_law_677 : decode cL_law 677 = .ok (.aload_n 0, 1) := by decide +kernel
theorem dL_law_678 : decode cL_law 678 = .ok (.iload_n 3, 1) := by decide +kernel
theorem dL_law_679 : decode cL_law 679 = .ok (.iconst 2, 1) := by decide +kernel
theorem dL_law_680 : decode cL_law 680 = .ok (.iadd, 1) := by decide +kernel
theorem dL_law_681 : decode cL_law 681 = .ok (.iaload, 1) := by decide +kernel
theorem dL_law_682 : decode cL_law 682 = .ok (.aload_n 0, 1) := by decide +kernel
theorem dL_law_683 : decode cL_law 683 = .ok (.iload_n 3, 1) := by decide +kernel
theorem dL_law_684 : decode cL_law 684 = .ok (.iconst 3, 1) := by decide +kernel
theorem dL_law_685 : decode cL_law 685 = .ok (.iadd, 1) := by decide +kernel
theorem dL_law_686 : decode cL_law 686 = .ok (.iaload, 1) := by decide +kernel
theorem dL_law_687 : decode cL_law 687 = .ok (.invokevirtual 95, 3) := by decide +kernel
theorem dL_law_690 : decode cL_law 690 = .ok (.if_icmp .eq 292, 3) := by decide +kernel
theorem dL_law_693 : decode cL_law 693 = .ok (.iconst 0, 1) := by decide +kernel
theorem dL_law_694 : decode cL_law 694 = .ok (.ireturn, 1) := by decide +kernel
theorem dL_law_695 : decode cL_law 695 = .ok (.aload_n 1, 1) := by decide +kernel
theorem dL_law_696 : decode cL_law 696 = .ok (.aload_n 0, 1) := by decide +kernel
theorem dL_law_697 : decode cL_law 697 = .ok (.iload_n 3, 1) := by decide +kernel
theorem dL_law_698 : decode cL_law 698 = .ok (.iconst 1, 1) := by decide +kernel
theorem dL_law_699 : decode cL_law 699 = .ok (.iadd, 1) := by decide +kernel
theorem dL_law_700 : decode cL_law 700 = .ok (.iaload, 1) := by decide +kernel
theorem dL_law_701 : decode cL_law 701 = .ok (.aload_n 0, 1) := by decide +kernel
theorem dL_law_702 : decode cL_law 702 = .ok (.iload_n 3, 1) := by decide +kernel
theorem dL_law_703 : decode cL_law 703 = .ok (.iconst 2, 1) := by decide +kernel
theorem dL_law_704 : decode cL_law 704 = .ok (.iadd, 1) := by decide +kernel
theorem dL_law_705 : decode cL_law 705 = .ok (.iaload, 1) := by decide +kernel
theorem dL_law_706 : decode cL_law 706 = .ok (.aload_n 0, 1) := by decide +kernel
theorem dL_law_707 : decode cL_law 707 = .ok (.iload_n 3, 1) := by decide +kernel
theorem dL_law_708 : decode cL_law 708 = .ok (.iconst 3, 1) := by decide +kernel
theorem dL_law_709 : decode cL_law 709 = .ok (.iadd, 1) := by decide +kernel
theorem dL_law_710 : decode cL_law 710 = .ok (.iaload, 1) := by decide +kernel
theorem dL_law_711 : decode cL_law 711 = .ok (.invokevirtual 96, 3) := by decide +kernel
theorem dL_law_714 : decode cL_law 714 = .ok (.aload_n 2, 1) := by decide +kernel
theorem dL_law_715 : decode cL_law 715 = .ok (.aload_n 0, 1) := by decide +kernel
theorem dL_law_716 : decode cL_law 716 = .ok (.iload_n 3, 1) := by decide +kernel
theorem dL_law_717 : decode cL_law 717 = .ok (.iconst 1, 1) := by decide +kernel
theorem dL_law_718 : decode cL_law 718 = .ok (.iadd, 1) := by decide +kernel
theorem dL_law_719 : decode cL_law 719 = .ok (.iaload, 1) := by decide +kernel
theorem dL_law_720 : decode cL_law 720 = .ok (.aload_n 0, 1) := by decide +kernel
theorem dL_law_721 : decode cL_law 721 = .ok (.iload_n 3, 1) := by decide +kernel
theorem dL_law_722 : decode cL_law 722 = .ok (.iconst 2, 1) := by decide +kernel
theorem dL_law_723 : decode cL_law 723 = .ok (.iadd, 1) := by decide +kernel
theorem dL_law_724 : decode cL_law 724 = .ok (.iaload, 1) := by decide +kernel
theorem dL_law_725 : decode cL_law 725 = .ok (.aload_n 0, 1) := by decide +kernel
theorem dL_law_726 : decode cL_law 726 = .ok (.iload_n 3, 1) := by decide +kernel
theorem dL_law_727 : decode cL_law 727 = .ok (.iconst 3, 1) := by decide +kernel
theorem dL_law_728 : decode cL_law 728 = .ok (.iadd, 1) := by decide +kernel
theorem dL_law_729 : decode cL_law 729 = .ok (.iaload, 1) := by decide +kernel
theorem dL_law_730 : decode cL_law 730 = .ok (.invokevirtual 99, 3) := by decide +kernel
theorem dL_law_733 : decode cL_law 733 = .ok (.if_icmp .eq 249, 3) := by decide +kernel
theorem dL_law_736 : decode cL_law 736 = .ok (.iconst 0, 1) := by decide +kernel
theorem dL_law_737 : decode cL_law 737 = .ok (.ireturn, 1) := by decide +kernel
theorem dL_law_738 : decode cL_law 738 = .ok (.aload_n 1, 1) := by decide +kernel
theorem dL_law_739 : decode cL_law 739 = .ok (.aload_n 0, 1) := by decide +kernel
theorem dL_law_740 : decode cL_law 740 = .ok (.iload_n 3, 1) := by decide +kernel
theorem dL_law_741 : decode cL_law 741 = .ok (.iconst 1, 1) := by decide +kernel
theorem dL_law_742 : decode cL_law 742 = .ok (.iadd, 1) := by decide +kernel
theorem dL_law_743 : decode cL_law 743 = .ok (.iaload, 1) := by decide +kernel
theorem dL_law_744 : decode cL_law 744 = .ok (.aload_n 0, 1) := by decide +kernel
theorem dL_law_745 : decode cL_law 745 = .ok (.iload_n 3, 1) := by decide +kernel
theorem dL_law_746 : decode cL_law 746 = .ok (.iconst 2, 1) := by decide +kernel
theorem dL_law_747 : decode cL_law 747 = .ok (.iadd, 1) := by decide +kernel
theorem dL_law_748 : decode cL_law 748 = .ok (.iaload, 1) := by decide +kernel
theorem dL_law_749 : decode cL_law 749 = .ok (.aload_n 0, 1) := by decide +kernel
theorem dL_law_750 : decode cL_law 750 = .ok (.iload_n 3, 1) := by decide +kernel
theorem dL_law_751 : decode cL_law 751 = .ok (.iconst 3, 1) := by decide +kernel
theorem dL_law_752 : decode cL_law 752 = .ok (.iadd, 1) := by decide +kernel
theorem dL_law_753 : decode cL_law 753 = .ok (.iaload, 1) := by decide +kernel
theorem dL_law_754 : decode cL_law 754 = .ok (.invokevirtual 100, 3) := by decide +kernel
theorem dL_law_757 : decode cL_law 757 = .ok (.aload_n 2, 1) := by decide +kernel
theorem dL_law_758 : decode cL_law 758 = .ok (.aload_n 0, 1) := by decide +kernel
theorem dL_law_759 : decode cL_law 759 = .ok (.iload_n 3, 1) := by decide +kernel
theorem dL_law_760 : decode cL_law 760 = .ok (.iconst 1, 1) := by decide +kernel
theorem dL_law_761 : decode cL_law 761 = .ok (.iadd, 1) := by decide +kernel
theorem dL_law_762 : decode cL_law 762 = .ok (.iaload, 1) := by decide +kernel
theorem dL_law_763 : decode cL_law 763 = .ok (.aload_n 0, 1) := by decide +kernel
theorem dL_law_764 : decode cL_law 764 = .ok (.iload_n 3, 1) := by decide +kernel
theorem dL_law_765 : decode cL_law 765 = .ok (.iconst 2, 1) := by decide +kernel
theorem dL_law_766 : decode cL_law 766 = .ok (.iadd, 1) := by decide +kernel
theorem dL_law_767 : decode cL_law 767 = .ok (.iaload, 1) := by decide +kernel
theorem dL_law_768 : decode cL_law 768 = .ok (.aload_n 0, 1) := by decide +kernel
theorem dL_law_769 : decode cL_law 769 = .ok (.iload_n 3, 1) := by decide +kernel
theorem dL_law_770 : decode cL_law 770 = .ok (.iconst 3, 1) := by decide +kernel
theorem dL_law_771 : decode cL_law 771 = .ok (.iadd, 1) := by decide +kernel
theorem dL_law_772 : decode cL_law 772 = .ok (.iaload, 1) := by decide +kernel
theorem dL_law_773 : decode cL_law 773 = .ok (.invokevirtual 103, 3) := by decide +kernel
theorem dL_law_776 : decode cL_law 776 = .ok (.if_icmp .eq 206, 3) := by decide +kernel
theorem dL_law_779 : decode cL_law 779 = .ok (.iconst 0, 1) := by decide +kernel
theorem dL_law_780 : decode cL_law 780 = .ok (.ireturn, 1) := by decide +kernel
theorem dL_law_781 : decode cL_law 781 = .ok (.aload_n 1, 1) := by decide +kernel
theorem dL_law_782 : decode cL_law 782 = .ok (.aload_n 0, 1) := by decide +kernel
theorem dL_law_783 : decode cL_law 783 = .ok (.iload_n 3, 1) := by decide +kernel
theorem dL_law_784 : decode cL_law 784 = .ok (.iconst 1, 1) := by decide +kernel
theorem dL_law_785 : decode cL_law 785 = .ok (.iadd, 1) := by decide +kernel
theorem dL_law_786 : decode cL_law 786 = .ok (.iaload, 1) := by decide +kernel
theorem dL_law_787 : decode cL_law 787 = .ok (.aload_n 0, 1) := by decide +kernel
theorem dL_law_788 : decode cL_law 788 = .ok (.iload_n 3, 1) := by decide +kernel
theorem dL_law_789 : decode cL_law 789 = .ok (.iconst 2, 1) := by decide +kernel
theorem dL_law_790 : decode cL_law 790 = .ok (.iadd, 1) := by decide +kernel
theorem dL_law_791 : decode cL_law 791 = .ok (.iaload, 1) := by decide +kernel
theorem dL_law_792 : decode cL_law 792 = .ok (.aload_n 0, 1) := by decide +kernel
theorem dL_law_793 : decode cL_law 793 = .ok (.iload_n 3, 1) := by decide +kernel
theorem dL_law_794 : decode cL_law 794 = .ok (.iconst 3, 1) := by decide +kernel
theorem dL_law_795 : decode cL_law 795 = .ok (.iadd, 1) := by decide +kernel
theorem dL_law_796 : decode cL_law 796 = .ok (.iaload, 1) := by decide +kernel
theorem dL_law_797 : decode cL_law 797 = .ok (.invokevirtual 104, 3) := by decide +kernel
theorem dL_law_800 : decode cL_law 800 = .ok (.aload_n 2, 1) := by decide +kernel
theorem dL_law_801 : decode cL_law 801 = .ok (.aload_n 0, 1) := by decide +kernel
theorem dL_law_802 : decode cL_law 802 = .ok (.iload_n 3, 1) := by decide +kernel
theorem dL_law_803 : decode cL_law 803 = .ok (.iconst 1, 1) := by decide +kernel
theorem dL_law_804 : decode cL_law 804 = .ok (.iadd, 1) := by decide +kernel
theorem dL_law_805 : decode cL_law 805 = .ok (.iaload, 1) := by decide +kernel
theorem dL_law_806 : decode cL_law 806 = .ok (.aload_n 0, 1) := by decide +kernel
theorem dL_law_807 : decode cL_law 807 = .ok (.iload_n 3, 1) := by decide +kernel
theorem dL_law_808 : decode cL_law 808 = .ok (.iconst 2, 1) := by decide +kernel
theorem dL_law_809 : decode cL_law 809 = .ok (.iadd, 1) := by decide +kernel
theorem dL_law_810 : decode cL_law 810 = .ok (.iaload, 1) := by decide +kernel
theorem dL_law_811 : decode cL_law 811 = .ok (.aload_n 0, 1) := by decide +kernel
theorem dL_law_812 : decode cL_law 812 = .ok (.iload_n 3, 1) := by decide +kernel
theorem dL_law_813 : decode cL_law 813 = .ok (.iconst 3, 1) := by decide +kernel
theorem dL_law_814 : decode cL_law 814 = .ok (.iadd, 1) := by decide +kernel
theorem dL_law_815 : decode cL_law 815 = .ok (.iaload, 1) := by decide +kernel
theorem dL_law_816 : decode cL_law 816 = .ok (.invokevirtual 107, 3) := by decide +kernel
theorem dL_law_819 : decode cL_law 819 = .ok (.if_icmp .eq 163, 3) := by decide +kernel
theorem dL_law_822 : decode cL_law 822 = .ok (.iconst 0, 1) := by decide +kernel
theorem dL_law_823 : decode cL_law 823 = .ok (.ireturn, 1) := by decide +kernel
theorem dL_law_824 : decode cL_law 824 = .ok (.aload_n 1, 1) := by decide +kernel
theorem dL_law_825 : decode cL_law 825 = .ok (.aload_n 0, 1) := by decide +kernel
theorem dL_law_826 : decode cL_law 826 = .ok (.iload_n 3, 1) := by decide +kernel
theorem dL_law_827 : decode cL_law 827 = .ok (.iconst 1, 1) := by decide +kernel
theorem dL_law_828 : decode cL_law 828 = .ok (.iadd, 1) := by decide +kernel
theorem dL_law_829 : decode cL_law 829 = .ok (.iaload, 1) := by decide +kernel
theorem dL_law_830 : decode cL_law 830 = .ok (.invokevirtual 108, 3) := by decide +kernel
theorem dL_law_833 : decode cL_law 833 = .ok (.aload_n 2, 1) := by decide +kernel
theorem dL_law_834 : decode cL_law 834 = .ok (.aload_n 0, 1) := by decide +kernel
theorem dL_law_835 : decode cL_law 835 = .ok (.iload_n 3, 1) := by decide +kernel
theorem dL_law_836 : decode cL_law 836 = .ok (.iconst 1, 1) := by decide +kernel
theorem dL_law_837 : decode cL_law 837 = .ok (.iadd, 1) := by decide +kernel
theorem dL_law_838 : decode cL_law 838 = .ok (.iaload, 1) := by decide +kernel
theorem dL_law_839 : decode cL_law 839 = .ok (.invokevirtual 111, 3) := by decide +kernel
theorem dL_law_842 : decode cL_law 842 = .ok (.if_icmp .eq 140, 3) := by decide +kernel
theorem dL_law_845 : decode cL_law 845 = .ok (.iconst 0, 1) := by decide +kernel
theorem dL_law_846 : decode cL_law 846 = .ok (.ireturn, 1) := by decide +kernel
theorem dL_law_847 : decode cL_law 847 = .ok (.aload_n 1, 1) := by decide +kernel
theorem dL_law_848 : decode cL_law 848 = .ok (.aload_n 0, 1) := by decide +kernel
theorem dL_law_849 : decode cL_law 849 = .ok (.iload_n 3, 1) := by decide +kernel
theorem dL_law_850 : decode cL_law 850 = .ok (.iconst 1, 1) := by decide +kernel
theorem dL_law_851 : decode cL_law 851 = .ok (.iadd, 1) := by decide +kernel
theorem dL_law_852 : decode cL_law 852 = .ok (.iaload, 1) := by decide +kernel
theorem dL_law_853 : decode cL_law 853 = .ok (.aload_n 0, 1) := by decide +kernel
theorem dL_law_854 : decode cL_law 854 = .ok (.iload_n 3, 1) := by decide +kernel
theorem dL_law_855 : decode cL_law 855 = .ok (.iconst 2, 1) := by decide +kernel
theorem dL_law_856 : decode cL_law 856 = .ok (.iadd, 1) := by decide +kernel
theorem dL_law_857 : decode cL_law 857 = .ok (.iaload, 1) := by decide +kernel
theorem dL_law_858 : decode cL_law 858 = .ok (.invokevirtual 112, 3) := by decide +kernel
theorem dL_law_861 : decode cL_law 861 = .ok (.aload_n 2, 1) := by decide +kernel
theorem dL_law_862 : decode cL_law 862 = .ok (.aload_n 0, 1) := by decide +kernel
theorem dL_law_863 : decode cL_law 863 = .ok (.iload_n 3, 1) := by decide +kernel
theorem dL_law_864 : decode cL_law 864 = .ok (.iconst 1, 1) := by decide +kernel
theorem dL_law_865 : decode cL_law 865 = .ok (.iadd, 1) := by decide +kernel
theorem dL_law_866 : decode cL_law 866 = .ok (.iaload, 1) := by decide +kernel
theorem dL_law_867 : decode cL_law 867 = .ok (.aload_n 0, 1) := by decide +kernel
theorem dL_law_868 : decode cL_law 868 = .ok (.iload_n 3, 1) := by decide +kernel
theorem dL_law_869 : decode cL_law 869 = .ok (.iconst 2, 1) := by decide +kernel
theorem dL_law_870 : decode cL_law 870 = .ok (.iadd, 1) := by decide +kernel
theorem dL_law_871 : decode cL_law 871 = .ok (.iaload, 1) := by decide +kernel
theorem dL_law_872 : decode cL_law 872 = .ok (.invokevirtual 115, 3) := by decide +kernel
theorem dL_law_875 : decode cL_law 875 = .ok (.if_icmp .eq 107, 3) := by decide +kernel
theorem dL_law_878 : decode cL_law 878 = .ok (.iconst 0, 1) := by decide +kernel
theorem dL_law_879 : decode cL_law 879 = .ok (.ireturn, 1) := by decide +kernel
theorem dL_law_880 : decode cL_law 880 = .ok (.aload_n 1, 1) := by decide +kernel
theorem dL_law_881 : decode cL_law 881 = .ok (.aload_n 0, 1) := by decide +kernel
theorem dL_law_882 : decode cL_law 882 = .ok (.iload_n 3, 1) := by decide +kernel
theorem dL_law_883 : decode cL_law 883 = .ok (.iconst 1, 1) := by decide +kernel
theorem dL_law_884 : decode cL_law 884 = .ok (.iadd, 1) := by decide +kernel
theorem dL_law_885 : decode cL_law 885 = .ok (.iaload, 1) := by decide +kernel
theorem dL_law_886 : decode cL_law 886 = .ok (.invokevirtual 116, 3) := by decide +kernel
theorem dL_law_889 : decode cL_law 889 = .ok (.aload_n 2, 1) := by decide +kernel
theorem dL_law_890 : decode cL_law 890 = .ok (.aload_n 0, 1) := by decide +kernel
theorem dL_law_891 : decode cL_law 891 = .ok (.iload_n 3, 1) := by decide +kernel
theorem dL_law_892 : decode cL_law 892 = .ok (.iconst 1, 1) := by decide +kernel
theorem dL_law_893 : decode cL_law 893 = .ok (.iadd, 1) := by decide +kernel
theorem dL_law_894 : decode cL_law 894 = .ok (.iaload, 1) := by decide +kernel
theorem dL_law_895 : decode cL_law 895 = .ok (.invokevirtual 119, 3) := by decide +kernel
theorem dL_law_898 : decode cL_law 898 = .ok (.if_icmp .eq 84, 3) := by decide +kernel
theorem dL_law_901 : decode cL_law 901 = .ok (.iconst 0, 1) := by decide +kernel
theorem dL_law_902 : decode cL_law 902 = .ok (.ireturn, 1) := by decide +kernel
theorem dL_law_903 : decode cL_law 903 = .ok (.aload_n 1, 1) := by decide +kernel
theorem dL_law_904 : decode cL_law 904 = .ok (.aload_n 0, 1) := by decide +kernel
theorem dL_law_905 : decode cL_law 905 = .ok (.iload_n 3, 1) := by decide +kernel
theorem dL_law_906 : decode cL_law 906 = .ok (.iconst 1, 1) := by decide +kernel
theorem dL_law_907 : decode cL_law 907 = .ok (.iadd, 1) := by decide +kernel
theorem dL_law_908 : decode cL_law 908 = .ok (.iaload, 1) := by decide +kernel
theorem dL_law_909 : decode cL_law 909 = .ok (.invokevirtual 120, 3) := by decide +kernel
theorem dL_law_912 : decode cL_law 912 = .ok (.aload_n 2, 1) := by decide +kernel
theorem dL_law_913 : decode cL_law 913 = .ok (.aload_n 0, 1) := by decide +kernel
theorem dL_law_914 : decode cL_law 914 = .ok (.iload_n 3, 1) := by decide +kernel
theorem dL_law_915 : decode cL_law 915 = .ok (.iconst 1, 1) := by decide +kernel
theorem dL_law_916 : decode cL_law 916 = .ok (.iadd, 1) := by decide +kernel
theorem dL_law_917 : decode cL_law 917 = .ok (.iaload, 1) := by decide +kernel
theorem dL_law_918 : decode cL_law 918 = .ok (.invokevirtual 123, 3) := by decide +kernel
theorem dL_law_921 : decode cL_law 921 = .ok (.if_icmp .eq 61, 3) := by decide +kernel
theorem dL_law_924 : decode cL_law 924 = .ok (.iconst 0, 1) := by decide +kernel
theorem dL_law_925 : decode cL_law 925 = .ok (.ireturn, 1) := by decide +kernel
theorem dL_law_926 : decode cL_law 926 = .ok (.aload_n 1, 1) := by decide +kernel
theorem dL_law_927 : decode cL_law 927 = .ok (.aload_n 0, 1) := by decide +kernel
theorem dL_law_928 : decode cL_law 928 = .ok (.iload_n 3, 1) := by decide +kernel
theorem dL_law_929 : decode cL_law 929 = .ok (.iconst 1, 1) := by decide +kernel
theorem dL_law_930 : decode cL_law 930 = .ok (.iadd, 1) := by decide +kernel
theorem dL_law_931 : decode cL_law 931 = .ok (.iaload, 1) := by decide +kernel
theorem dL_law_932 : decode cL_law 932 = .ok (.aload_n 0, 1) := by decide +kernel
theorem dL_law_933 : decode cL_law 933 = .ok (.iload_n 3, 1) := by decide +kernel
theorem dL_law_934 : decode cL_law 934 = .ok (.iconst 2, 1) := by decide +kernel
theorem dL_law_935 : decode cL_law 935 = .ok (.iadd, 1) := by decide +kernel
theorem dL_law_936 : decode cL_law 936 = .ok (.iaload, 1) := by decide +kernel
theorem dL_law_937 : decode cL_law 937 = .ok (.invokevirtual 124, 3) := by decide +kernel
theorem dL_law_940 : decode cL_law 940 = .ok (.aload_n 2, 1) := by decide +kernel
theorem dL_law_941 : decode cL_law 941 = .ok (.aload_n 0, 1) := by decide +kernel
theorem dL_law_942 : decode cL_law 942 = .ok (.iload_n 3, 1) := by decide +kernel
theorem dL_law_943 : decode cL_law 943 = .ok (.iconst 1, 1) := by decide +kernel
theorem dL_law_944 : decode cL_law 944 = .ok (.iadd, 1) := by decide +kernel
theorem dL_law_945 : decode cL_law 945 = .ok (.iaload, 1) := by decide +kernel
theorem dL_law_946 : decode cL_law 946 = .ok (.aload_n 0, 1) := by decide +kernel
theorem dL_law_947 : decode cL_law 947 = .ok (.iload_n 3, 1) := by decide +kernel
theorem dL_law_948 : decode cL_law 948 = .ok (.iconst 2, 1) := by decide +kernel
theorem dL_law_949 : decode cL_law 949 = .ok (.iadd, 1) := by decide +kernel
theorem dL_law_950 : decode cL_law 950 = .ok (.iaload, 1) := by decide +kernel
theorem dL_law_951 : decode cL_law 951 = .ok (.invokevirtual 127, 3) := by decide +kernel
theorem dL_law_954 : decode cL_law 954 = .ok (.if_icmp .eq 28, 3) := by decide +kernel
theorem dL_law_957 : decode cL_law 957 = .ok (.iconst 0, 1) := by decide +kernel
theorem dL_law_958 : decode cL_law 958 = .ok (.ireturn, 1) := by decide +kernel
theorem dL_law_959 : decode cL_law 959 = .ok (.aload_n 1, 1) := by decide +kernel
theorem dL_law_960 : decode cL_law 960 = .ok (.aload_n 0, 1) := by decide +kernel
theorem dL_law_961 : decode cL_law 961 = .ok (.iload_n 3, 1) := by decide +kernel
theorem dL_law_962 : decode cL_law 962 = .ok (.iconst 1, 1) := by decide +kernel
theorem dL_law_963 : decode cL_law 963 = .ok (.iadd, 1) := by decide +kernel
theorem dL_law_964 : decode cL_law 964 = .ok (.iaload, 1) := by decide +kernel
theorem dL_law_965 : decode cL_law 965 = .ok (.invokevirtual 128, 3) := by decide +kernel
theorem dL_law_968 : decode cL_law 968 = .ok (.aload_n 2, 1) := by decide +kernel
theorem dL_law_969 : decode cL_law 969 = .ok (.aload_n 0, 1) := by decide +kernel
theorem dL_law_970 : decode cL_law 970 = .ok (.iload_n 3, 1) := by decide +kernel
theorem dL_law_971 : decode cL_law 971 = .ok (.iconst 1, 1) := by decide +kernel
theorem dL_law_972 : decode cL_law 972 = .ok (.iadd, 1) := by decide +kernel
theorem dL_law_973 : decode cL_law 973 = .ok (.iaload, 1) := by decide +kernel
theorem dL_law_974 : decode cL_law 974 = .ok (.invokevirtual 131, 3) := by decide +kernel
theorem dL_law_977 : decode cL_law 977 = .ok (.if_icmp .eq 5, 3) := by decide +kernel
theorem dL_law_980 : decode cL_law 980 = .ok (.iconst 0, 1) := by decide +kernel
theorem dL_law_981 : decode cL_law 981 = .ok (.ireturn, 1) := by decide +kernel
theorem dL_law_982 : decode cL_law 982 = .ok (.iinc 3 5, 3) := by decide +kernel
theorem dL_law_985 : decode cL_law 985 = .ok (.goto (-967), 3) := by decide +kernel
theorem dL_law_988 : decode cL_law 988 = .ok (.iconst 1, 1) := by decide +kernel
theorem dL_law_989 : decode cL_law 989 = .ok (.ireturn, 1) := by decide +kernel
end
section
/-! words and links: what they say -/
def TWg : List Cond := lw_tbl.filter goodWord
theorem tw_mem {w : Cond} (i : Nat) (h : lw_tbl[i]? = some w) (g : goodWord w = true) : w ∈ TWg := List.mem_filter.mpr ⟨List.mem_of_getElem? h, g⟩
def nests : List (String × Nat × MethodName × String) := [(RX1, 58, yX6_isKey, RX6), (RX1, 81, yX6_isMap, RX6), (RX2, 53, yX6_isKey, RX6), (RX3, 38, yX6_isMap, RX6)]
def clC : Nat → String
  | 0 => RX0
  | 1 => RX1
  | 2 => RX3
  | 3 => RX4
  | 4 => RX5
  | 5 => RX6
  | _ => RX7
def clT : Nat → u_T
  | 0 => TX0
  | 1 => TX1
  | 2 => TX3
  | 3 => TX4
  | 4 => TX5
  | 5 => TX6
  | _ => TX7
def clN : Nat → Nat
  | 0 => 4
  | 1 => 5
  | 2 => 4
  | 3 => 3
  | 4 => 3
  | 5 => 7
  | _ => 20
/-- a list's words are all in another: by their places in lw_tbl -/
theorem cl_dec (ws : List Cond) (h : ws.all (fun w => decide (w ∈ lw_tbl) && goodWord w) = true) : ∀ w ∈ ws, w ∈ TWg := by
  intro w hw
  have h1 := List.all_eq_true.mp h w hw
  simp only [Bool.and_eq_true, decide_eq_true_eq] at h1
  exact List.mem_filter.mpr ⟨h1.1, h1.2⟩
/-- a field's link in a class's pool -/
def FL (own : String) (idx ci k : Nat) : Prop := ci < 7 ∧ k < clN ci ∧ Cond.fieldLink own idx (clT ci k).1 (clT ci k).2.1 (clT ci k).2.2.1 ∈ TWg
def LB (y : MethodName) (cc : ByteArray) (maxL : Nat) (ret : Option FieldType) (nA : Nat) : Prop := Cond.code y cc maxL ret ∈ TWg ∧ Cond.initialized y.cls ∈ TWg ∧ (y.cls ≠ "java/lang/invoke/MethodHandle" ∧ y.cls ≠ "java/lang/invoke/VarHandle" ∧ (parseMethodDescriptor y.desc).map (fun d => d.parameters.length) = some nA)
def LV (own : String) (idx : Nat) (C : String) (y : MethodName) : Prop := Cond.methodLink own idx y ∈ TWg ∧ Cond.instanceMethod y ∈ TWg ∧ Cond.selects C y y ∈ TWg
def LSt (own : String) (idx : Nat) (y : MethodName) : Prop := Cond.methodLink own idx y ∈ TWg ∧ Cond.static y ∈ TWg
def LN (own : String) (idx : Nat) (y : MethodName) (host : String) : Prop := (own, idx, y, host) ∈ nests ∧ Cond.static y ∈ TWg
end
section
/-! links, by program wip/whole/mklinks.py -/
def RJ6 : String := "java/lang/Integer"
abbrev cJ6_bitCount_0f7a4 : ByteArray := prog_10_method_49_code
def yJ6_bitCount_0f7a4 : MethodName := ⟨RJ6, "bitCount", "(I)I"⟩
def RJ9 : String := "java/lang/Math"
abbrev cJ9_max_7cf53 : ByteArray := prog_11_method_65_code
def yJ9_max_7cf53 : MethodName := ⟨RJ9, "max", "(II)I"⟩
def RJ10 : String := "java/lang/System"
def RJ7 : String := "java/util/Arrays"
abbrev cJ7_fill_53178 : ByteArray := prog_13_method_103_code
def yJ7_fill_53178 : MethodName := ⟨RJ7, "fill", "([II)V"⟩
theorem dJ6_bitCount_0f7a4_0 : decode cJ6_bitCount_0f7a4 0 = .ok (.iload_n 0, 1) := by decide +kernel
theorem dJ6_bitCount_0f7a4_1 : decode cJ6_bitCount_0f7a4 1 = .ok (.iload_n 0, 1) := by decide +kernel
theorem dJ6_bitCount_0f7a4_2 : decode cJ6_bitCount_0f7a4 2 = .ok (.iconst 1, 1) := by decide +kernel
theorem dJ6_bitCount_0f7a4_3 : decode cJ6_bitCount_0f7a4 3 = .ok (.iushr, 1) := by decide +kernel
theorem dJ6_bitCount_0f7a4_4 : decode cJ6_bitCount_0f7a4 4 = .ok (.ldc_w 265, 3) := by decide +kernel
theorem dJ6_bitCount_0f7a4_7 : decode cJ6_bitCount_0f7a4 7 = .ok (.iand, 1) := by decide +kernel
theorem dJ6_bitCount_0f7a4_8 : decode cJ6_bitCount_0f7a4 8 = .ok (.isub, 1) := by decide +kernel
theorem dJ6_bitCount_0f7a4_9 : decode cJ6_bitCount_0f7a4 9 = .ok (.istore_n 0, 1) := by decide +kernel
theorem dJ6_bitCount_0f7a4_10 : decode cJ6_bitCount_0f7a4 10 = .ok (.iload_n 0, 1) := by decide +kernel
theorem dJ6_bitCount_0f7a4_11 : decode cJ6_bitCount_0f7a4 11 = .ok (.ldc_w 266, 3) := by decide +kernel
theorem dJ6_bitCount_0f7a4_14 : decode cJ6_bitCount_0f7a4 14 = .ok (.iand, 1) := by decide +kernel
theorem dJ6_bitCount_0f7a4_15 : decode cJ6_bitCount_0f7a4 15 = .ok (.iload_n 0, 1) := by decide +kernel
theorem dJ6_bitCount_0f7a4_16 : decode cJ6_bitCount_0f7a4 16 = .ok (.iconst 2, 1) := by decide +kernel
theorem dJ6_bitCount_0f7a4_17 : decode cJ6_bitCount_0f7a4 17 = .ok (.iushr, 1) := by decide +kernel
theorem dJ6_bitCount_0f7a4_18 : decode cJ6_bitCount_0f7a4 18 = .ok (.ldc_w 266, 3) := by decide +kernel
theorem dJ6_bitCount_0f7a4_21 : decode cJ6_bitCount_0f7a4 21 = .ok (.iand, 1) := by decide +kernel
theorem dJ6_bitCount_0f7a4_22 : decode cJ6_bitCount_0f7a4 22 = .ok (.iadd, 1) := by decide +kernel
theorem dJ6_bitCount_0f7a4_23 : decode cJ6_bitCount_0f7a4 23 = .ok (.istore_n 0, 1) := by decide +kernel
theorem dJ6_bitCount_0f7a4_24 : decode cJ6_bitCount_0f7a4 24 = .ok (.iload_n 0, 1) := by decide +kernel
theorem dJ6_bitCount_0f7a4_25 : decode cJ6_bitCount_0f7a4 25 = .ok (.iload_n 0, 1) := by decide +kernel
theorem dJ6_bitCount_0f7a4_26 : decode cJ6_bitCount_0f7a4 26 = .ok (.iconst 4, 1) := by decide +kernel
theorem dJ6_bitCount_0f7a4_27 : decode cJ6_bitCount_0f7a4 27 = .ok (.iushr, 1) := by decide +kernel
theorem dJ6_bitCount_0f7a4_28 : decode cJ6_bitCount_0f7a4 28 = .ok (.iadd, 1) := by decide +kernel
theorem dJ6_bitCount_0f7a4_29 : decode cJ6_bitCount_0f7a4 29 = .ok (.ldc_w 267, 3) := by decide +kernel
theorem dJ6_bitCount_0f7a4_32 : decode cJ6_bitCount_0f7a4 32 = .ok (.iand, 1) := by decide +kernel
theorem dJ6_bitCount_0f7a4_33 : decode cJ6_bitCount_0f7a4 33 = .ok (.istore_n 0, 1) := by decide +kernel
theorem dJ6_bitCount_0f7a4_34 : decode cJ6_bitCount_0f7a4 34 = .ok (.iload_n 0, 1) := by decide +kernel
theorem dJ6_bitCount_0f7a4_35 : decode cJ6_bitCount_0f7a4 35 = .ok (.iload_n 0, 1) := by decide +kernel
theorem dJ6_bitCount_0f7a4_36 : decode cJ6_bitCount_0f7a4 36 = .ok (.bipush 8, 2) := by decide +kernel
theorem dJ6_bitCount_0f7a4_38 : decode cJ6_bitCount_0f7a4 38 = .ok (.iushr, 1) := by decide +kernel
theorem dJ6_bitCount_0f7a4_39 : decode cJ6_bitCount_0f7a4 39 = .ok (.iadd, 1) := by decide +kernel
theorem dJ6_bitCount_0f7a4_40 : decode cJ6_bitCount_0f7a4 40 = .ok (.istore_n 0, 1) := by decide +kernel
theorem dJ6_bitCount_0f7a4_41 : decode cJ6_bitCount_0f7a4 41 = .ok (.iload_n 0, 1) := by decide +kernel
theorem dJ6_bitCount_0f7a4_42 : decode cJ6_bitCount_0f7a4 42 = .ok (.iload_n 0, 1) := by decide +kernel
theorem dJ6_bitCount_0f7a4_43 : decode cJ6_bitCount_0f7a4 43 = .ok (.bipush 16, 2) := by decide +kernel
theorem dJ6_bitCount_0f7a4_45 : decode cJ6_bitCount_0f7a4 45 = .ok (.iushr, 1) := by decide +kernel
theorem dJ6_bitCount_0f7a4_46 : decode cJ6_bitCount_0f7a4 46 = .ok (.iadd, 1) := by decide +kernel
theorem dJ6_bitCount_0f7a4_47 : decode cJ6_bitCount_0f7a4 47 = .ok (.istore_n 0, 1) := by decide +kernel
theorem dJ6_bitCount_0f7a4_48 : decode cJ6_bitCount_0f7a4 48 = .ok (.iload_n 0, 1) := by decide +kernel
theorem dJ6_bitCount_0f7a4_49 : decode cJ6_bitCount_0f7a4 49 = .ok (.bipush 63, 2) := by decide +kernel
theorem dJ6_bitCount_0f7a4_51 : decode cJ6_bitCount_0f7a4 51 = .ok (.iand, 1) := by decide +kernel
theorem dJ6_bitCount_0f7a4_52 : decode cJ6_bitCount_0f7a4 52 = .ok (.ireturn, 1) := by decide +kernel
theorem dJ9_max_7cf53_0 : decode cJ9_max_7cf53 0 = .ok (.iload_n 0, 1) := by decide +kernel
theorem dJ9_max_7cf53_1 : decode cJ9_max_7cf53 1 = .ok (.iload_n 1, 1) := by decide +kernel
theorem dJ9_max_7cf53_2 : decode cJ9_max_7cf53 2 = .ok (.if_icmp .lt 7, 3) := by decide +kernel
theorem dJ9_max_7cf53_5 : decode cJ9_max_7cf53 5 = .ok (.iload_n 0, 1) := by decide +kernel
theorem dJ9_max_7cf53_6 : decode cJ9_max_7cf53 6 = .ok (.goto 4, 3) := by decide +kernel
theorem dJ9_max_7cf53_9 : decode cJ9_max_7cf53 9 = .ok (.iload_n 1, 1) := by decide +kernel
theorem dJ9_max_7cf53_10 : decode cJ9_max_7cf53 10 = .ok (.ireturn, 1) := by decide +kernel
theorem dJ7_fill_53178_0 : decode cJ7_fill_53178 0 = .ok (.iconst 0, 1) := by decide +kernel
theorem dJ7_fill_53178_1 : decode cJ7_fill_53178 1 = .ok (.istore_n 2, 1) := by decide +kernel
theorem dJ7_fill_53178_2 : decode cJ7_fill_53178 2 = .ok (.aload_n 0, 1) := by decide +kernel
theorem dJ7_fill_53178_3 : decode cJ7_fill_53178 3 = .ok (.arraylength, 1) := by decide +kernel
theorem dJ7_fill_53178_4 : decode cJ7_fill_53178 4 = .ok (.istore_n 3, 1) := by decide +kernel
theorem dJ7_fill_53178_5 : decode cJ7_fill_53178 5 = .ok (.iload_n 2, 1) := by decide +kernel
theorem dJ7_fill_53178_6 : decode cJ7_fill_53178 6 = .ok (.iload_n 3, 1) := by decide +kernel
theorem dJ7_fill_53178_7 : decode cJ7_fill_53178 7 = .ok (.if_icmp .ge 13, 3) := by decide +kernel
theorem dJ7_fill_53178_10 : decode cJ7_fill_53178 10 = .ok (.aload_n 0, 1) := by decide +kernel
theorem dJ7_fill_53178_11 : decode cJ7_fill_53178 11 = .ok (.iload_n 2, 1) := by decide +kernel
theorem dJ7_fill_53178_12 : decode cJ7_fill_53178 12 = .ok (.iload_n 1, 1) := by decide +kernel
theorem dJ7_fill_53178_13 : decode cJ7_fill_53178 13 = .ok (.iastore, 1) := by decide +kernel
theorem dJ7_fill_53178_14 : decode cJ7_fill_53178 14 = .ok (.iinc 2 1, 3) := by decide +kernel
theorem dJ7_fill_53178_17 : decode cJ7_fill_53178 17 = .ok (.goto (-12), 3) := by decide +kernel
theorem dJ7_fill_53178_20 : decode cJ7_fill_53178 20 = .ok (.return_, 1) := by decide +kernel
theorem tw_dec {w : Cond} (h : (decide (w ∈ lw_tbl) && goodWord w) = true) : w ∈ TWg := cl_dec [w] (by simpa using h) w List.mem_cons_self
theorem fX0_11 : FL RX0 11 0 0 := ⟨by decide, by decide, tw_dec (by decide +kernel)⟩ -- PileMaps$Pile.entries
theorem fX0_16 : FL RX0 16 0 1 := ⟨by decide, by decide, tw_dec (by decide +kernel)⟩ -- PileMaps$Pile.on
theorem fX0_20 : FL RX0 20 0 2 := ⟨by decide, by decide, tw_dec (by decide +kernel)⟩ -- PileMaps$Pile.values
theorem fX0_24 : FL RX0 24 0 3 := ⟨by decide, by decide, tw_dec (by decide +kernel)⟩ -- PileMaps$Pile.height
theorem fX1_12 : FL RX1 12 1 0 := ⟨by decide, by decide, tw_dec (by decide +kernel)⟩ -- PileMaps$Reader.text
theorem fX1_20 : FL RX1 20 1 1 := ⟨by decide, by decide, tw_dec (by decide +kernel)⟩ -- PileMaps$Reader.rows
theorem fX1_23 : FL RX1 23 1 2 := ⟨by decide, by decide, tw_dec (by decide +kernel)⟩ -- PileMaps$Reader.work
theorem fX1_27 : FL RX1 27 1 3 := ⟨by decide, by decide, tw_dec (by decide +kernel)⟩ -- PileMaps$Reader.result
theorem fX1_30 : FL RX1 30 1 4 := ⟨by decide, by decide, tw_dec (by decide +kernel)⟩ -- PileMaps$Reader.target
theorem fX1_34 : FL RX1 34 4 2 := ⟨by decide, by decide, tw_dec (by decide +kernel)⟩ -- PileMaps$Text.at
theorem fX1_84 : FL RX1 84 3 0 := ⟨by decide, by decide, tw_dec (by decide +kernel)⟩ -- PileMaps$State.piles
theorem fX1_90 : FL RX1 90 0 2 := ⟨by decide, by decide, tw_dec (by decide +kernel)⟩ -- PileMaps$Pile.values
theorem fX1_98 : FL RX1 98 3 2 := ⟨by decide, by decide, tw_dec (by decide +kernel)⟩ -- PileMaps$State.rule
theorem fX3_11 : FL RX3 11 2 0 := ⟨by decide, by decide, tw_dec (by decide +kernel)⟩ -- PileMaps$Secret.known
theorem fX3_16 : FL RX3 16 2 1 := ⟨by decide, by decide, tw_dec (by decide +kernel)⟩ -- PileMaps$Secret.place
theorem fX3_20 : FL RX3 20 2 2 := ⟨by decide, by decide, tw_dec (by decide +kernel)⟩ -- PileMaps$Secret.suspects
theorem fX3_23 : FL RX3 23 2 3 := ⟨by decide, by decide, tw_dec (by decide +kernel)⟩ -- PileMaps$Secret.asked
theorem fX3_32 : FL RX3 32 0 2 := ⟨by decide, by decide, tw_dec (by decide +kernel)⟩ -- PileMaps$Pile.values
theorem fX4_11 : FL RX4 11 3 0 := ⟨by decide, by decide, tw_dec (by decide +kernel)⟩ -- PileMaps$State.piles
theorem fX4_21 : FL RX4 21 3 1 := ⟨by decide, by decide, tw_dec (by decide +kernel)⟩ -- PileMaps$State.secret
theorem fX4_25 : FL RX4 25 3 2 := ⟨by decide, by decide, tw_dec (by decide +kernel)⟩ -- PileMaps$State.rule
theorem fX4_36 : FL RX4 36 0 3 := ⟨by decide, by decide, tw_dec (by decide +kernel)⟩ -- PileMaps$Pile.height
theorem fX4_50 : FL RX4 50 0 2 := ⟨by decide, by decide, tw_dec (by decide +kernel)⟩ -- PileMaps$Pile.values
theorem fX5_9 : FL RX5 9 4 0 := ⟨by decide, by decide, tw_dec (by decide +kernel)⟩ -- PileMaps$Text.signs
theorem fX5_15 : FL RX5 15 4 1 := ⟨by decide, by decide, tw_dec (by decide +kernel)⟩ -- PileMaps$Text.length
theorem fX5_19 : FL RX5 19 4 2 := ⟨by decide, by decide, tw_dec (by decide +kernel)⟩ -- PileMaps$Text.at
theorem fX6_10 : FL RX6 10 5 0 := ⟨by decide, by decide, tw_dec (by decide +kernel)⟩ -- PileMaps.now
theorem fX6_16 : FL RX6 16 5 1 := ⟨by decide, by decide, tw_dec (by decide +kernel)⟩ -- PileMaps.past
theorem fX6_20 : FL RX6 20 5 2 := ⟨by decide, by decide, tw_dec (by decide +kernel)⟩ -- PileMaps.kept
theorem fX6_26 : FL RX6 26 5 3 := ⟨by decide, by decide, tw_dec (by decide +kernel)⟩ -- PileMaps.reader
theorem fX6_30 : FL RX6 30 5 4 := ⟨by decide, by decide, tw_dec (by decide +kernel)⟩ -- PileMaps.differences
theorem fX6_34 : FL RX6 34 5 5 := ⟨by decide, by decide, tw_dec (by decide +kernel)⟩ -- PileMaps.pastCount
theorem fX6_38 : FL RX6 38 5 6 := ⟨by decide, by decide, tw_dec (by decide +kernel)⟩ -- PileMaps.hasKept
theorem fX6_50 : FL RX6 50 3 0 := ⟨by decide, by decide, tw_dec (by decide +kernel)⟩ -- PileMaps$State.piles
theorem fX6_54 : FL RX6 54 0 3 := ⟨by decide, by decide, tw_dec (by decide +kernel)⟩ -- PileMaps$Pile.height
theorem fX6_62 : FL RX6 62 1 3 := ⟨by decide, by decide, tw_dec (by decide +kernel)⟩ -- PileMaps$Reader.result
theorem fX6_76 : FL RX6 76 0 1 := ⟨by decide, by decide, tw_dec (by decide +kernel)⟩ -- PileMaps$Pile.on
theorem fX6_90 : FL RX6 90 0 0 := ⟨by decide, by decide, tw_dec (by decide +kernel)⟩ -- PileMaps$Pile.entries
theorem fX6_98 : FL RX6 98 0 2 := ⟨by decide, by decide, tw_dec (by decide +kernel)⟩ -- PileMaps$Pile.values
theorem fX6_109 : FL RX6 109 1 4 := ⟨by decide, by decide, tw_dec (by decide +kernel)⟩ -- PileMaps$Reader.target
theorem fX6_112 : FL RX6 112 3 2 := ⟨by decide, by decide, tw_dec (by decide +kernel)⟩ -- PileMaps$State.rule
theorem fX6_115 : FL RX6 115 3 1 := ⟨by decide, by decide, tw_dec (by decide +kernel)⟩ -- PileMaps$State.secret
theorem fX6_137 : FL RX6 137 1 0 := ⟨by decide, by decide, tw_dec (by decide +kernel)⟩ -- PileMaps$Reader.text
theorem fX6_147 : FL RX6 147 4 1 := ⟨by decide, by decide, tw_dec (by decide +kernel)⟩ -- PileMaps$Text.length
theorem fX6_226 : FL RX6 226 2 2 := ⟨by decide, by decide, tw_dec (by decide +kernel)⟩ -- PileMaps$Secret.suspects
theorem fX6_229 : FL RX6 229 2 3 := ⟨by decide, by decide, tw_dec (by decide +kernel)⟩ -- PileMaps$Secret.asked
theorem fX7_7 : FL RX7 7 6 0 := ⟨by decide, by decide, tw_dec (by decide +kernel)⟩ -- PileMapsModel.now
theorem fX7_13 : FL RX7 13 6 1 := ⟨by decide, by decide, tw_dec (by decide +kernel)⟩ -- PileMapsModel.history
theorem fX7_16 : FL RX7 16 6 3 := ⟨by decide, by decide, tw_dec (by decide +kernel)⟩ -- PileMapsModel.slot
theorem fX7_19 : FL RX7 19 6 5 := ⟨by decide, by decide, tw_dec (by decide +kernel)⟩ -- PileMapsModel.before
theorem fX7_22 : FL RX7 22 6 6 := ⟨by decide, by decide, tw_dec (by decide +kernel)⟩ -- PileMapsModel.read
theorem fX7_25 : FL RX7 25 6 8 := ⟨by decide, by decide, tw_dec (by decide +kernel)⟩ -- PileMapsModel.text
theorem fX7_29 : FL RX7 29 6 12 := ⟨by decide, by decide, tw_dec (by decide +kernel)⟩ -- PileMapsModel.current
theorem fX7_32 : FL RX7 32 6 13 := ⟨by decide, by decide, tw_dec (by decide +kernel)⟩ -- PileMapsModel.over
theorem fX7_35 : FL RX7 35 6 14 := ⟨by decide, by decide, tw_dec (by decide +kernel)⟩ -- PileMapsModel.hasOver
theorem fX7_39 : FL RX7 39 6 15 := ⟨by decide, by decide, tw_dec (by decide +kernel)⟩ -- PileMapsModel.term
theorem fX7_42 : FL RX7 42 6 16 := ⟨by decide, by decide, tw_dec (by decide +kernel)⟩ -- PileMapsModel.hasTerm
theorem fX7_45 : FL RX7 45 6 18 := ⟨by decide, by decide, tw_dec (by decide +kernel)⟩ -- PileMapsModel.spare
theorem fX7_48 : FL RX7 48 6 19 := ⟨by decide, by decide, tw_dec (by decide +kernel)⟩ -- PileMapsModel.pairs
theorem fX7_59 : FL RX7 59 6 2 := ⟨by decide, by decide, tw_dec (by decide +kernel)⟩ -- PileMapsModel.kept
theorem fX7_85 : FL RX7 85 6 9 := ⟨by decide, by decide, tw_dec (by decide +kernel)⟩ -- PileMapsModel.at
theorem fX7_116 : FL RX7 116 6 11 := ⟨by decide, by decide, tw_dec (by decide +kernel)⟩ -- PileMapsModel.target
theorem fX7_131 : FL RX7 131 6 7 := ⟨by decide, by decide, tw_dec (by decide +kernel)⟩ -- PileMapsModel.typed
theorem fX7_140 : FL RX7 140 6 10 := ⟨by decide, by decide, tw_dec (by decide +kernel)⟩ -- PileMapsModel.key
theorem fX7_152 : FL RX7 152 6 17 := ⟨by decide, by decide, tw_dec (by decide +kernel)⟩ -- PileMapsModel.depth
theorem fX7_176 : FL RX7 176 6 4 := ⟨by decide, by decide, tw_dec (by decide +kernel)⟩ -- PileMapsModel.isFilled
theorem bJ6_bitCount_0f7a4 : LB yJ6_bitCount_0f7a4 cJ6_bitCount_0f7a4 1 (some FieldType.int) 1 := ⟨tw_dec (by decide +kernel), tw_dec (by decide +kernel), by decide +kernel⟩
theorem bJ7_fill_53178 : LB yJ7_fill_53178 cJ7_fill_53178 4 none 2 := ⟨tw_dec (by decide +kernel), tw_dec (by decide +kernel), by decide +kernel⟩
theorem bJ9_max_7cf53 : LB yJ9_max_7cf53 cJ9_max_7cf53 2 (some FieldType.int) 2 := ⟨tw_dec (by decide +kernel), tw_dec (by decide +kernel), by decide +kernel⟩
theorem bX0_addLayer : LB yX0_addLayer cX0_addLayer 2 none 1 := ⟨tw_dec (by decide +kernel), tw_dec (by decide +kernel), by decide +kernel⟩
theorem bX0_allEntries : LB yX0_allEntries cX0_allEntries 3 (some FieldType.int) 0 := ⟨tw_dec (by decide +kernel), tw_dec (by decide +kernel), by decide +kernel⟩
theorem bX0_becomeOneLayer : LB yX0_becomeOneLayer cX0_becomeOneLayer 3 (some FieldType.int) 1 := ⟨tw_dec (by decide +kernel), tw_dec (by decide +kernel), by decide +kernel⟩
theorem bX0_copyFrom : LB yX0_copyFrom cX0_copyFrom 3 none 1 := ⟨tw_dec (by decide +kernel), tw_dec (by decide +kernel), by decide +kernel⟩
theorem bX0_entriesIn : LB yX0_entriesIn cX0_entriesIn 4 (some FieldType.int) 1 := ⟨tw_dec (by decide +kernel), tw_dec (by decide +kernel), by decide +kernel⟩
theorem bX0_init : LB yX0_init cX0_init 1 none 0 := ⟨tw_dec (by decide +kernel), tw_dec (by decide +kernel), by decide +kernel⟩
theorem bX0_isFlat : LB yX0_isFlat cX0_isFlat 1 (some FieldType.boolean) 0 := ⟨tw_dec (by decide +kernel), tw_dec (by decide +kernel), by decide +kernel⟩
theorem bX0_layersOn : LB yX0_layersOn cX0_layersOn 3 (some FieldType.int) 0 := ⟨tw_dec (by decide +kernel), tw_dec (by decide +kernel), by decide +kernel⟩
theorem bX0_moveLayer : LB yX0_moveLayer cX0_moveLayer 4 none 2 := ⟨tw_dec (by decide +kernel), tw_dec (by decide +kernel), by decide +kernel⟩
theorem bX0_nowhereIn : LB yX0_nowhereIn cX0_nowhereIn 4 (some FieldType.int) 1 := ⟨tw_dec (by decide +kernel), tw_dec (by decide +kernel), by decide +kernel⟩
theorem bX0_removeTop : LB yX0_removeTop cX0_removeTop 1 (some FieldType.int) 0 := ⟨tw_dec (by decide +kernel), tw_dec (by decide +kernel), by decide +kernel⟩
theorem bX0_settle : LB yX0_settle cX0_settle 5 (some FieldType.int) 0 := ⟨tw_dec (by decide +kernel), tw_dec (by decide +kernel), by decide +kernel⟩
theorem bX0_shadowed : LB yX0_shadowed cX0_shadowed 3 (some FieldType.int) 0 := ⟨tw_dec (by decide +kernel), tw_dec (by decide +kernel), by decide +kernel⟩
theorem bX0_shadowedIn : LB yX0_shadowedIn cX0_shadowedIn 4 (some FieldType.int) 1 := ⟨tw_dec (by decide +kernel), tw_dec (by decide +kernel), by decide +kernel⟩
theorem bX0_swapWithNext : LB yX0_swapWithNext cX0_swapWithNext 4 none 1 := ⟨tw_dec (by decide +kernel), tw_dec (by decide +kernel), by decide +kernel⟩
theorem bX0_tellingLayer : LB yX0_tellingLayer cX0_tellingLayer 3 (some FieldType.int) 1 := ⟨tw_dec (by decide +kernel), tw_dec (by decide +kernel), by decide +kernel⟩
theorem bX1_init : LB yX1_init cX1_init 1 none 0 := ⟨tw_dec (by decide +kernel), tw_dec (by decide +kernel), by decide +kernel⟩
theorem bX1_readAssignment : LB yX1_readAssignment cX1_readAssignment 2 (some FieldType.int) 1 := ⟨tw_dec (by decide +kernel), tw_dec (by decide +kernel), by decide +kernel⟩
theorem bX1_readEntry : LB yX1_readEntry cX1_readEntry 3 (some FieldType.boolean) 0 := ⟨tw_dec (by decide +kernel), tw_dec (by decide +kernel), by decide +kernel⟩
theorem bX1_readExpression : LB yX1_readExpression cX1_readExpression 8 (some FieldType.boolean) 3 := ⟨tw_dec (by decide +kernel), tw_dec (by decide +kernel), by decide +kernel⟩
theorem bX1_readFactor : LB yX1_readFactor cX1_readFactor 5 (some FieldType.boolean) 3 := ⟨tw_dec (by decide +kernel), tw_dec (by decide +kernel), by decide +kernel⟩
theorem bX1_readLayer : LB yX1_readLayer cX1_readLayer 2 (some FieldType.int) 0 := ⟨tw_dec (by decide +kernel), tw_dec (by decide +kernel), by decide +kernel⟩
theorem bX1_readSigns : LB yX1_readSigns cX1_readSigns 5 (some FieldType.boolean) 2 := ⟨tw_dec (by decide +kernel), tw_dec (by decide +kernel), by decide +kernel⟩
theorem bX2_compose : LB yX2_compose cX2_compose 3 none 2 := ⟨tw_dec (by decide +kernel), tw_dec (by decide +kernel), by decide +kernel⟩
theorem bX2_copy : LB yX2_copy cX2_copy 2 none 2 := ⟨tw_dec (by decide +kernel), tw_dec (by decide +kernel), by decide +kernel⟩
theorem bX2_cycleMet : LB yX2_cycleMet cX2_cycleMet 3 (some FieldType.int) 2 := ⟨tw_dec (by decide +kernel), tw_dec (by decide +kernel), by decide +kernel⟩
theorem bX2_cycleOf : LB yX2_cycleOf cX2_cycleOf 4 (some FieldType.int) 2 := ⟨tw_dec (by decide +kernel), tw_dec (by decide +kernel), by decide +kernel⟩
theorem bX2_cyclic : LB yX2_cyclic cX2_cyclic 3 (some FieldType.int) 1 := ⟨tw_dec (by decide +kernel), tw_dec (by decide +kernel), by decide +kernel⟩
theorem bX2_difference : LB yX2_difference cX2_difference 4 (some FieldType.int) 2 := ⟨tw_dec (by decide +kernel), tw_dec (by decide +kernel), by decide +kernel⟩
theorem bX2_fixed : LB yX2_fixed cX2_fixed 3 (some FieldType.int) 1 := ⟨tw_dec (by decide +kernel), tw_dec (by decide +kernel), by decide +kernel⟩
theorem bX2_holes : LB yX2_holes cX2_holes 3 (some FieldType.int) 1 := ⟨tw_dec (by decide +kernel), tw_dec (by decide +kernel), by decide +kernel⟩
theorem bX2_image : LB yX2_image cX2_image 3 (some FieldType.int) 1 := ⟨tw_dec (by decide +kernel), tw_dec (by decide +kernel), by decide +kernel⟩
theorem bX2_inverse : LB yX2_inverse cX2_inverse 7 none 3 := ⟨tw_dec (by decide +kernel), tw_dec (by decide +kernel), by decide +kernel⟩
theorem bX2_isOneToOne : LB yX2_isOneToOne cX2_isOneToOne 2 (some FieldType.boolean) 1 := ⟨tw_dec (by decide +kernel), tw_dec (by decide +kernel), by decide +kernel⟩
theorem bX2_longestCycle : LB yX2_longestCycle cX2_longestCycle 3 (some FieldType.int) 1 := ⟨tw_dec (by decide +kernel), tw_dec (by decide +kernel), by decide +kernel⟩
theorem bX2_overlay : LB yX2_overlay cX2_overlay 3 none 2 := ⟨tw_dec (by decide +kernel), tw_dec (by decide +kernel), by decide +kernel⟩
theorem bX2_power : LB yX2_power cX2_power 4 none 3 := ⟨tw_dec (by decide +kernel), tw_dec (by decide +kernel), by decide +kernel⟩
theorem bX2_restrict : LB yX2_restrict cX2_restrict 3 none 2 := ⟨tw_dec (by decide +kernel), tw_dec (by decide +kernel), by decide +kernel⟩
theorem bX2_step : LB yX2_step cX2_step 2 (some FieldType.int) 2 := ⟨tw_dec (by decide +kernel), tw_dec (by decide +kernel), by decide +kernel⟩
theorem bX2_stepsToHole : LB yX2_stepsToHole cX2_stepsToHole 4 (some FieldType.int) 2 := ⟨tw_dec (by decide +kernel), tw_dec (by decide +kernel), by decide +kernel⟩
theorem bX2_stepsToSecondMeeting : LB yX2_stepsToSecondMeeting cX2_stepsToSecondMeeting 5 (some FieldType.int) 2 := ⟨tw_dec (by decide +kernel), tw_dec (by decide +kernel), by decide +kernel⟩
theorem bX2_walk : LB yX2_walk cX2_walk 5 (some FieldType.int) 3 := ⟨tw_dec (by decide +kernel), tw_dec (by decide +kernel), by decide +kernel⟩
theorem bX2_walkFar : LB yX2_walkFar cX2_walkFar 5 (some FieldType.int) 3 := ⟨tw_dec (by decide +kernel), tw_dec (by decide +kernel), by decide +kernel⟩
theorem bX3_alikeUpTo : LB yX3_alikeUpTo cX3_alikeUpTo 6 (some FieldType.int) 3 := ⟨tw_dec (by decide +kernel), tw_dec (by decide +kernel), by decide +kernel⟩
theorem bX3_answer : LB yX3_answer cX3_answer 4 (some FieldType.int) 1 := ⟨tw_dec (by decide +kernel), tw_dec (by decide +kernel), by decide +kernel⟩
theorem bX3_bestKey : LB yX3_bestKey cX3_bestKey 3 (some FieldType.int) 0 := ⟨tw_dec (by decide +kernel), tw_dec (by decide +kernel), by decide +kernel⟩
theorem bX3_copyFrom : LB yX3_copyFrom cX3_copyFrom 3 none 1 := ⟨tw_dec (by decide +kernel), tw_dec (by decide +kernel), by decide +kernel⟩
theorem bX3_greatestGroup : LB yX3_greatestGroup cX3_greatestGroup 4 (some FieldType.int) 1 := ⟨tw_dec (by decide +kernel), tw_dec (by decide +kernel), by decide +kernel⟩
theorem bX3_groups : LB yX3_groups cX3_groups 4 (some FieldType.int) 1 := ⟨tw_dec (by decide +kernel), tw_dec (by decide +kernel), by decide +kernel⟩
theorem bX3_init : LB yX3_init cX3_init 1 none 0 := ⟨tw_dec (by decide +kernel), tw_dec (by decide +kernel), by decide +kernel⟩
theorem bX3_isBetter : LB yX3_isBetter cX3_isBetter 5 (some FieldType.boolean) 2 := ⟨tw_dec (by decide +kernel), tw_dec (by decide +kernel), by decide +kernel⟩
theorem bX3_isFound : LB yX3_isFound cX3_isFound 2 (some FieldType.boolean) 0 := ⟨tw_dec (by decide +kernel), tw_dec (by decide +kernel), by decide +kernel⟩
theorem bX3_isRunning : LB yX3_isRunning cX3_isRunning 1 (some FieldType.boolean) 0 := ⟨tw_dec (by decide +kernel), tw_dec (by decide +kernel), by decide +kernel⟩
theorem bX3_isSuspect : LB yX3_isSuspect cX3_isSuspect 2 (some FieldType.boolean) 1 := ⟨tw_dec (by decide +kernel), tw_dec (by decide +kernel), by decide +kernel⟩
theorem bX3_start : LB yX3_start cX3_start 5 none 3 := ⟨tw_dec (by decide +kernel), tw_dec (by decide +kernel), by decide +kernel⟩
theorem bX4_copyFrom : LB yX4_copyFrom cX4_copyFrom 3 none 1 := ⟨tw_dec (by decide +kernel), tw_dec (by decide +kernel), by decide +kernel⟩
theorem bX4_entriesOfAll : LB yX4_entriesOfAll cX4_entriesOfAll 3 (some FieldType.int) 0 := ⟨tw_dec (by decide +kernel), tw_dec (by decide +kernel), by decide +kernel⟩
theorem bX4_init : LB yX4_init cX4_init 2 none 0 := ⟨tw_dec (by decide +kernel), tw_dec (by decide +kernel), by decide +kernel⟩
theorem bX4_layers : LB yX4_layers cX4_layers 3 (some FieldType.int) 0 := ⟨tw_dec (by decide +kernel), tw_dec (by decide +kernel), by decide +kernel⟩
theorem bX4_repeatedMaps : LB yX4_repeatedMaps cX4_repeatedMaps 3 (some FieldType.int) 0 := ⟨tw_dec (by decide +kernel), tw_dec (by decide +kernel), by decide +kernel⟩
theorem bX4_repeatsLowerMap : LB yX4_repeatsLowerMap cX4_repeatsLowerMap 3 (some FieldType.boolean) 1 := ⟨tw_dec (by decide +kernel), tw_dec (by decide +kernel), by decide +kernel⟩
theorem bX4_shadowedOfAll : LB yX4_shadowedOfAll cX4_shadowedOfAll 3 (some FieldType.int) 0 := ⟨tw_dec (by decide +kernel), tw_dec (by decide +kernel), by decide +kernel⟩
theorem bX5_add : LB yX5_add cX5_add 2 (some FieldType.boolean) 1 := ⟨tw_dec (by decide +kernel), tw_dec (by decide +kernel), by decide +kernel⟩
theorem bX5_init : LB yX5_init cX5_init 1 none 0 := ⟨tw_dec (by decide +kernel), tw_dec (by decide +kernel), by decide +kernel⟩
theorem bX5_isAtEnd : LB yX5_isAtEnd cX5_isAtEnd 1 (some FieldType.boolean) 0 := ⟨tw_dec (by decide +kernel), tw_dec (by decide +kernel), by decide +kernel⟩
theorem bX5_take : LB yX5_take cX5_take 2 (some FieldType.boolean) 1 := ⟨tw_dec (by decide +kernel), tw_dec (by decide +kernel), by decide +kernel⟩
theorem bX5_takeBetween : LB yX5_takeBetween cX5_takeBetween 4 (some FieldType.int) 2 := ⟨tw_dec (by decide +kernel), tw_dec (by decide +kernel), by decide +kernel⟩
theorem bX5_takeDigit : LB yX5_takeDigit cX5_takeDigit 1 (some FieldType.int) 0 := ⟨tw_dec (by decide +kernel), tw_dec (by decide +kernel), by decide +kernel⟩
theorem bX5_takeKey : LB yX5_takeKey cX5_takeKey 3 (some FieldType.int) 0 := ⟨tw_dec (by decide +kernel), tw_dec (by decide +kernel), by decide +kernel⟩
theorem bX5_takeKeySet : LB yX5_takeKeySet cX5_takeKeySet 4 (some FieldType.int) 0 := ⟨tw_dec (by decide +kernel), tw_dec (by decide +kernel), by decide +kernel⟩
theorem bX5_takeMap : LB yX5_takeMap cX5_takeMap 1 (some FieldType.int) 0 := ⟨tw_dec (by decide +kernel), tw_dec (by decide +kernel), by decide +kernel⟩
theorem bX6_aboutBestKey : LB yX6_aboutBestKey cX6_aboutBestKey 3 (some FieldType.int) 2 := ⟨tw_dec (by decide +kernel), tw_dec (by decide +kernel), by decide +kernel⟩
theorem bX6_after : LB yX6_after cX6_after 4 (some FieldType.int) 3 := ⟨tw_dec (by decide +kernel), tw_dec (by decide +kernel), by decide +kernel⟩
theorem bX6_ask : LB yX6_ask cX6_ask 2 (some FieldType.int) 1 := ⟨tw_dec (by decide +kernel), tw_dec (by decide +kernel), by decide +kernel⟩
theorem bX6_assign : LB yX6_assign cX6_assign 3 (some FieldType.int) 0 := ⟨tw_dec (by decide +kernel), tw_dec (by decide +kernel), by decide +kernel⟩
theorem bX6_clearText : LB yX6_clearText cX6_clearText 2 (some FieldType.int) 0 := ⟨tw_dec (by decide +kernel), tw_dec (by decide +kernel), by decide +kernel⟩
theorem bX6_collectDifferences : LB yX6_collectDifferences cX6_collectDifferences 7 (some FieldType.int) 1 := ⟨tw_dec (by decide +kernel), tw_dec (by decide +kernel), by decide +kernel⟩
theorem bX6_count : LB yX6_count cX6_count 2 (some FieldType.int) 1 := ⟨tw_dec (by decide +kernel), tw_dec (by decide +kernel), by decide +kernel⟩
theorem bX6_differ : LB yX6_differ cX6_differ 3 (some FieldType.int) 2 := ⟨tw_dec (by decide +kernel), tw_dec (by decide +kernel), by decide +kernel⟩
theorem bX6_dropOldest : LB yX6_dropOldest cX6_dropOldest 3 none 0 := ⟨tw_dec (by decide +kernel), tw_dec (by decide +kernel), by decide +kernel⟩
theorem bX6_entry : LB yX6_entry cX6_entry 4 (some FieldType.int) 3 := ⟨tw_dec (by decide +kernel), tw_dec (by decide +kernel), by decide +kernel⟩
theorem bX6_flatten : LB yX6_flatten cX6_flatten 3 (some FieldType.int) 1 := ⟨tw_dec (by decide +kernel), tw_dec (by decide +kernel), by decide +kernel⟩
theorem bX6_follow : LB yX6_follow cX6_follow 5 (some FieldType.int) 3 := ⟨tw_dec (by decide +kernel), tw_dec (by decide +kernel), by decide +kernel⟩
theorem bX6_get : LB yX6_get cX6_get 3 (some FieldType.int) 2 := ⟨tw_dec (by decide +kernel), tw_dec (by decide +kernel), by decide +kernel⟩
theorem bX6_gives : LB yX6_gives cX6_gives 3 (some FieldType.int) 1 := ⟨tw_dec (by decide +kernel), tw_dec (by decide +kernel), by decide +kernel⟩
theorem bX6_hidden : LB yX6_hidden cX6_hidden 3 (some FieldType.int) 1 := ⟨tw_dec (by decide +kernel), tw_dec (by decide +kernel), by decide +kernel⟩
theorem bX6_hide : LB yX6_hide cX6_hide 3 (some FieldType.int) 2 := ⟨tw_dec (by decide +kernel), tw_dec (by decide +kernel), by decide +kernel⟩
theorem bX6_init : LB yX6_init cX6_init 2 none 0 := ⟨tw_dec (by decide +kernel), tw_dec (by decide +kernel), by decide +kernel⟩
theorem bX6_isKey : LB yX6_isKey cX6_isKey 1 (some FieldType.boolean) 1 := ⟨tw_dec (by decide +kernel), tw_dec (by decide +kernel), by decide +kernel⟩
theorem bX6_isLayer : LB yX6_isLayer cX6_isLayer 3 (some FieldType.boolean) 2 := ⟨tw_dec (by decide +kernel), tw_dec (by decide +kernel), by decide +kernel⟩
theorem bX6_isMap : LB yX6_isMap cX6_isMap 1 (some FieldType.boolean) 1 := ⟨tw_dec (by decide +kernel), tw_dec (by decide +kernel), by decide +kernel⟩
theorem bX6_keep : LB yX6_keep cX6_keep 1 (some FieldType.int) 0 := ⟨tw_dec (by decide +kernel), tw_dec (by decide +kernel), by decide +kernel⟩
theorem bX6_layer : LB yX6_layer cX6_layer 5 (some FieldType.int) 3 := ⟨tw_dec (by decide +kernel), tw_dec (by decide +kernel), by decide +kernel⟩
theorem bX6_leastSetOfSize : LB yX6_leastSetOfSize cX6_leastSetOfSize 5 (some FieldType.int) 2 := ⟨tw_dec (by decide +kernel), tw_dec (by decide +kernel), by decide +kernel⟩
theorem bX6_lift : LB yX6_lift cX6_lift 5 (some FieldType.int) 3 := ⟨tw_dec (by decide +kernel), tw_dec (by decide +kernel), by decide +kernel⟩
theorem bX6_map : LB yX6_map cX6_map 4 (some FieldType.int) 2 := ⟨tw_dec (by decide +kernel), tw_dec (by decide +kernel), by decide +kernel⟩
theorem bX6_nextSetOfSameSize : LB yX6_nextSetOfSameSize cX6_nextSetOfSameSize 3 (some FieldType.int) 1 := ⟨tw_dec (by decide +kernel), tw_dec (by decide +kernel), by decide +kernel⟩
theorem bX6_orNone : LB yX6_orNone cX6_orNone 1 (some FieldType.int) 1 := ⟨tw_dec (by decide +kernel), tw_dec (by decide +kernel), by decide +kernel⟩
theorem bX6_pop : LB yX6_pop cX6_pop 3 (some FieldType.int) 1 := ⟨tw_dec (by decide +kernel), tw_dec (by decide +kernel), by decide +kernel⟩
theorem bX6_probes : LB yX6_probes cX6_probes 5 (some FieldType.int) 1 := ⟨tw_dec (by decide +kernel), tw_dec (by decide +kernel), by decide +kernel⟩
theorem bX6_push : LB yX6_push cX6_push 4 (some FieldType.int) 1 := ⟨tw_dec (by decide +kernel), tw_dec (by decide +kernel), by decide +kernel⟩
theorem bX6_record : LB yX6_record cX6_record 1 none 0 := ⟨tw_dec (by decide +kernel), tw_dec (by decide +kernel), by decide +kernel⟩
theorem bX6_restore : LB yX6_restore cX6_restore 1 (some FieldType.int) 0 := ⟨tw_dec (by decide +kernel), tw_dec (by decide +kernel), by decide +kernel⟩
theorem bX6_setEntry : LB yX6_setEntry cX6_setEntry 7 (some FieldType.int) 4 := ⟨tw_dec (by decide +kernel), tw_dec (by decide +kernel), by decide +kernel⟩
theorem bX6_setRule : LB yX6_setRule cX6_setRule 3 (some FieldType.int) 1 := ⟨tw_dec (by decide +kernel), tw_dec (by decide +kernel), by decide +kernel⟩
theorem bX6_split : LB yX6_split cX6_split 3 (some FieldType.int) 2 := ⟨tw_dec (by decide +kernel), tw_dec (by decide +kernel), by decide +kernel⟩
theorem bX6_tells : LB yX6_tells cX6_tells 4 (some FieldType.int) 2 := ⟨tw_dec (by decide +kernel), tw_dec (by decide +kernel), by decide +kernel⟩
theorem bX6_tellsApart : LB yX6_tellsApart cX6_tellsApart 4 (some FieldType.boolean) 2 := ⟨tw_dec (by decide +kernel), tw_dec (by decide +kernel), by decide +kernel⟩
theorem bX6_turn : LB yX6_turn cX6_turn 5 (some FieldType.int) 3 := ⟨tw_dec (by decide +kernel), tw_dec (by decide +kernel), by decide +kernel⟩
theorem bX6_type : LB yX6_type cX6_type 2 (some FieldType.int) 1 := ⟨tw_dec (by decide +kernel), tw_dec (by decide +kernel), by decide +kernel⟩
theorem bX6_undo : LB yX6_undo cX6_undo 1 (some FieldType.int) 0 := ⟨tw_dec (by decide +kernel), tw_dec (by decide +kernel), by decide +kernel⟩
theorem bX7_after : LB yX7_after cX7_after 5 (some FieldType.int) 3 := ⟨tw_dec (by decide +kernel), tw_dec (by decide +kernel), by decide +kernel⟩
theorem bX7_allEntries : LB yX7_allEntries cX7_allEntries 5 (some FieldType.int) 1 := ⟨tw_dec (by decide +kernel), tw_dec (by decide +kernel), by decide +kernel⟩
theorem bX7_apart : LB yX7_apart cX7_apart 5 (some FieldType.int) 2 := ⟨tw_dec (by decide +kernel), tw_dec (by decide +kernel), by decide +kernel⟩
theorem bX7_ask : LB yX7_ask cX7_ask 4 (some FieldType.int) 1 := ⟨tw_dec (by decide +kernel), tw_dec (by decide +kernel), by decide +kernel⟩
theorem bX7_assign : LB yX7_assign cX7_assign 1 (some FieldType.int) 0 := ⟨tw_dec (by decide +kernel), tw_dec (by decide +kernel), by decide +kernel⟩
theorem bX7_becomes : LB yX7_becomes cX7_becomes 5 (some FieldType.int) 2 := ⟨tw_dec (by decide +kernel), tw_dec (by decide +kernel), by decide +kernel⟩
theorem bX7_bestKey : LB yX7_bestKey cX7_bestKey 4 (some FieldType.int) 0 := ⟨tw_dec (by decide +kernel), tw_dec (by decide +kernel), by decide +kernel⟩
theorem bX7_bits : LB yX7_bits cX7_bits 3 (some FieldType.int) 1 := ⟨tw_dec (by decide +kernel), tw_dec (by decide +kernel), by decide +kernel⟩
theorem bX7_cell : LB yX7_cell cX7_cell 3 (some FieldType.int) 3 := ⟨tw_dec (by decide +kernel), tw_dec (by decide +kernel), by decide +kernel⟩
theorem bX7_changed : LB yX7_changed cX7_changed 4 (some FieldType.int) 1 := ⟨tw_dec (by decide +kernel), tw_dec (by decide +kernel), by decide +kernel⟩
theorem bX7_clearText : LB yX7_clearText cX7_clearText 2 (some FieldType.int) 0 := ⟨tw_dec (by decide +kernel), tw_dec (by decide +kernel), by decide +kernel⟩
theorem bX7_count : LB yX7_count cX7_count 2 (some FieldType.int) 1 := ⟨tw_dec (by decide +kernel), tw_dec (by decide +kernel), by decide +kernel⟩
theorem bX7_cycle : LB yX7_cycle cX7_cycle 4 (some FieldType.int) 2 := ⟨tw_dec (by decide +kernel), tw_dec (by decide +kernel), by decide +kernel⟩
theorem bX7_differ : LB yX7_differ cX7_differ 3 (some FieldType.int) 2 := ⟨tw_dec (by decide +kernel), tw_dec (by decide +kernel), by decide +kernel⟩
theorem bX7_entries : LB yX7_entries cX7_entries 8 (some FieldType.int) 3 := ⟨tw_dec (by decide +kernel), tw_dec (by decide +kernel), by decide +kernel⟩
theorem bX7_entry : LB yX7_entry cX7_entry 4 (some FieldType.int) 3 := ⟨tw_dec (by decide +kernel), tw_dec (by decide +kernel), by decide +kernel⟩
theorem bX7_flatten : LB yX7_flatten cX7_flatten 3 (some FieldType.int) 1 := ⟨tw_dec (by decide +kernel), tw_dec (by decide +kernel), by decide +kernel⟩
theorem bX7_follow : LB yX7_follow cX7_follow 6 (some FieldType.int) 3 := ⟨tw_dec (by decide +kernel), tw_dec (by decide +kernel), by decide +kernel⟩
theorem bX7_get : LB yX7_get cX7_get 4 (some FieldType.int) 2 := ⟨tw_dec (by decide +kernel), tw_dec (by decide +kernel), by decide +kernel⟩
theorem bX7_gives : LB yX7_gives cX7_gives 2 (some FieldType.int) 1 := ⟨tw_dec (by decide +kernel), tw_dec (by decide +kernel), by decide +kernel⟩
theorem bX7_groups : LB yX7_groups cX7_groups 8 (some FieldType.int) 2 := ⟨tw_dec (by decide +kernel), tw_dec (by decide +kernel), by decide +kernel⟩
theorem bX7_hidden : LB yX7_hidden cX7_hidden 4 (some FieldType.int) 1 := ⟨tw_dec (by decide +kernel), tw_dec (by decide +kernel), by decide +kernel⟩
theorem bX7_hide : LB yX7_hide cX7_hide 5 (some FieldType.int) 2 := ⟨tw_dec (by decide +kernel), tw_dec (by decide +kernel), by decide +kernel⟩
theorem bX7_in : LB yX7_in cX7_in 3 (some FieldType.boolean) 3 := ⟨tw_dec (by decide +kernel), tw_dec (by decide +kernel), by decide +kernel⟩
theorem bX7_init : LB yX7_init cX7_init 1 none 0 := ⟨tw_dec (by decide +kernel), tw_dec (by decide +kernel), by decide +kernel⟩
theorem bX7_inverts : LB yX7_inverts cX7_inverts 6 none 0 := ⟨tw_dec (by decide +kernel), tw_dec (by decide +kernel), by decide +kernel⟩
theorem bX7_isBetween : LB yX7_isBetween cX7_isBetween 3 (some FieldType.boolean) 2 := ⟨tw_dec (by decide +kernel), tw_dec (by decide +kernel), by decide +kernel⟩
theorem bX7_isExpressionText : LB yX7_isExpressionText cX7_isExpressionText 1 (some FieldType.boolean) 0 := ⟨tw_dec (by decide +kernel), tw_dec (by decide +kernel), by decide +kernel⟩
theorem bX7_isFound : LB yX7_isFound cX7_isFound 4 (some FieldType.boolean) 0 := ⟨tw_dec (by decide +kernel), tw_dec (by decide +kernel), by decide +kernel⟩
theorem bX7_isLayerText : LB yX7_isLayerText cX7_isLayerText 3 (some FieldType.boolean) 0 := ⟨tw_dec (by decide +kernel), tw_dec (by decide +kernel), by decide +kernel⟩
theorem bX7_isOn : LB yX7_isOn cX7_isOn 3 (some FieldType.boolean) 2 := ⟨tw_dec (by decide +kernel), tw_dec (by decide +kernel), by decide +kernel⟩
theorem bX7_isSign : LB yX7_isSign cX7_isSign 2 (some FieldType.boolean) 1 := ⟨tw_dec (by decide +kernel), tw_dec (by decide +kernel), by decide +kernel⟩
theorem bX7_isSuspect : LB yX7_isSuspect cX7_isSuspect 2 (some FieldType.boolean) 1 := ⟨tw_dec (by decide +kernel), tw_dec (by decide +kernel), by decide +kernel⟩
theorem bX7_joins : LB yX7_joins cX7_joins 4 none 0 := ⟨tw_dec (by decide +kernel), tw_dec (by decide +kernel), by decide +kernel⟩
theorem bX7_keep : LB yX7_keep cX7_keep 2 (some FieldType.int) 0 := ⟨tw_dec (by decide +kernel), tw_dec (by decide +kernel), by decide +kernel⟩
theorem bX7_known : LB yX7_known cX7_known 3 (some FieldType.int) 2 := ⟨tw_dec (by decide +kernel), tw_dec (by decide +kernel), by decide +kernel⟩
theorem bX7_layer : LB yX7_layer cX7_layer 4 (some FieldType.int) 3 := ⟨tw_dec (by decide +kernel), tw_dec (by decide +kernel), by decide +kernel⟩
theorem bX7_layers : LB yX7_layers cX7_layers 3 (some FieldType.int) 0 := ⟨tw_dec (by decide +kernel), tw_dec (by decide +kernel), by decide +kernel⟩
theorem bX7_lift : LB yX7_lift cX7_lift 6 (some FieldType.int) 3 := ⟨tw_dec (by decide +kernel), tw_dec (by decide +kernel), by decide +kernel⟩
theorem bX7_longest : LB yX7_longest cX7_longest 5 (some FieldType.int) 1 := ⟨tw_dec (by decide +kernel), tw_dec (by decide +kernel), by decide +kernel⟩
theorem bX7_map : LB yX7_map cX7_map 3 (some FieldType.int) 2 := ⟨tw_dec (by decide +kernel), tw_dec (by decide +kernel), by decide +kernel⟩
theorem bX7_noKey : LB yX7_noKey cX7_noKey 1 (some FieldType.boolean) 1 := ⟨tw_dec (by decide +kernel), tw_dec (by decide +kernel), by decide +kernel⟩
theorem bX7_noLayer : LB yX7_noLayer cX7_noLayer 3 (some FieldType.boolean) 2 := ⟨tw_dec (by decide +kernel), tw_dec (by decide +kernel), by decide +kernel⟩
theorem bX7_noMap : LB yX7_noMap cX7_noMap 1 (some FieldType.boolean) 1 := ⟨tw_dec (by decide +kernel), tw_dec (by decide +kernel), by decide +kernel⟩
theorem bX7_onLayers : LB yX7_onLayers cX7_onLayers 4 (some FieldType.int) 1 := ⟨tw_dec (by decide +kernel), tw_dec (by decide +kernel), by decide +kernel⟩
theorem bX7_pop : LB yX7_pop cX7_pop 2 (some FieldType.int) 1 := ⟨tw_dec (by decide +kernel), tw_dec (by decide +kernel), by decide +kernel⟩
theorem bX7_probes : LB yX7_probes cX7_probes 7 (some FieldType.int) 1 := ⟨tw_dec (by decide +kernel), tw_dec (by decide +kernel), by decide +kernel⟩
theorem bX7_push : LB yX7_push cX7_push 4 (some FieldType.int) 1 := ⟨tw_dec (by decide +kernel), tw_dec (by decide +kernel), by decide +kernel⟩
theorem bX7_record : LB yX7_record cX7_record 2 none 0 := ⟨tw_dec (by decide +kernel), tw_dec (by decide +kernel), by decide +kernel⟩
theorem bX7_remembers : LB yX7_remembers cX7_remembers 3 none 1 := ⟨tw_dec (by decide +kernel), tw_dec (by decide +kernel), by decide +kernel⟩
theorem bX7_repeats : LB yX7_repeats cX7_repeats 5 none 1 := ⟨tw_dec (by decide +kernel), tw_dec (by decide +kernel), by decide +kernel⟩
theorem bX7_restore : LB yX7_restore cX7_restore 2 (some FieldType.int) 0 := ⟨tw_dec (by decide +kernel), tw_dec (by decide +kernel), by decide +kernel⟩
theorem bX7_returns : LB yX7_returns cX7_returns 6 (some FieldType.int) 2 := ⟨tw_dec (by decide +kernel), tw_dec (by decide +kernel), by decide +kernel⟩
theorem bX7_set : LB yX7_set cX7_set 6 (some FieldType.int) 2 := ⟨tw_dec (by decide +kernel), tw_dec (by decide +kernel), by decide +kernel⟩
theorem bX7_setEntry : LB yX7_setEntry cX7_setEntry 6 (some FieldType.int) 4 := ⟨tw_dec (by decide +kernel), tw_dec (by decide +kernel), by decide +kernel⟩
theorem bX7_setRule : LB yX7_setRule cX7_setRule 3 (some FieldType.int) 1 := ⟨tw_dec (by decide +kernel), tw_dec (by decide +kernel), by decide +kernel⟩
theorem bX7_settles : LB yX7_settles cX7_settles 2 none 0 := ⟨tw_dec (by decide +kernel), tw_dec (by decide +kernel), by decide +kernel⟩
theorem bX7_shadowed : LB yX7_shadowed cX7_shadowed 4 (some FieldType.int) 1 := ⟨tw_dec (by decide +kernel), tw_dec (by decide +kernel), by decide +kernel⟩
theorem bX7_split : LB yX7_split cX7_split 3 (some FieldType.int) 2 := ⟨tw_dec (by decide +kernel), tw_dec (by decide +kernel), by decide +kernel⟩
theorem bX7_swaps : LB yX7_swaps cX7_swaps 6 none 3 := ⟨tw_dec (by decide +kernel), tw_dec (by decide +kernel), by decide +kernel⟩
theorem bX7_takes : LB yX7_takes cX7_takes 2 (some FieldType.boolean) 1 := ⟨tw_dec (by decide +kernel), tw_dec (by decide +kernel), by decide +kernel⟩
theorem bX7_takesKey : LB yX7_takesKey cX7_takesKey 1 (some FieldType.boolean) 0 := ⟨tw_dec (by decide +kernel), tw_dec (by decide +kernel), by decide +kernel⟩
theorem bX7_takesLetter : LB yX7_takesLetter cX7_takesLetter 2 (some FieldType.boolean) 0 := ⟨tw_dec (by decide +kernel), tw_dec (by decide +kernel), by decide +kernel⟩
theorem bX7_takesSet : LB yX7_takesSet cX7_takesSet 4 (some FieldType.boolean) 0 := ⟨tw_dec (by decide +kernel), tw_dec (by decide +kernel), by decide +kernel⟩
theorem bX7_takesSigns : LB yX7_takesSigns cX7_takesSigns 2 (some FieldType.boolean) 0 := ⟨tw_dec (by decide +kernel), tw_dec (by decide +kernel), by decide +kernel⟩
theorem bX7_teller : LB yX7_teller cX7_teller 4 (some FieldType.int) 2 := ⟨tw_dec (by decide +kernel), tw_dec (by decide +kernel), by decide +kernel⟩
theorem bX7_tells : LB yX7_tells cX7_tells 3 (some FieldType.int) 2 := ⟨tw_dec (by decide +kernel), tw_dec (by decide +kernel), by decide +kernel⟩
theorem bX7_turn : LB yX7_turn cX7_turn 4 (some FieldType.int) 3 := ⟨tw_dec (by decide +kernel), tw_dec (by decide +kernel), by decide +kernel⟩
theorem bX7_twins : LB yX7_twins cX7_twins 5 (some FieldType.int) 0 := ⟨tw_dec (by decide +kernel), tw_dec (by decide +kernel), by decide +kernel⟩
theorem bX7_type : LB yX7_type cX7_type 2 (some FieldType.int) 1 := ⟨tw_dec (by decide +kernel), tw_dec (by decide +kernel), by decide +kernel⟩
theorem bX7_underlies : LB yX7_underlies cX7_underlies 3 none 0 := ⟨tw_dec (by decide +kernel), tw_dec (by decide +kernel), by decide +kernel⟩
theorem bX7_undo : LB yX7_undo cX7_undo 2 (some FieldType.int) 0 := ⟨tw_dec (by decide +kernel), tw_dec (by decide +kernel), by decide +kernel⟩
theorem bX7_value : LB yX7_value cX7_value 4 (some FieldType.int) 2 := ⟨tw_dec (by decide +kernel), tw_dec (by decide +kernel), by decide +kernel⟩
theorem bX7_walks : LB yX7_walks cX7_walks 6 (some FieldType.int) 3 := ⟨tw_dec (by decide +kernel), tw_dec (by decide +kernel), by decide +kernel⟩
theorem mL_13 : LV RL 13 RX6 yX6_push := ⟨tw_dec (by decide +kernel), tw_dec (by decide +kernel), tw_dec (by decide +kernel)⟩
theorem mL_17 : LV RL 17 RX7 yX7_push := ⟨tw_dec (by decide +kernel), tw_dec (by decide +kernel), tw_dec (by decide +kernel)⟩
theorem mL_18 : LV RL 18 RX6 yX6_pop := ⟨tw_dec (by decide +kernel), tw_dec (by decide +kernel), tw_dec (by decide +kernel)⟩
theorem mL_21 : LV RL 21 RX7 yX7_pop := ⟨tw_dec (by decide +kernel), tw_dec (by decide +kernel), tw_dec (by decide +kernel)⟩
theorem mL_22 : LV RL 22 RX6 yX6_turn := ⟨tw_dec (by decide +kernel), tw_dec (by decide +kernel), tw_dec (by decide +kernel)⟩
theorem mL_26 : LV RL 26 RX7 yX7_turn := ⟨tw_dec (by decide +kernel), tw_dec (by decide +kernel), tw_dec (by decide +kernel)⟩
theorem mL_27 : LV RL 27 RX6 yX6_lift := ⟨tw_dec (by decide +kernel), tw_dec (by decide +kernel), tw_dec (by decide +kernel)⟩
theorem mL_31 : LV RL 31 RX7 yX7_lift := ⟨tw_dec (by decide +kernel), tw_dec (by decide +kernel), tw_dec (by decide +kernel)⟩
theorem mL_32 : LV RL 32 RX6 yX6_setEntry := ⟨tw_dec (by decide +kernel), tw_dec (by decide +kernel), tw_dec (by decide +kernel)⟩
theorem mL_36 : LV RL 36 RX7 yX7_setEntry := ⟨tw_dec (by decide +kernel), tw_dec (by decide +kernel), tw_dec (by decide +kernel)⟩
theorem mL_37 : LV RL 37 RX6 yX6_flatten := ⟨tw_dec (by decide +kernel), tw_dec (by decide +kernel), tw_dec (by decide +kernel)⟩
theorem mL_40 : LV RL 40 RX7 yX7_flatten := ⟨tw_dec (by decide +kernel), tw_dec (by decide +kernel), tw_dec (by decide +kernel)⟩
theorem mL_41 : LV RL 41 RX6 yX6_assign := ⟨tw_dec (by decide +kernel), tw_dec (by decide +kernel), tw_dec (by decide +kernel)⟩
theorem mL_45 : LV RL 45 RX7 yX7_assign := ⟨tw_dec (by decide +kernel), tw_dec (by decide +kernel), tw_dec (by decide +kernel)⟩
theorem mL_46 : LV RL 46 RX6 yX6_setRule := ⟨tw_dec (by decide +kernel), tw_dec (by decide +kernel), tw_dec (by decide +kernel)⟩
theorem mL_49 : LV RL 49 RX7 yX7_setRule := ⟨tw_dec (by decide +kernel), tw_dec (by decide +kernel), tw_dec (by decide +kernel)⟩
theorem mL_50 : LV RL 50 RX6 yX6_hide := ⟨tw_dec (by decide +kernel), tw_dec (by decide +kernel), tw_dec (by decide +kernel)⟩
theorem mL_54 : LV RL 54 RX7 yX7_hide := ⟨tw_dec (by decide +kernel), tw_dec (by decide +kernel), tw_dec (by decide +kernel)⟩
theorem mL_55 : LV RL 55 RX6 yX6_ask := ⟨tw_dec (by decide +kernel), tw_dec (by decide +kernel), tw_dec (by decide +kernel)⟩
theorem mL_58 : LV RL 58 RX7 yX7_ask := ⟨tw_dec (by decide +kernel), tw_dec (by decide +kernel), tw_dec (by decide +kernel)⟩
theorem mL_59 : LV RL 59 RX6 yX6_type := ⟨tw_dec (by decide +kernel), tw_dec (by decide +kernel), tw_dec (by decide +kernel)⟩
theorem mL_63 : LV RL 63 RX7 yX7_type := ⟨tw_dec (by decide +kernel), tw_dec (by decide +kernel), tw_dec (by decide +kernel)⟩
theorem mL_64 : LV RL 64 RX6 yX6_clearText := ⟨tw_dec (by decide +kernel), tw_dec (by decide +kernel), tw_dec (by decide +kernel)⟩
theorem mL_67 : LV RL 67 RX7 yX7_clearText := ⟨tw_dec (by decide +kernel), tw_dec (by decide +kernel), tw_dec (by decide +kernel)⟩
theorem mL_68 : LV RL 68 RX6 yX6_undo := ⟨tw_dec (by decide +kernel), tw_dec (by decide +kernel), tw_dec (by decide +kernel)⟩
theorem mL_71 : LV RL 71 RX7 yX7_undo := ⟨tw_dec (by decide +kernel), tw_dec (by decide +kernel), tw_dec (by decide +kernel)⟩
theorem mL_72 : LV RL 72 RX6 yX6_keep := ⟨tw_dec (by decide +kernel), tw_dec (by decide +kernel), tw_dec (by decide +kernel)⟩
theorem mL_75 : LV RL 75 RX7 yX7_keep := ⟨tw_dec (by decide +kernel), tw_dec (by decide +kernel), tw_dec (by decide +kernel)⟩
theorem mL_76 : LV RL 76 RX6 yX6_restore := ⟨tw_dec (by decide +kernel), tw_dec (by decide +kernel), tw_dec (by decide +kernel)⟩
theorem mL_79 : LV RL 79 RX7 yX7_restore := ⟨tw_dec (by decide +kernel), tw_dec (by decide +kernel), tw_dec (by decide +kernel)⟩
theorem mL_80 : LV RL 80 RX6 yX6_get := ⟨tw_dec (by decide +kernel), tw_dec (by decide +kernel), tw_dec (by decide +kernel)⟩
theorem mL_83 : LV RL 83 RX7 yX7_get := ⟨tw_dec (by decide +kernel), tw_dec (by decide +kernel), tw_dec (by decide +kernel)⟩
theorem mL_84 : LV RL 84 RX6 yX6_tells := ⟨tw_dec (by decide +kernel), tw_dec (by decide +kernel), tw_dec (by decide +kernel)⟩
theorem mL_87 : LV RL 87 RX7 yX7_tells := ⟨tw_dec (by decide +kernel), tw_dec (by decide +kernel), tw_dec (by decide +kernel)⟩
theorem mL_88 : LV RL 88 RX6 yX6_map := ⟨tw_dec (by decide +kernel), tw_dec (by decide +kernel), tw_dec (by decide +kernel)⟩
theorem mL_91 : LV RL 91 RX7 yX7_map := ⟨tw_dec (by decide +kernel), tw_dec (by decide +kernel), tw_dec (by decide +kernel)⟩
theorem mL_92 : LV RL 92 RX6 yX6_layer := ⟨tw_dec (by decide +kernel), tw_dec (by decide +kernel), tw_dec (by decide +kernel)⟩
theorem mL_95 : LV RL 95 RX7 yX7_layer := ⟨tw_dec (by decide +kernel), tw_dec (by decide +kernel), tw_dec (by decide +kernel)⟩
theorem mL_96 : LV RL 96 RX6 yX6_entry := ⟨tw_dec (by decide +kernel), tw_dec (by decide +kernel), tw_dec (by decide +kernel)⟩
theorem mL_99 : LV RL 99 RX7 yX7_entry := ⟨tw_dec (by decide +kernel), tw_dec (by decide +kernel), tw_dec (by decide +kernel)⟩
theorem mL_100 : LV RL 100 RX6 yX6_follow := ⟨tw_dec (by decide +kernel), tw_dec (by decide +kernel), tw_dec (by decide +kernel)⟩
theorem mL_103 : LV RL 103 RX7 yX7_follow := ⟨tw_dec (by decide +kernel), tw_dec (by decide +kernel), tw_dec (by decide +kernel)⟩
theorem mL_104 : LV RL 104 RX6 yX6_after := ⟨tw_dec (by decide +kernel), tw_dec (by decide +kernel), tw_dec (by decide +kernel)⟩
theorem mL_107 : LV RL 107 RX7 yX7_after := ⟨tw_dec (by decide +kernel), tw_dec (by decide +kernel), tw_dec (by decide +kernel)⟩
theorem mL_108 : LV RL 108 RX6 yX6_gives := ⟨tw_dec (by decide +kernel), tw_dec (by decide +kernel), tw_dec (by decide +kernel)⟩
theorem mL_111 : LV RL 111 RX7 yX7_gives := ⟨tw_dec (by decide +kernel), tw_dec (by decide +kernel), tw_dec (by decide +kernel)⟩
theorem mL_112 : LV RL 112 RX6 yX6_differ := ⟨tw_dec (by decide +kernel), tw_dec (by decide +kernel), tw_dec (by decide +kernel)⟩
theorem mL_115 : LV RL 115 RX7 yX7_differ := ⟨tw_dec (by decide +kernel), tw_dec (by decide +kernel), tw_dec (by decide +kernel)⟩
theorem mL_116 : LV RL 116 RX6 yX6_probes := ⟨tw_dec (by decide +kernel), tw_dec (by decide +kernel), tw_dec (by decide +kernel)⟩
theorem mL_119 : LV RL 119 RX7 yX7_probes := ⟨tw_dec (by decide +kernel), tw_dec (by decide +kernel), tw_dec (by decide +kernel)⟩
theorem mL_120 : LV RL 120 RX6 yX6_hidden := ⟨tw_dec (by decide +kernel), tw_dec (by decide +kernel), tw_dec (by decide +kernel)⟩
theorem mL_123 : LV RL 123 RX7 yX7_hidden := ⟨tw_dec (by decide +kernel), tw_dec (by decide +kernel), tw_dec (by decide +kernel)⟩
theorem mL_124 : LV RL 124 RX6 yX6_split := ⟨tw_dec (by decide +kernel), tw_dec (by decide +kernel), tw_dec (by decide +kernel)⟩
theorem mL_127 : LV RL 127 RX7 yX7_split := ⟨tw_dec (by decide +kernel), tw_dec (by decide +kernel), tw_dec (by decide +kernel)⟩
theorem mL_128 : LV RL 128 RX6 yX6_count := ⟨tw_dec (by decide +kernel), tw_dec (by decide +kernel), tw_dec (by decide +kernel)⟩
theorem mL_131 : LV RL 131 RX7 yX7_count := ⟨tw_dec (by decide +kernel), tw_dec (by decide +kernel), tw_dec (by decide +kernel)⟩
theorem mX0_28 : LSt RX0 28 yJ7_fill_53178 := ⟨tw_dec (by decide +kernel), tw_dec (by decide +kernel)⟩
theorem mX0_34 : LSt RX0 34 yX2_copy := ⟨tw_dec (by decide +kernel), tw_dec (by decide +kernel)⟩
theorem mX0_40 : LV RX0 40 RX0 yX0_tellingLayer := ⟨tw_dec (by decide +kernel), tw_dec (by decide +kernel), tw_dec (by decide +kernel)⟩
theorem mX0_44 : LV RX0 44 RX0 yX0_settle := ⟨tw_dec (by decide +kernel), tw_dec (by decide +kernel), tw_dec (by decide +kernel)⟩
theorem mX0_48 : LV RX0 48 RX0 yX0_entriesIn := ⟨tw_dec (by decide +kernel), tw_dec (by decide +kernel), tw_dec (by decide +kernel)⟩
theorem mX0_51 : LV RX0 51 RX0 yX0_swapWithNext := ⟨tw_dec (by decide +kernel), tw_dec (by decide +kernel), tw_dec (by decide +kernel)⟩
theorem mX0_55 : LV RX0 55 RX0 yX0_nowhereIn := ⟨tw_dec (by decide +kernel), tw_dec (by decide +kernel), tw_dec (by decide +kernel)⟩
theorem mX0_58 : LV RX0 58 RX0 yX0_shadowedIn := ⟨tw_dec (by decide +kernel), tw_dec (by decide +kernel), tw_dec (by decide +kernel)⟩
theorem mX1_37 : LSt RX1 37 yJ7_fill_53178 := ⟨tw_dec (by decide +kernel), tw_dec (by decide +kernel)⟩
theorem mX1_43 : LV RX1 43 RX1 yX1_readEntry := ⟨tw_dec (by decide +kernel), tw_dec (by decide +kernel), tw_dec (by decide +kernel)⟩
theorem mX1_47 : LV RX1 47 RX5 yX5_isAtEnd := ⟨tw_dec (by decide +kernel), tw_dec (by decide +kernel), tw_dec (by decide +kernel)⟩
theorem mX1_50 : LV RX1 50 RX5 yX5_take := ⟨tw_dec (by decide +kernel), tw_dec (by decide +kernel), tw_dec (by decide +kernel)⟩
theorem mX1_54 : LV RX1 54 RX5 yX5_takeKey := ⟨tw_dec (by decide +kernel), tw_dec (by decide +kernel), tw_dec (by decide +kernel)⟩
theorem mX1_62 : LV RX1 62 RX5 yX5_takeMap := ⟨tw_dec (by decide +kernel), tw_dec (by decide +kernel), tw_dec (by decide +kernel)⟩
theorem mX1_65 : LV RX1 65 RX1 yX1_readExpression := ⟨tw_dec (by decide +kernel), tw_dec (by decide +kernel), tw_dec (by decide +kernel)⟩
theorem mX1_69 : LV RX1 69 RX1 yX1_readFactor := ⟨tw_dec (by decide +kernel), tw_dec (by decide +kernel), tw_dec (by decide +kernel)⟩
theorem mX1_72 : LSt RX1 72 yX2_compose := ⟨tw_dec (by decide +kernel), tw_dec (by decide +kernel)⟩
theorem mX1_78 : LSt RX1 78 yX2_overlay := ⟨tw_dec (by decide +kernel), tw_dec (by decide +kernel)⟩
theorem mX1_95 : LSt RX1 95 yX2_copy := ⟨tw_dec (by decide +kernel), tw_dec (by decide +kernel)⟩
theorem mX1_101 : LV RX1 101 RX1 yX1_readSigns := ⟨tw_dec (by decide +kernel), tw_dec (by decide +kernel), tw_dec (by decide +kernel)⟩
theorem mX1_105 : LSt RX1 105 yX2_inverse := ⟨tw_dec (by decide +kernel), tw_dec (by decide +kernel)⟩
theorem mX1_109 : LV RX1 109 RX5 yX5_takeDigit := ⟨tw_dec (by decide +kernel), tw_dec (by decide +kernel), tw_dec (by decide +kernel)⟩
theorem mX1_112 : LSt RX1 112 yX2_power := ⟨tw_dec (by decide +kernel), tw_dec (by decide +kernel)⟩
theorem mX1_115 : LV RX1 115 RX5 yX5_takeKeySet := ⟨tw_dec (by decide +kernel), tw_dec (by decide +kernel), tw_dec (by decide +kernel)⟩
theorem mX1_118 : LSt RX1 118 yX2_restrict := ⟨tw_dec (by decide +kernel), tw_dec (by decide +kernel)⟩
theorem mX2_15 : LSt RX2 15 yX2_step := ⟨tw_dec (by decide +kernel), tw_dec (by decide +kernel)⟩
theorem mX2_21 : LSt RX2 21 yX2_walk := ⟨tw_dec (by decide +kernel), tw_dec (by decide +kernel)⟩
theorem mX2_25 : LSt RX2 25 yX2_cycleOf := ⟨tw_dec (by decide +kernel), tw_dec (by decide +kernel)⟩
theorem mX2_28 : LSt RX2 28 yX2_holes := ⟨tw_dec (by decide +kernel), tw_dec (by decide +kernel)⟩
theorem mX2_32 : LSt RX2 32 yJ6_bitCount_0f7a4 := ⟨tw_dec (by decide +kernel), tw_dec (by decide +kernel)⟩
theorem mX2_38 : LSt RX2 38 yX2_image := ⟨tw_dec (by decide +kernel), tw_dec (by decide +kernel)⟩
theorem mX2_47 : LSt RX2 47 yJ7_fill_53178 := ⟨tw_dec (by decide +kernel), tw_dec (by decide +kernel)⟩
theorem mX3_26 : LSt RX3 26 yX2_copy := ⟨tw_dec (by decide +kernel), tw_dec (by decide +kernel)⟩
theorem mX3_42 : LV RX3 42 RX3 yX3_isRunning := ⟨tw_dec (by decide +kernel), tw_dec (by decide +kernel), tw_dec (by decide +kernel)⟩
theorem mX3_46 : LV RX3 46 RX3 yX3_isSuspect := ⟨tw_dec (by decide +kernel), tw_dec (by decide +kernel), tw_dec (by decide +kernel)⟩
theorem mX3_49 : LSt RX3 49 yX2_difference := ⟨tw_dec (by decide +kernel), tw_dec (by decide +kernel)⟩
theorem mX3_53 : LV RX3 53 RX3 yX3_alikeUpTo := ⟨tw_dec (by decide +kernel), tw_dec (by decide +kernel), tw_dec (by decide +kernel)⟩
theorem mX3_63 : LV RX3 63 RX3 yX3_isBetter := ⟨tw_dec (by decide +kernel), tw_dec (by decide +kernel), tw_dec (by decide +kernel)⟩
theorem mX3_67 : LV RX3 67 RX3 yX3_greatestGroup := ⟨tw_dec (by decide +kernel), tw_dec (by decide +kernel), tw_dec (by decide +kernel)⟩
theorem mX3_71 : LV RX3 71 RX3 yX3_groups := ⟨tw_dec (by decide +kernel), tw_dec (by decide +kernel), tw_dec (by decide +kernel)⟩
theorem mX4_29 : LV RX4 29 RX0 yX0_copyFrom := ⟨tw_dec (by decide +kernel), tw_dec (by decide +kernel), tw_dec (by decide +kernel)⟩
theorem mX4_33 : LV RX4 33 RX3 yX3_copyFrom := ⟨tw_dec (by decide +kernel), tw_dec (by decide +kernel), tw_dec (by decide +kernel)⟩
theorem mX4_39 : LV RX4 39 RX0 yX0_allEntries := ⟨tw_dec (by decide +kernel), tw_dec (by decide +kernel), tw_dec (by decide +kernel)⟩
theorem mX4_43 : LV RX4 43 RX0 yX0_shadowed := ⟨tw_dec (by decide +kernel), tw_dec (by decide +kernel), tw_dec (by decide +kernel)⟩
theorem mX4_46 : LV RX4 46 RX4 yX4_repeatsLowerMap := ⟨tw_dec (by decide +kernel), tw_dec (by decide +kernel), tw_dec (by decide +kernel)⟩
theorem mX4_54 : LSt RX4 54 yX2_difference := ⟨tw_dec (by decide +kernel), tw_dec (by decide +kernel)⟩
theorem mX5_22 : LV RX5 22 RX5 yX5_isAtEnd := ⟨tw_dec (by decide +kernel), tw_dec (by decide +kernel), tw_dec (by decide +kernel)⟩
theorem mX5_26 : LV RX5 26 RX5 yX5_takeBetween := ⟨tw_dec (by decide +kernel), tw_dec (by decide +kernel), tw_dec (by decide +kernel)⟩
theorem mX5_30 : LV RX5 30 RX5 yX5_takeKey := ⟨tw_dec (by decide +kernel), tw_dec (by decide +kernel), tw_dec (by decide +kernel)⟩
theorem mX5_34 : LV RX5 34 RX5 yX5_take := ⟨tw_dec (by decide +kernel), tw_dec (by decide +kernel), tw_dec (by decide +kernel)⟩
theorem mX6_42 : LSt RX6 42 yX6_isMap := ⟨tw_dec (by decide +kernel), tw_dec (by decide +kernel)⟩
theorem mX6_46 : LV RX6 46 RX1 yX1_readLayer := ⟨tw_dec (by decide +kernel), tw_dec (by decide +kernel), tw_dec (by decide +kernel)⟩
theorem mX6_59 : LV RX6 59 RX6 yX6_record := ⟨tw_dec (by decide +kernel), tw_dec (by decide +kernel), tw_dec (by decide +kernel)⟩
theorem mX6_65 : LV RX6 65 RX0 yX0_addLayer := ⟨tw_dec (by decide +kernel), tw_dec (by decide +kernel), tw_dec (by decide +kernel)⟩
theorem mX6_69 : LV RX6 69 RX0 yX0_removeTop := ⟨tw_dec (by decide +kernel), tw_dec (by decide +kernel), tw_dec (by decide +kernel)⟩
theorem mX6_72 : LV RX6 72 RX6 yX6_isLayer := ⟨tw_dec (by decide +kernel), tw_dec (by decide +kernel), tw_dec (by decide +kernel)⟩
theorem mX6_80 : LV RX6 80 RX0 yX0_settle := ⟨tw_dec (by decide +kernel), tw_dec (by decide +kernel), tw_dec (by decide +kernel)⟩
theorem mX6_83 : LV RX6 83 RX0 yX0_moveLayer := ⟨tw_dec (by decide +kernel), tw_dec (by decide +kernel), tw_dec (by decide +kernel)⟩
theorem mX6_87 : LSt RX6 87 yX6_isKey := ⟨tw_dec (by decide +kernel), tw_dec (by decide +kernel)⟩
theorem mX6_94 : LV RX6 94 RX0 yX0_isFlat := ⟨tw_dec (by decide +kernel), tw_dec (by decide +kernel), tw_dec (by decide +kernel)⟩
theorem mX6_101 : LV RX6 101 RX0 yX0_becomeOneLayer := ⟨tw_dec (by decide +kernel), tw_dec (by decide +kernel), tw_dec (by decide +kernel)⟩
theorem mX6_105 : LV RX6 105 RX1 yX1_readAssignment := ⟨tw_dec (by decide +kernel), tw_dec (by decide +kernel), tw_dec (by decide +kernel)⟩
theorem mX6_119 : LV RX6 119 RX3 yX3_start := ⟨tw_dec (by decide +kernel), tw_dec (by decide +kernel), tw_dec (by decide +kernel)⟩
theorem mX6_125 : LSt RX6 125 yJ6_bitCount_0f7a4 := ⟨tw_dec (by decide +kernel), tw_dec (by decide +kernel)⟩
theorem mX6_131 : LV RX6 131 RX3 yX3_isRunning := ⟨tw_dec (by decide +kernel), tw_dec (by decide +kernel), tw_dec (by decide +kernel)⟩
theorem mX6_134 : LV RX6 134 RX3 yX3_answer := ⟨tw_dec (by decide +kernel), tw_dec (by decide +kernel), tw_dec (by decide +kernel)⟩
theorem mX6_141 : LV RX6 141 RX5 yX5_add := ⟨tw_dec (by decide +kernel), tw_dec (by decide +kernel), tw_dec (by decide +kernel)⟩
theorem mX6_150 : LV RX6 150 RX4 yX4_copyFrom := ⟨tw_dec (by decide +kernel), tw_dec (by decide +kernel), tw_dec (by decide +kernel)⟩
theorem mX6_154 : LV RX6 154 RX4 yX4_layers := ⟨tw_dec (by decide +kernel), tw_dec (by decide +kernel), tw_dec (by decide +kernel)⟩
theorem mX6_157 : LSt RX6 157 yX6_orNone := ⟨tw_dec (by decide +kernel), tw_dec (by decide +kernel)⟩
theorem mX6_160 : LV RX6 160 RX0 yX0_tellingLayer := ⟨tw_dec (by decide +kernel), tw_dec (by decide +kernel), tw_dec (by decide +kernel)⟩
theorem mX6_163 : LV RX6 163 RX0 yX0_layersOn := ⟨tw_dec (by decide +kernel), tw_dec (by decide +kernel), tw_dec (by decide +kernel)⟩
theorem mX6_166 : LSt RX6 166 yX2_holes := ⟨tw_dec (by decide +kernel), tw_dec (by decide +kernel)⟩
theorem mX6_171 : LSt RX6 171 yX2_image := ⟨tw_dec (by decide +kernel), tw_dec (by decide +kernel)⟩
theorem mX6_174 : LSt RX6 174 yX2_isOneToOne := ⟨tw_dec (by decide +kernel), tw_dec (by decide +kernel)⟩
theorem mX6_178 : LSt RX6 178 yX2_fixed := ⟨tw_dec (by decide +kernel), tw_dec (by decide +kernel)⟩
theorem mX6_181 : LV RX6 181 RX0 yX0_shadowed := ⟨tw_dec (by decide +kernel), tw_dec (by decide +kernel), tw_dec (by decide +kernel)⟩
theorem mX6_184 : LSt RX6 184 yX2_cyclic := ⟨tw_dec (by decide +kernel), tw_dec (by decide +kernel)⟩
theorem mX6_187 : LSt RX6 187 yX2_longestCycle := ⟨tw_dec (by decide +kernel), tw_dec (by decide +kernel)⟩
theorem mX6_190 : LV RX6 190 RX0 yX0_entriesIn := ⟨tw_dec (by decide +kernel), tw_dec (by decide +kernel), tw_dec (by decide +kernel)⟩
theorem mX6_193 : LV RX6 193 RX0 yX0_shadowedIn := ⟨tw_dec (by decide +kernel), tw_dec (by decide +kernel), tw_dec (by decide +kernel)⟩
theorem mX6_196 : LV RX6 196 RX0 yX0_nowhereIn := ⟨tw_dec (by decide +kernel), tw_dec (by decide +kernel), tw_dec (by decide +kernel)⟩
theorem mX6_199 : LSt RX6 199 yX2_stepsToHole := ⟨tw_dec (by decide +kernel), tw_dec (by decide +kernel)⟩
theorem mX6_203 : LSt RX6 203 yX2_stepsToSecondMeeting := ⟨tw_dec (by decide +kernel), tw_dec (by decide +kernel)⟩
theorem mX6_206 : LSt RX6 206 yX2_cycleMet := ⟨tw_dec (by decide +kernel), tw_dec (by decide +kernel)⟩
theorem mX6_210 : LSt RX6 210 yX2_walkFar := ⟨tw_dec (by decide +kernel), tw_dec (by decide +kernel)⟩
theorem mX6_214 : LSt RX6 214 yX2_difference := ⟨tw_dec (by decide +kernel), tw_dec (by decide +kernel)⟩
theorem mX6_218 : LV RX6 218 RX6 yX6_collectDifferences := ⟨tw_dec (by decide +kernel), tw_dec (by decide +kernel), tw_dec (by decide +kernel)⟩
theorem mX6_221 : LV RX6 221 RX6 yX6_leastSetOfSize := ⟨tw_dec (by decide +kernel), tw_dec (by decide +kernel), tw_dec (by decide +kernel)⟩
theorem mX6_232 : LV RX6 232 RX3 yX3_isFound := ⟨tw_dec (by decide +kernel), tw_dec (by decide +kernel), tw_dec (by decide +kernel)⟩
theorem mX6_235 : LSt RX6 235 yX6_aboutBestKey := ⟨tw_dec (by decide +kernel), tw_dec (by decide +kernel)⟩
theorem mX6_239 : LV RX6 239 RX3 yX3_groups := ⟨tw_dec (by decide +kernel), tw_dec (by decide +kernel), tw_dec (by decide +kernel)⟩
theorem mX6_242 : LV RX6 242 RX3 yX3_greatestGroup := ⟨tw_dec (by decide +kernel), tw_dec (by decide +kernel), tw_dec (by decide +kernel)⟩
theorem mX6_245 : LV RX6 245 RX4 yX4_entriesOfAll := ⟨tw_dec (by decide +kernel), tw_dec (by decide +kernel), tw_dec (by decide +kernel)⟩
theorem mX6_248 : LV RX6 248 RX4 yX4_shadowedOfAll := ⟨tw_dec (by decide +kernel), tw_dec (by decide +kernel), tw_dec (by decide +kernel)⟩
theorem mX6_251 : LV RX6 251 RX4 yX4_repeatedMaps := ⟨tw_dec (by decide +kernel), tw_dec (by decide +kernel), tw_dec (by decide +kernel)⟩
theorem mX6_254 : LV RX6 254 RX3 yX3_bestKey := ⟨tw_dec (by decide +kernel), tw_dec (by decide +kernel), tw_dec (by decide +kernel)⟩
theorem mX6_257 : LV RX6 257 RX6 yX6_dropOldest := ⟨tw_dec (by decide +kernel), tw_dec (by decide +kernel), tw_dec (by decide +kernel)⟩
theorem mX6_260 : LV RX6 260 RX6 yX6_tellsApart := ⟨tw_dec (by decide +kernel), tw_dec (by decide +kernel), tw_dec (by decide +kernel)⟩
theorem mX6_263 : LSt RX6 263 yX6_nextSetOfSameSize := ⟨tw_dec (by decide +kernel), tw_dec (by decide +kernel)⟩
theorem mX7_51 : LSt RX7 51 yX7_in := ⟨tw_dec (by decide +kernel), tw_dec (by decide +kernel)⟩
theorem mX7_55 : LSt RX7 55 yX7_noMap := ⟨tw_dec (by decide +kernel), tw_dec (by decide +kernel)⟩
theorem mX7_63 : LV RX7 63 RX7 yX7_isOn := ⟨tw_dec (by decide +kernel), tw_dec (by decide +kernel), tw_dec (by decide +kernel)⟩
theorem mX7_67 : LSt RX7 67 yX7_cell := ⟨tw_dec (by decide +kernel), tw_dec (by decide +kernel)⟩
theorem mX7_71 : LV RX7 71 RX7 yX7_teller := ⟨tw_dec (by decide +kernel), tw_dec (by decide +kernel), tw_dec (by decide +kernel)⟩
theorem mX7_75 : LV RX7 75 RX7 yX7_value := ⟨tw_dec (by decide +kernel), tw_dec (by decide +kernel), tw_dec (by decide +kernel)⟩
theorem mX7_78 : LV RX7 78 RX7 yX7_entries := ⟨tw_dec (by decide +kernel), tw_dec (by decide +kernel), tw_dec (by decide +kernel)⟩
theorem mX7_81 : LV RX7 81 RX7 yX7_isLayerText := ⟨tw_dec (by decide +kernel), tw_dec (by decide +kernel), tw_dec (by decide +kernel)⟩
theorem mX7_88 : LV RX7 88 RX7 yX7_record := ⟨tw_dec (by decide +kernel), tw_dec (by decide +kernel), tw_dec (by decide +kernel)⟩
theorem mX7_91 : LV RX7 91 RX7 yX7_noLayer := ⟨tw_dec (by decide +kernel), tw_dec (by decide +kernel), tw_dec (by decide +kernel)⟩
theorem mX7_94 : LV RX7 94 RX7 yX7_remembers := ⟨tw_dec (by decide +kernel), tw_dec (by decide +kernel), tw_dec (by decide +kernel)⟩
theorem mX7_98 : LV RX7 98 RX7 yX7_changed := ⟨tw_dec (by decide +kernel), tw_dec (by decide +kernel), tw_dec (by decide +kernel)⟩
theorem mX7_102 : LV RX7 102 RX7 yX7_swaps := ⟨tw_dec (by decide +kernel), tw_dec (by decide +kernel), tw_dec (by decide +kernel)⟩
theorem mX7_106 : LSt RX7 106 yX7_noKey := ⟨tw_dec (by decide +kernel), tw_dec (by decide +kernel)⟩
theorem mX7_109 : LV RX7 109 RX7 yX7_becomes := ⟨tw_dec (by decide +kernel), tw_dec (by decide +kernel), tw_dec (by decide +kernel)⟩
theorem mX7_113 : LV RX7 113 RX7 yX7_isExpressionText := ⟨tw_dec (by decide +kernel), tw_dec (by decide +kernel), tw_dec (by decide +kernel)⟩
theorem mX7_119 : LSt RX7 119 yX7_bits := ⟨tw_dec (by decide +kernel), tw_dec (by decide +kernel)⟩
theorem mX7_122 : LV RX7 122 RX7 yX7_known := ⟨tw_dec (by decide +kernel), tw_dec (by decide +kernel), tw_dec (by decide +kernel)⟩
theorem mX7_125 : LV RX7 125 RX7 yX7_isSuspect := ⟨tw_dec (by decide +kernel), tw_dec (by decide +kernel), tw_dec (by decide +kernel)⟩
theorem mX7_128 : LV RX7 128 RX7 yX7_groups := ⟨tw_dec (by decide +kernel), tw_dec (by decide +kernel), tw_dec (by decide +kernel)⟩
theorem mX7_134 : LV RX7 134 RX7 yX7_isSign := ⟨tw_dec (by decide +kernel), tw_dec (by decide +kernel), tw_dec (by decide +kernel)⟩
theorem mX7_137 : LV RX7 137 RX7 yX7_isBetween := ⟨tw_dec (by decide +kernel), tw_dec (by decide +kernel), tw_dec (by decide +kernel)⟩
theorem mX7_143 : LV RX7 143 RX7 yX7_takesKey := ⟨tw_dec (by decide +kernel), tw_dec (by decide +kernel), tw_dec (by decide +kernel)⟩
theorem mX7_146 : LV RX7 146 RX7 yX7_takes := ⟨tw_dec (by decide +kernel), tw_dec (by decide +kernel), tw_dec (by decide +kernel)⟩
theorem mX7_149 : LV RX7 149 RX7 yX7_settles := ⟨tw_dec (by decide +kernel), tw_dec (by decide +kernel), tw_dec (by decide +kernel)⟩
theorem mX7_155 : LV RX7 155 RX7 yX7_joins := ⟨tw_dec (by decide +kernel), tw_dec (by decide +kernel), tw_dec (by decide +kernel)⟩
theorem mX7_158 : LV RX7 158 RX7 yX7_inverts := ⟨tw_dec (by decide +kernel), tw_dec (by decide +kernel), tw_dec (by decide +kernel)⟩
theorem mX7_161 : LV RX7 161 RX7 yX7_repeats := ⟨tw_dec (by decide +kernel), tw_dec (by decide +kernel), tw_dec (by decide +kernel)⟩
theorem mX7_164 : LV RX7 164 RX7 yX7_takesSet := ⟨tw_dec (by decide +kernel), tw_dec (by decide +kernel), tw_dec (by decide +kernel)⟩
theorem mX7_167 : LV RX7 167 RX7 yX7_takesLetter := ⟨tw_dec (by decide +kernel), tw_dec (by decide +kernel), tw_dec (by decide +kernel)⟩
theorem mX7_170 : LV RX7 170 RX7 yX7_takesSigns := ⟨tw_dec (by decide +kernel), tw_dec (by decide +kernel), tw_dec (by decide +kernel)⟩
theorem mX7_173 : LV RX7 173 RX7 yX7_underlies := ⟨tw_dec (by decide +kernel), tw_dec (by decide +kernel), tw_dec (by decide +kernel)⟩
theorem mX7_180 : LV RX7 180 RX7 yX7_layers := ⟨tw_dec (by decide +kernel), tw_dec (by decide +kernel), tw_dec (by decide +kernel)⟩
theorem mX7_184 : LV RX7 184 RX7 yX7_returns := ⟨tw_dec (by decide +kernel), tw_dec (by decide +kernel), tw_dec (by decide +kernel)⟩
theorem mX7_187 : LV RX7 187 RX7 yX7_walks := ⟨tw_dec (by decide +kernel), tw_dec (by decide +kernel), tw_dec (by decide +kernel)⟩
theorem mX7_190 : LV RX7 190 RX7 yX7_cycle := ⟨tw_dec (by decide +kernel), tw_dec (by decide +kernel), tw_dec (by decide +kernel)⟩
theorem mX7_193 : LV RX7 193 RX7 yX7_onLayers := ⟨tw_dec (by decide +kernel), tw_dec (by decide +kernel), tw_dec (by decide +kernel)⟩
theorem mX7_196 : LV RX7 196 RX7 yX7_set := ⟨tw_dec (by decide +kernel), tw_dec (by decide +kernel), tw_dec (by decide +kernel)⟩
theorem mX7_199 : LV RX7 199 RX7 yX7_shadowed := ⟨tw_dec (by decide +kernel), tw_dec (by decide +kernel), tw_dec (by decide +kernel)⟩
theorem mX7_202 : LV RX7 202 RX7 yX7_longest := ⟨tw_dec (by decide +kernel), tw_dec (by decide +kernel), tw_dec (by decide +kernel)⟩
theorem mX7_206 : LV RX7 206 RX7 yX7_apart := ⟨tw_dec (by decide +kernel), tw_dec (by decide +kernel), tw_dec (by decide +kernel)⟩
theorem mX7_210 : LV RX7 210 RX7 yX7_isFound := ⟨tw_dec (by decide +kernel), tw_dec (by decide +kernel), tw_dec (by decide +kernel)⟩
theorem mX7_213 : LV RX7 213 RX7 yX7_bestKey := ⟨tw_dec (by decide +kernel), tw_dec (by decide +kernel), tw_dec (by decide +kernel)⟩
theorem mX7_216 : LV RX7 216 RX7 yX7_allEntries := ⟨tw_dec (by decide +kernel), tw_dec (by decide +kernel), tw_dec (by decide +kernel)⟩
theorem mX7_220 : LV RX7 220 RX7 yX7_twins := ⟨tw_dec (by decide +kernel), tw_dec (by decide +kernel), tw_dec (by decide +kernel)⟩
theorem mX1_58 : LN RX1 58 yX6_isKey RX6 := ⟨by simp [nests], tw_dec (by decide +kernel)⟩
theorem mX1_81 : LN RX1 81 yX6_isMap RX6 := ⟨by simp [nests], tw_dec (by decide +kernel)⟩
theorem mX2_53 : LN RX2 53 yX6_isKey RX6 := ⟨by simp [nests], tw_dec (by decide +kernel)⟩
theorem mX3_38 : LN RX3 38 yX6_isMap RX6 := ⟨by simp [nests], tw_dec (by decide +kernel)⟩
theorem kJ6_265 : Cond.constant RJ6 265 (1431655765) ∈ TWg := tw_dec (by decide +kernel)
theorem kJ6_266 : Cond.constant RJ6 266 (858993459) ∈ TWg := tw_dec (by decide +kernel)
theorem kJ6_267 : Cond.constant RJ6 267 (252645135) ∈ TWg := tw_dec (by decide +kernel)
theorem kX6_209 : Cond.constant RX6 209 (1000000) ∈ TWg := tw_dec (by decide +kernel)
theorem kX6_225 : Cond.constant RX6 225 (65535) ∈ TWg := tw_dec (by decide +kernel)
theorem kX6_266 : Cond.constant RX6 266 (65536) ∈ TWg := tw_dec (by decide +kernel)
theorem kX7_205 : Cond.constant RX7 205 (1000000) ∈ TWg := tw_dec (by decide +kernel)
theorem kX7_209 : Cond.constant RX7 209 (65535) ∈ TWg := tw_dec (by decide +kernel)
end
section
/-! MY OWN LAYER: one memory of two functions (ints, references) over fixed shapes; a walk is told of it alone (WX), a method's contract too (CtI, CtV). -/
theorem tw_good : ∀ w ∈ TWg, (w.onTables && w.keeps) = true ∨ ∃ ty, w = .arrayClass ty := fun w h => good_of_word (List.mem_filter.mp h).2
def TWs (y : MethodName) (cc : ByteArray) (maxL : Nat) (ret : Option FieldType) : List Cond := .code y cc maxL ret :: TWg
theorem tw_sub {y : MethodName} {cc : ByteArray} {maxL : Nat} {ret : Option FieldType} (h : Cond.code y cc maxL ret ∈ TWg) : GoodIn TWg (TWs y cc maxL ret) := by
  intro w hw
  rcases List.mem_cons.mp hw with rfl | h2
  · exact ⟨h, tw_good _ h⟩
  · exact ⟨h2, tw_good _ h2⟩
abbrev Shp : Type := (ClassId × FieldType × Nat) ⊕ Nat
abbrev IM : Type := Nat → Nat → Int32
abbrev JM : Type := Nat → Nat → Option Nat
abbrev SM : Type := Nat → Option Shp
/-- which fields of a class of vwCl are references -/
def fK : Nat → List Bool
  | 0 => [true, true, true, false]
  | 1 => [true, true, true, true, false]
  | 2 => [true, false, false, false]
  | 3 => [true, true, false]
  | 4 => [true, false, false]
  | 5 => [true, true, true, true, true, false, false]
  | _ => [true, true, false, true, false, true, true, false, true, false, false, false, true, true, true, true, true, false, true, true]
def gmF (ci : Nat) (I : IM) (J : JM) (a : Nat) : List Value := (List.range (fK ci).length).map (fun k => if (fK ci).getD k false = true then va_rf (J a k) else .int (I a k))
def gmE (I : IM) (J : JM) (a : Nat) : Shp → va_E
  | .inl (cA, ty, n) => .inl (cA, n, if refKind ty = true then .inr (.inr (.inr (.inr (J a)))) else .inl (I a))
  | .inr ci => .inr (ci, gmF ci I J a)
def AKs (s : State) : Shp → Prop
  | .inl (cA, ty, _) => ArrOfT s cA ty ∧ va_RA s cA ty
  | .inr _ => True
theorem AKs.moved {u U : State} (hvm : u.vm.Alike U.vm) {sh : Shp} (h : AKs u sh) : AKs U sh := by
  rcases sh with ⟨cA, ty, n⟩ | ci
  · exact ⟨arrOfT_moved hvm h.1, h.2.moved hvm⟩
  · trivial
def HG (s : State) (D : va_G) (A : Nat → Prop) (N : Nat) (Sh : SM) (I : IM) (J : JM) (H : Heap) : Prop :=
  H.size = N ∧ ∀ a sh, Sh a = some sh → va_at D vwCl (a, gmE I J a sh) H ∧ A a ∧ AKs s sh
theorem HG.moved {u U : State} (hvm : u.vm.Alike U.vm) {D : va_G} {A : Nat → Prop} {N : Nat} {Sh : SM} {I : IM} {J : JM} {H : Heap} (h : HG u D A N Sh I J H) : HG U D A N Sh I J H :=
  ⟨h.1, fun a sh hs => ⟨(h.2 a sh hs).1, (h.2 a sh hs).2.1, (h.2 a sh hs).2.2.moved hvm⟩⟩
def KN (D : va_G) (U : State) : Prop := ∀ (c : Nat) (q : vw_C), vwCl[c]? = some q → u_Kn U q.1 q.2.1 q.2.2 (D.1 c) (D.2 c)
theorem KN.moved {D : va_G} {u U : State} (hvm : u.vm.Alike U.vm) (h : KN D u) : KN D U := fun c q hq => u_Kn_moved hvm (h c q hq)
def NW (U : State) : Prop := ∀ q ∈ nests, va_Nw (.methodLinkNest q.1 q.2.1 q.2.2.1 q.2.2.2) U
theorem NW.warm {s U : State} (hW : s.WarmedH U.vm) (h : NW s) : NW U := fun q hq => va_Nw.warmM hW (h q hq)
theorem NW.same {u U : State} (hv : u.vm = U.vm) (h : NW u) : NW U := fun q hq => va_Nw.same rfl hv (h q hq)
abbrev CxA : Type := Program × Launch × Env × Room × State × MethodId × Array Value × List Frame × Method × Code
abbrev Cx : Type := CxA × va_G × (Nat → Prop) × (State → Prop)
def rmD (d : Nat) : Room := { frames := d, cells := 0, slots := 0, locals := 40 * d }
/-- what holds all along a walk: the machine, the code, the words, the classes -/
def XK (X : Cx) (own : String) (cc : ByteArray) (nL : Nat) (d : Nat) : Prop :=
  X.1.1.tables.exec = Jvm.exec ∧ X.1.2.2.2.2.2.2.2.2.2.code = cc ∧ X.1.2.2.2.2.2.2.2.2.2.maxLocals = nL ∧ X.1.2.2.2.2.1.vm.findClass own = some X.1.2.2.2.2.2.1.cls ∧ (∀ w ∈ TWg, w.before X.1.2.2.2.2.2.2.1 X.1.2.2.2.2.1 = true) ∧ KN X.2.1 X.1.2.2.2.2.1 ∧ NW X.1.2.2.2.2.1 ∧ X.1.2.2.2.1.frames = d ∧ X.1.2.2.2.1.locals = 40 * d
def WX (X : Cx) (k n N : Nat) (Sh : SM) (I : IM) (J : JM) (pc : Nat) (l : List (Nat × Value)) (st : List Value) : Prop :=
  ∀ (H : Heap) (locs : List Loc) (ls : Array Slot), HG X.1.2.2.2.2.1 X.2.1 X.2.2.1 N Sh I J H → va_S X.2.2.1 X.1.2.2.2.2.1.heap H locs → lv_has ls X.1.2.2.2.2.2.2.2.2.2.maxLocals l →
    W X.1.1 X.1.2.1 X.1.2.2.1 X.1.2.2.2.1 X.1.2.2.2.2.1 X.1.2.2.2.2.2.1 X.1.2.2.2.2.2.2.1 X.1.2.2.2.2.2.2.2.1 X.1.2.2.2.2.2.2.2.2.1 X.1.2.2.2.2.2.2.2.2.2 H locs k n X.2.2.2 (F0 X.1.2.2.2.2.2.1 pc ls st)
def lget : List (Nat × Value) → Nat → Option Value
  | [], _ => none
  | q :: r, i => bif Nat.beq q.1 i then some q.2 else lget r i
theorem lget_mem : ∀ {l : List (Nat × Value)} {i : Nat} {v : Value}, lget l i = some v → (i, v) ∈ l
  | [], _, _, h => by cases h
  | q :: r, i, v, h => by
    unfold lget at h
    cases hb : Nat.beq q.1 i with
    | true =>
      rw [hb] at h
      have h1 : q.2 = v := Option.some.inj h
      have h2 := Nat.eq_of_beq_eq_true hb
      rw [← h1, ← h2]
      exact List.mem_cons_self
    | false =>
      rw [hb] at h
      exact List.mem_cons_of_mem _ (lget_mem h)
def lkeep (i : Nat) (q : Nat × Value) : Bool := !(q.1 == i) && !(q.1 + 1 == i && q.2.category == 2)
def ldel : List (Nat × Value) → Nat → List (Nat × Value)
  | [], _ => []
  | q :: r, i => bif Nat.beq q.1 i then ldel r i else bif (Nat.beq (q.1 + 1) i && Nat.beq q.2.category 2) then ldel r i else q :: ldel r i
def lput : List (Nat × Value) → Nat → Value → List (Nat × Value)
  | [], i, v => [(i, v)]
  | q :: r, i, v => bif Nat.beq q.1 i then (i, v) :: ldel r i else bif (Nat.beq (q.1 + 1) i && Nat.beq q.2.category 2) then lput r i v else q :: lput r i v
theorem lkeep_of {i : Nat} {q : Nat × Value} (h1 : Nat.beq q.1 i = false) (h2 : (Nat.beq (q.1 + 1) i && Nat.beq q.2.category 2) = false) : (!(q.1 == i) && !(q.1 + 1 == i && q.2.category == 2)) = true := by
  have hq : ∀ a b : Nat, (a == b) = Nat.beq a b := fun a b => by
    cases h : Nat.beq a b with
    | true => rw [Nat.eq_of_beq_eq_true h]; simp
    | false => simpa using Nat.ne_of_beq_eq_false h
  have e1 : (q.1 == i) = false := (hq _ _).trans h1
  have e2 : (q.1 + 1 == i && q.2.category == 2) = false := by rw [hq, hq]; exact h2
  rw [e1, e2]
  rfl
theorem ldel_mem : ∀ {l : List (Nat × Value)} {i : Nat} {q : Nat × Value}, q ∈ ldel l i → q ∈ l ∧ (!(q.1 == i) && !(q.1 + 1 == i && q.2.category == 2)) = true
  | [], _, _, h => by cases h
  | x :: r, i, q, h => by
    unfold ldel at h
    cases hb : Nat.beq x.1 i with
    | true =>
      rw [hb] at h
      have := ldel_mem (l := r) h
      exact ⟨List.mem_cons_of_mem _ this.1, this.2⟩
    | false =>
      rw [hb] at h
      cases hc : (Nat.beq (x.1 + 1) i && Nat.beq x.2.category 2) with
      | true =>
        rw [hc] at h
        have := ldel_mem (l := r) h
        exact ⟨List.mem_cons_of_mem _ this.1, this.2⟩
      | false =>
        rw [hc] at h
        rcases List.mem_cons.mp h with e | h
        · rw [e]
          exact ⟨List.mem_cons_self, lkeep_of hb hc⟩
        · have := ldel_mem (l := r) h
          exact ⟨List.mem_cons_of_mem _ this.1, this.2⟩
theorem lput_mem : ∀ {l : List (Nat × Value)} {i : Nat} {v : Value} {q : Nat × Value}, q ∈ lput l i v → q ∈ (i, v) :: l.filter (fun q => !(q.1 == i) && !(q.1 + 1 == i && q.2.category == 2))
  | [], _, _, _, h => h
  | x :: r, i, v, q, h => by
    unfold lput at h
    cases hb : Nat.beq x.1 i with
    | true =>
      rw [hb] at h
      rcases List.mem_cons.mp h with e | h
      · rw [e]
        exact List.mem_cons_self
      · have := ldel_mem h
        exact List.mem_cons_of_mem _ (List.mem_filter.mpr ⟨List.mem_cons_of_mem _ this.1, this.2⟩)
    | false =>
      rw [hb] at h
      cases hc : (Nat.beq (x.1 + 1) i && Nat.beq x.2.category 2) with
      | true =>
        rw [hc] at h
        rcases List.mem_cons.mp (lput_mem (l := r) h) with e | h
        · rw [e]
          exact List.mem_cons_self
        · exact List.mem_cons_of_mem _ (List.mem_filter.mpr ⟨List.mem_cons_of_mem _ (List.mem_filter.mp h).1, (List.mem_filter.mp h).2⟩)
      | false =>
        rw [hc] at h
        rcases List.mem_cons.mp h with e | h
        · rw [e]
          exact List.mem_cons_of_mem _ (List.mem_filter.mpr ⟨List.mem_cons_self, lkeep_of hb hc⟩)
        · rcases List.mem_cons.mp (lput_mem (l := r) h) with e | h
          · rw [e]
            exact List.mem_cons_self
          · exact List.mem_cons_of_mem _ (List.mem_filter.mpr ⟨List.mem_cons_of_mem _ (List.mem_filter.mp h).1, (List.mem_filter.mp h).2⟩)
theorem lv_put {ls : Array Slot} {nL i : Nat} {v : Value} {l : List (Nat × Value)} (h : lv_has ls nL ((i, v) :: l.filter (fun q => !(q.1 == i) && !(q.1 + 1 == i && q.2.category == 2)))) : lv_has ls nL (lput l i v) :=
  ⟨h.1, h.2.1, fun q hq => h.2.2 q (lput_mem hq)⟩
theorem lv_less {ls : Array Slot} {nL : Nat} {l l' : List (Nat × Value)} (h : lv_has ls nL l) (hs : ∀ q ∈ l', lget l q.1 = some q.2) : lv_has ls nL l' :=
  ⟨h.1, h.2.1, fun q hq => h.2.2 (q.1, q.2) (lget_mem (hs q hq))⟩
section WXR
variable {X : Cx} {own : String} {cc : ByteArray} {nL d : Nat} {k n N : Nat} {Sh : SM} {I : IM} {J : JM} {pc : Nat} {l : List (Nat × Value)} {st : List Value}
/-- fewer listed locals, in another order -/
theorem wx_loc {l' : List (Nat × Value)} (hs : ∀ q ∈ l', lget l q.1 = some q.2) (kk : WX X k n N Sh I J pc l' st) : WX X k n N Sh I J pc l st :=
  fun H locs ls h1 h2 h3 => kk H locs ls h1 h2 (lv_less h3 hs)
theorem wx_pc {pc' : Nat} (e : pc' = pc) (kk : WX X k n N Sh I J pc l st) : WX X k n N Sh I J pc' l st := e ▸ kk
theorem wx_st {st' : List Value} (e : st' = st) (kk : WX X k n N Sh I J pc l st) : WX X k n N Sh I J pc l st' := e ▸ kk
theorem wa_iconst (hX : XK X own cc nL d) {n1 : Int} {v : Int32} (hd : decode cc pc = .ok (.iconst n1, 1)) (hv : Int32.ofInt n1 = v) (kk : WX X k n N Sh I J (pc + 1) l (.int v :: st)) : WX X k n N Sh I J pc l st :=
  fun H locs ls h1 h2 h3 => lv_iconst hX.1 hX.2.1 hd hv (kk H locs ls h1 h2 h3)
theorem wa_bipush (hX : XK X own cc nL d) {n1 : Int} {v : Int32} (hd : decode cc pc = .ok (.bipush n1, 2)) (hv : (Int8.ofInt n1).toInt32 = v) (kk : WX X k n N Sh I J (pc + 2) l (.int v :: st)) : WX X k n N Sh I J pc l st :=
  fun H locs ls h1 h2 h3 => lv_bipush hX.1 hX.2.1 hd hv (kk H locs ls h1 h2 h3)
theorem wa_sipush (hX : XK X own cc nL d) {n1 : Int} {v : Int32} (hd : decode cc pc = .ok (.sipush n1, 3)) (hv : (Int16.ofInt n1).toInt32 = v) (kk : WX X k n N Sh I J (pc + 3) l (.int v :: st)) : WX X k n N Sh I J pc l st :=
  fun H locs ls h1 h2 h3 => lv_sipush hX.1 hX.2.1 hd hv (kk H locs ls h1 h2 h3)
theorem wa_ldc (hX : XK X own cc nL d) {index : Nat} {v : Int32} (hc : Cond.constant own index v ∈ TWg) (hd : decode cc pc = .ok (.ldc index, 2)) (kk : WX X k n N Sh I J (pc + 2) l (.int v :: st)) : WX X k n N Sh I J pc l st :=
  fun H locs ls h1 h2 h3 => lv_ldc hX.1 hX.2.1 hX.2.2.2.1 (hX.2.2.2.2.1 _ hc) hd (kk H locs ls h1 h2 h3)
theorem wa_iload_n (hX : XK X own cc nL d) {q : Fin 4} {x : Int32} (hd : decode cc pc = .ok (.iload_n q, 1)) (hl : lget l q.val = some (.int x)) (kk : WX X k n N Sh I J (pc + 1) l (.int x :: st)) : WX X k n N Sh I J pc l st :=
  fun H locs ls h1 h2 h3 => lv_iload_n hX.1 hX.2.1 hd rfl (h3.2.2 _ (lget_mem hl)) (kk H locs ls h1 h2 h3)
theorem wa_iload (hX : XK X own cc nL d) {q : Nat} {x : Int32} (hd : decode cc pc = .ok (.iload q, 2)) (hl : lget l q = some (.int x)) (kk : WX X k n N Sh I J (pc + 2) l (.int x :: st)) : WX X k n N Sh I J pc l st :=
  fun H locs ls h1 h2 h3 => lv_iload hX.1 hX.2.1 hd (h3.2.2 _ (lget_mem hl)) (kk H locs ls h1 h2 h3)
theorem wa_aload_n (hX : XK X own cc nL d) {q : Fin 4} {x : Nat} (hd : decode cc pc = .ok (.aload_n q, 1)) (hl : lget l q.val = some (.ref x)) (kk : WX X k n N Sh I J (pc + 1) l (.ref x :: st)) : WX X k n N Sh I J pc l st :=
  fun H locs ls h1 h2 h3 => lv_aload_n hX.1 hX.2.1 hd rfl (h3.2.2 _ (lget_mem hl)) (kk H locs ls h1 h2 h3)
theorem wa_aload (hX : XK X own cc nL d) {q : Nat} {x : Nat} (hd : decode cc pc = .ok (.aload q, 2)) (hl : lget l q = some (.ref x)) (kk : WX X k n N Sh I J (pc + 2) l (.ref x :: st)) : WX X k n N Sh I J pc l st :=
  fun H locs ls h1 h2 h3 => lv_aload hX.1 hX.2.1 hd (h3.2.2 _ (lget_mem hl)) (kk H locs ls h1 h2 h3)
theorem wa_istore_n (hX : XK X own cc nL d) {q : Fin 4} {x : Int32} (hd : decode cc pc = .ok (.istore_n q, 1)) (hn : q.val < nL) (kk : WX X k n N Sh I J (pc + 1) (lput l q.val (.int x)) st) : WX X k n N Sh I J pc l (.int x :: st) :=
  fun H locs ls h1 h2 h3 => lv_istore_n hX.1 hX.2.1 hd rfl h3 (by rw [hX.2.2.1]; exact hn) rfl (fun ls' h4 => kk H locs ls' h1 h2 (lv_put h4))
theorem wa_istore (hX : XK X own cc nL d) {q : Nat} {x : Int32} (hd : decode cc pc = .ok (.istore q, 2)) (hn : q < nL) (kk : WX X k n N Sh I J (pc + 2) (lput l q (.int x)) st) : WX X k n N Sh I J pc l (.int x :: st) :=
  fun H locs ls h1 h2 h3 => lv_istore hX.1 hX.2.1 hd h3 (by rw [hX.2.2.1]; exact hn) rfl (fun ls' h4 => kk H locs ls' h1 h2 (lv_put h4))
theorem wa_astore_n (hX : XK X own cc nL d) {q : Fin 4} {x : Nat} (hd : decode cc pc = .ok (.astore_n q, 1)) (hn : q.val < nL) (kk : WX X k n N Sh I J (pc + 1) (lput l q.val (.ref x)) st) : WX X k n N Sh I J pc l (.ref x :: st) :=
  fun H locs ls h1 h2 h3 => lv_astore_n hX.1 hX.2.1 hd rfl h3 (by rw [hX.2.2.1]; exact hn) rfl (fun ls' h4 => kk H locs ls' h1 h2 (lv_put h4))
theorem wa_astore (hX : XK X own cc nL d) {q : Nat} {x : Nat} (hd : decode cc pc = .ok (.astore q, 2)) (hn : q < nL) (kk : WX X k n N Sh I J (pc + 2) (lput l q (.ref x)) st) : WX X k n N Sh I J pc l (.ref x :: st) :=
  fun H locs ls h1 h2 h3 => lv_astore hX.1 hX.2.1 hd h3 (by rw [hX.2.2.1]; exact hn) rfl (fun ls' h4 => kk H locs ls' h1 h2 (lv_put h4))
theorem lget_ix : ∀ {l : List (Nat × Value)} {i : Nat} {v : Value}, lget l i = some v → ∃ j : Nat, l[j]? = some (i, v)
  | l, i, v, h => List.mem_iff_getElem?.mp (lget_mem h)
theorem wa_iinc (hX : XK X own cc nL d) {q : Nat} {n1 : Int} {x v : Int32} (hd : decode cc pc = .ok (.iinc q n1, 3)) (hl : lget l q = some (.int x)) (hv : x + Int32.ofInt n1 = v) (hn : q < nL) (kk : WX X k n N Sh I J (pc + 3) (lput l q (.int v)) st) : WX X k n N Sh I J pc l st :=
  fun H locs ls h1 h2 h3 => by
    obtain ⟨j, hj⟩ := lget_ix hl
    exact lv_iinc hX.1 hX.2.1 hd h3 hj hv (by rw [hX.2.2.1]; exact hn) rfl (fun ls' h4 => kk H locs ls' h1 h2 (lv_put h4))
theorem wa_iadd (hX : XK X own cc nL d) {x y : Int32} (hd : decode cc pc = .ok (.iadd, 1)) (kk : WX X k n N Sh I J (pc + 1) l (.int (x + y) :: st)) : WX X k n N Sh I J pc l (.int y :: .int x :: st) :=
  fun H locs ls h1 h2 h3 => lv_iadd hX.1 hX.2.1 hd (kk H locs ls h1 h2 h3)
theorem wa_isub (hX : XK X own cc nL d) {x y : Int32} (hd : decode cc pc = .ok (.isub, 1)) (kk : WX X k n N Sh I J (pc + 1) l (.int (x - y) :: st)) : WX X k n N Sh I J pc l (.int y :: .int x :: st) :=
  fun H locs ls h1 h2 h3 => lv_isub hX.1 hX.2.1 hd (kk H locs ls h1 h2 h3)
theorem wa_imul (hX : XK X own cc nL d) {x y : Int32} (hd : decode cc pc = .ok (.imul, 1)) (kk : WX X k n N Sh I J (pc + 1) l (.int (x * y) :: st)) : WX X k n N Sh I J pc l (.int y :: .int x :: st) :=
  fun H locs ls h1 h2 h3 => lv_imul hX.1 hX.2.1 hd (kk H locs ls h1 h2 h3)
theorem wa_iand (hX : XK X own cc nL d) {x y : Int32} (hd : decode cc pc = .ok (.iand, 1)) (kk : WX X k n N Sh I J (pc + 1) l (.int (x &&& y) :: st)) : WX X k n N Sh I J pc l (.int y :: .int x :: st) :=
  fun H locs ls h1 h2 h3 => lv_iand hX.1 hX.2.1 hd (kk H locs ls h1 h2 h3)
theorem wa_ior (hX : XK X own cc nL d) {x y : Int32} (hd : decode cc pc = .ok (.ior, 1)) (kk : WX X k n N Sh I J (pc + 1) l (.int (x ||| y) :: st)) : WX X k n N Sh I J pc l (.int y :: .int x :: st) :=
  fun H locs ls h1 h2 h3 => lv_ior hX.1 hX.2.1 hd (kk H locs ls h1 h2 h3)
theorem wa_ixor (hX : XK X own cc nL d) {x y : Int32} (hd : decode cc pc = .ok (.ixor, 1)) (kk : WX X k n N Sh I J (pc + 1) l (.int (x ^^^ y) :: st)) : WX X k n N Sh I J pc l (.int y :: .int x :: st) :=
  fun H locs ls h1 h2 h3 => lv_ixor hX.1 hX.2.1 hd (kk H locs ls h1 h2 h3)
theorem wa_ineg (hX : XK X own cc nL d) {x : Int32} (hd : decode cc pc = .ok (.ineg, 1)) (kk : WX X k n N Sh I J (pc + 1) l (.int (-x) :: st)) : WX X k n N Sh I J pc l (.int x :: st) :=
  fun H locs ls h1 h2 h3 => lv_ineg hX.1 hX.2.1 hd (kk H locs ls h1 h2 h3)
theorem wa_idiv (hX : XK X own cc nL d) {x y : Int32} (hd : decode cc pc = .ok (.idiv, 1)) (hne : ¬ y = 0) (kk : WX X k n N Sh I J (pc + 1) l (.int (x / y) :: st)) : WX X k n N Sh I J pc l (.int y :: .int x :: st) :=
  fun H locs ls h1 h2 h3 => lv_idiv hX.1 hX.2.1 hd hne (kk H locs ls h1 h2 h3)
theorem wa_irem (hX : XK X own cc nL d) {x y : Int32} (hd : decode cc pc = .ok (.irem, 1)) (hne : ¬ y = 0) (kk : WX X k n N Sh I J (pc + 1) l (.int (x - x / y * y) :: st)) : WX X k n N Sh I J pc l (.int y :: .int x :: st) :=
  fun H locs ls h1 h2 h3 => lv_irem hX.1 hX.2.1 hd hne (kk H locs ls h1 h2 h3)
theorem wa_ishl (hX : XK X own cc nL d) {x y : Int32} (hd : decode cc pc = .ok (.ishl, 1)) (kk : WX X k n N Sh I J (pc + 1) l (.int (x <<< (y &&& 31)) :: st)) : WX X k n N Sh I J pc l (.int y :: .int x :: st) :=
  fun H locs ls h1 h2 h3 => lv_ishl hX.1 hX.2.1 hd (kk H locs ls h1 h2 h3)
theorem wa_ishr (hX : XK X own cc nL d) {x y : Int32} (hd : decode cc pc = .ok (.ishr, 1)) (kk : WX X k n N Sh I J (pc + 1) l (.int (x >>> (y &&& 31)) :: st)) : WX X k n N Sh I J pc l (.int y :: .int x :: st) :=
  fun H locs ls h1 h2 h3 => lv_ishr hX.1 hX.2.1 hd (kk H locs ls h1 h2 h3)
theorem wa_dup (hX : XK X own cc nL d) {v : Value} (hd : decode cc pc = .ok (.dup, 1)) (hv : v.category = 1) (kk : WX X k n N Sh I J (pc + 1) l (v :: v :: st)) : WX X k n N Sh I J pc l (v :: st) :=
  fun H locs ls h1 h2 h3 => lv_dup hX.1 hX.2.1 hd hv (kk H locs ls h1 h2 h3)
theorem wa_pop (hX : XK X own cc nL d) {v : Value} (hd : decode cc pc = .ok (.pop, 1)) (hv : v.category = 1) (kk : WX X k n N Sh I J (pc + 1) l st) : WX X k n N Sh I J pc l (v :: st) :=
  fun H locs ls h1 h2 h3 => lv_pop hX.1 hX.2.1 hd hv (kk H locs ls h1 h2 h3)
theorem wa_goto (hX : XK X own cc nL d) {off : Int} {tgt : Nat} (hd : decode cc pc = .ok (.goto off, 3)) (ht : (pc : Int) + off = (tgt : Int)) (kk : WX X k n N Sh I J tgt l st) : WX X k n N Sh I J pc l st :=
  fun H locs ls h1 h2 h3 => lv_goto hX.1 hX.2.1 hd ht (kk H locs ls h1 h2 h3)
theorem wa_tabIn (hX : XK X own cc nL d) {dflt lo hi : Int} {offs : Array Int} {len : Nat} {x : Int32} {off : Int} {tgt : Nat} (hd : decode cc pc = .ok (.tableswitch dflt lo hi offs, len)) (h1 : ¬ x.toInt < lo) (h2 : ¬ hi < x.toInt) (ho : offs[(x.toInt - lo).toNat]? = some off) (ht : (pc : Int) + off = (tgt : Int)) (kk : WX X k n N Sh I J tgt l st) : WX X k n N Sh I J pc l (.int x :: st) :=
  fun H locs ls g1 g2 g3 => lv_tableIn hX.1 hX.2.1 hd h1 h2 ho ht (kk H locs ls g1 g2 g3)
theorem wa_tabOut (hX : XK X own cc nL d) {dflt lo hi : Int} {offs : Array Int} {len : Nat} {x : Int32} {tgt : Nat} (hd : decode cc pc = .ok (.tableswitch dflt lo hi offs, len)) (h : x.toInt < lo ∨ hi < x.toInt) (ht : (pc : Int) + dflt = (tgt : Int)) (kk : WX X k n N Sh I J tgt l st) : WX X k n N Sh I J pc l (.int x :: st) :=
  fun H locs ls g1 g2 g3 => lv_tableOut hX.1 hX.2.1 hd h ht (kk H locs ls g1 g2 g3)
theorem wa_if_eq (hX : XK X own cc nL d) {x : Int32} {off : Int} {tgt : Nat} (hd : decode cc pc = .ok (.ifCond .eq off, 3)) (ht : (pc : Int) + off = (tgt : Int)) (kt : x = 0 → WX X k n N Sh I J tgt l st) (kf : ¬ (x = 0) → WX X k n N Sh I J (pc + 3) l st) : WX X k n N Sh I J pc l (.int x :: st) :=
  fun H locs ls h1 h2 h3 => lv_if_eq hX.1 hX.2.1 hd ht (fun h => kt h H locs ls h1 h2 h3) (fun h => kf h H locs ls h1 h2 h3)
theorem wa_icmp_eq (hX : XK X own cc nL d) {x y : Int32} {off : Int} {tgt : Nat} (hd : decode cc pc = .ok (.if_icmp .eq off, 3)) (ht : (pc : Int) + off = (tgt : Int)) (kt : x = y → WX X k n N Sh I J tgt l st) (kf : ¬ (x = y) → WX X k n N Sh I J (pc + 3) l st) : WX X k n N Sh I J pc l (.int y :: .int x :: st) :=
  fun H locs ls h1 h2 h3 => lv_icmp_eq hX.1 hX.2.1 hd ht (fun h => kt h H locs ls h1 h2 h3) (fun h => kf h H locs ls h1 h2 h3)
theorem wa_if_ne (hX : XK X own cc nL d) {x : Int32} {off : Int} {tgt : Nat} (hd : decode cc pc = .ok (.ifCond .ne off, 3)) (ht : (pc : Int) + off = (tgt : Int)) (kt : ¬ x = 0 → WX X k n N Sh I J tgt l st) (kf : x = 0 → WX X k n N Sh I J (pc + 3) l st) : WX X k n N Sh I J pc l (.int x :: st) :=
  fun H locs ls h1 h2 h3 => lv_if_ne hX.1 hX.2.1 hd ht (fun h => kt h H locs ls h1 h2 h3) (fun h => kf h H locs ls h1 h2 h3)
theorem wa_icmp_ne (hX : XK X own cc nL d) {x y : Int32} {off : Int} {tgt : Nat} (hd : decode cc pc = .ok (.if_icmp .ne off, 3)) (ht : (pc : Int) + off = (tgt : Int)) (kt : ¬ x = y → WX X k n N Sh I J tgt l st) (kf : x = y → WX X k n N Sh I J (pc + 3) l st) : WX X k n N Sh I J pc l (.int y :: .int x :: st) :=
  fun H locs ls h1 h2 h3 => lv_icmp_ne hX.1 hX.2.1 hd ht (fun h => kt h H locs ls h1 h2 h3) (fun h => kf h H locs ls h1 h2 h3)
theorem wa_if_lt (hX : XK X own cc nL d) {x : Int32} {off : Int} {tgt : Nat} (hd : decode cc pc = .ok (.ifCond .lt off, 3)) (ht : (pc : Int) + off = (tgt : Int)) (kt : x < 0 → WX X k n N Sh I J tgt l st) (kf : ¬ (x < 0) → WX X k n N Sh I J (pc + 3) l st) : WX X k n N Sh I J pc l (.int x :: st) :=
  fun H locs ls h1 h2 h3 => lv_if_lt hX.1 hX.2.1 hd ht (fun h => kt h H locs ls h1 h2 h3) (fun h => kf h H locs ls h1 h2 h3)
theorem wa_icmp_lt (hX : XK X own cc nL d) {x y : Int32} {off : Int} {tgt : Nat} (hd : decode cc pc = .ok (.if_icmp .lt off, 3)) (ht : (pc : Int) + off = (tgt : Int)) (kt : x < y → WX X k n N Sh I J tgt l st) (kf : ¬ (x < y) → WX X k n N Sh I J (pc + 3) l st) : WX X k n N Sh I J pc l (.int y :: .int x :: st) :=
  fun H locs ls h1 h2 h3 => lv_icmp_lt hX.1 hX.2.1 hd ht (fun h => kt h H locs ls h1 h2 h3) (fun h => kf h H locs ls h1 h2 h3)
theorem wa_if_ge (hX : XK X own cc nL d) {x : Int32} {off : Int} {tgt : Nat} (hd : decode cc pc = .ok (.ifCond .ge off, 3)) (ht : (pc : Int) + off = (tgt : Int)) (kt : 0 ≤ x → WX X k n N Sh I J tgt l st) (kf : ¬ (0 ≤ x) → WX X k n N Sh I J (pc + 3) l st) : WX X k n N Sh I J pc l (.int x :: st) :=
  fun H locs ls h1 h2 h3 => lv_if_ge hX.1 hX.2.1 hd ht (fun h => kt h H locs ls h1 h2 h3) (fun h => kf h H locs ls h1 h2 h3)
theorem wa_icmp_ge (hX : XK X own cc nL d) {x y : Int32} {off : Int} {tgt : Nat} (hd : decode cc pc = .ok (.if_icmp .ge off, 3)) (ht : (pc : Int) + off = (tgt : Int)) (kt : y ≤ x → WX X k n N Sh I J tgt l st) (kf : ¬ (y ≤ x) → WX X k n N Sh I J (pc + 3) l st) : WX X k n N Sh I J pc l (.int y :: .int x :: st) :=
  fun H locs ls h1 h2 h3 => lv_icmp_ge hX.1 hX.2.1 hd ht (fun h => kt h H locs ls h1 h2 h3) (fun h => kf h H locs ls h1 h2 h3)
theorem wa_if_gt (hX : XK X own cc nL d) {x : Int32} {off : Int} {tgt : Nat} (hd : decode cc pc = .ok (.ifCond .gt off, 3)) (ht : (pc : Int) + off = (tgt : Int)) (kt : 0 < x → WX X k n N Sh I J tgt l st) (kf : ¬ (0 < x) → WX X k n N Sh I J (pc + 3) l st) : WX X k n N Sh I J pc l (.int x :: st) :=
  fun H locs ls h1 h2 h3 => lv_if_gt hX.1 hX.2.1 hd ht (fun h => kt h H locs ls h1 h2 h3) (fun h => kf h H locs ls h1 h2 h3)
theorem wa_icmp_gt (hX : XK X own cc nL d) {x y : Int32} {off : Int} {tgt : Nat} (hd : decode cc pc = .ok (.if_icmp .gt off, 3)) (ht : (pc : Int) + off = (tgt : Int)) (kt : y < x → WX X k n N Sh I J tgt l st) (kf : ¬ (y < x) → WX X k n N Sh I J (pc + 3) l st) : WX X k n N Sh I J pc l (.int y :: .int x :: st) :=
  fun H locs ls h1 h2 h3 => lv_icmp_gt hX.1 hX.2.1 hd ht (fun h => kt h H locs ls h1 h2 h3) (fun h => kf h H locs ls h1 h2 h3)
theorem wa_if_le (hX : XK X own cc nL d) {x : Int32} {off : Int} {tgt : Nat} (hd : decode cc pc = .ok (.ifCond .le off, 3)) (ht : (pc : Int) + off = (tgt : Int)) (kt : x ≤ 0 → WX X k n N Sh I J tgt l st) (kf : ¬ (x ≤ 0) → WX X k n N Sh I J (pc + 3) l st) : WX X k n N Sh I J pc l (.int x :: st) :=
  fun H locs ls h1 h2 h3 => lv_if_le hX.1 hX.2.1 hd ht (fun h => kt h H locs ls h1 h2 h3) (fun h => kf h H locs ls h1 h2 h3)
theorem wa_icmp_le (hX : XK X own cc nL d) {x y : Int32} {off : Int} {tgt : Nat} (hd : decode cc pc = .ok (.if_icmp .le off, 3)) (ht : (pc : Int) + off = (tgt : Int)) (kt : x ≤ y → WX X k n N Sh I J tgt l st) (kf : ¬ (x ≤ y) → WX X k n N Sh I J (pc + 3) l st) : WX X k n N Sh I J pc l (.int y :: .int x :: st) :=
  fun H locs ls h1 h2 h3 => lv_icmp_le hX.1 hX.2.1 hd ht (fun h => kt h H locs ls h1 h2 h3) (fun h => kf h H locs ls h1 h2 h3)
end WXR
end
section
/-! the memory's instructions -/
def clTy : Nat → Nat → FieldType
  | 0 => tyX0
  | 1 => tyX1
  | 2 => tyX3
  | 3 => tyX4
  | 4 => tyX5
  | 5 => tyX6
  | _ => tyX7
theorem cl_get {ci : Nat} (h : ci < 7) : vwCl[ci]? = some (clC ci, clT ci, clN ci) := by
  rcases (show ci = 0 ∨ ci = 1 ∨ ci = 2 ∨ ci = 3 ∨ ci = 4 ∨ ci = 5 ∨ ci = 6 by omega) with rfl | rfl | rfl | rfl | rfl | rfl | rfl <;> rfl
theorem fK_len {ci : Nat} (h : ci < 7) : (fK ci).length = clN ci := by
  rcases (show ci = 0 ∨ ci = 1 ∨ ci = 2 ∨ ci = 3 ∨ ci = 4 ∨ ci = 5 ∨ ci = 6 by omega) with rfl | rfl | rfl | rfl | rfl | rfl | rfl <;> rfl
theorem cl_ty {ci : Nat} (h : ci < 7) : ∀ k, k < clN ci → parseFieldDescriptor (clT ci k).2.2.1 = some (clTy ci k) := by
  rcases (show ci = 0 ∨ ci = 1 ∨ ci = 2 ∨ ci = 3 ∨ ci = 4 ∨ ci = 5 ∨ ci = 6 by omega) with rfl | rfl | rfl | rfl | rfl | rfl | rfl
  · exact tyX0_ok
  · exact tyX1_ok
  · exact tyX3_ok
  · exact tyX4_ok
  · exact tyX5_ok
  · exact tyX6_ok
  · exact tyX7_ok
theorem cl_nm {ci : Nat} (h : ci < 7) : ∀ a, a < clN ci → ∀ b, b < clN ci → a ≠ b → (clT ci a).2.1 ≠ (clT ci b).2.1 := by
  rcases (show ci = 0 ∨ ci = 1 ∨ ci = 2 ∨ ci = 3 ∨ ci = 4 ∨ ci = 5 ∨ ci = 6 by omega) with rfl | rfl | rfl | rfl | rfl | rfl | rfl
  · exact nmX0
  · exact nmX1
  · exact nmX3
  · exact nmX4
  · exact nmX5
  · exact nmX6
  · exact nmX7
theorem cl_w0 : ∀ w ∈ u_ws RX0 TX0 4, w ∈ TWg := cl_dec _ (by decide +kernel)
theorem cl_w1 : ∀ w ∈ u_ws RX1 TX1 5, w ∈ TWg := cl_dec _ (by decide +kernel)
theorem cl_w2 : ∀ w ∈ u_ws RX3 TX3 4, w ∈ TWg := cl_dec _ (by decide +kernel)
theorem cl_w3 : ∀ w ∈ u_ws RX4 TX4 3, w ∈ TWg := cl_dec _ (by decide +kernel)
theorem cl_w4 : ∀ w ∈ u_ws RX5 TX5 3, w ∈ TWg := cl_dec _ (by decide +kernel)
theorem cl_w5 : ∀ w ∈ u_ws RX6 TX6 7, w ∈ TWg := cl_dec _ (by decide +kernel)
theorem cl_w6 : ∀ w ∈ u_ws RX7 TX7 20, w ∈ TWg := cl_dec _ (by decide +kernel)
theorem cl_ws {ci : Nat} (h : ci < 7) : ∀ w ∈ u_ws (clC ci) (clT ci) (clN ci), w ∈ TWg := by
  rcases (show ci = 0 ∨ ci = 1 ∨ ci = 2 ∨ ci = 3 ∨ ci = 4 ∨ ci = 5 ∨ ci = 6 by omega) with rfl | rfl | rfl | rfl | rfl | rfl | rfl
  · exact cl_w0
  · exact cl_w1
  · exact cl_w2
  · exact cl_w3
  · exact cl_w4
  · exact cl_w5
  · exact cl_w6
def uR (I : IM) (a : Nat) (f : Nat → Int32) : IM := fun b => if b = a then f else I b
def u2 (I : IM) (a k : Nat) (v : Int32) : IM := uR I a (upd (I a) k v)
def uJ (J : JM) (a k : Nat) (v : Option Nat) : JM := fun b => if b = a then va_up (J a) k v else J b
theorem uR_s {I : IM} {a : Nat} {f : Nat → Int32} : uR I a f a = f := if_pos rfl
theorem uR_n {I : IM} {a b : Nat} {f : Nat → Int32} (h : b ≠ a) : uR I a f b = I b := if_neg h
theorem u2_s {I : IM} {a k : Nat} {v : Int32} : u2 I a k v a k = v := by unfold u2; rw [uR_s]; exact if_pos rfl
theorem u2_n {I : IM} {a b k : Nat} {v : Int32} (h : b ≠ a) : u2 I a k v b = I b := uR_n h
theorem u2_k {I : IM} {a k j : Nat} {v : Int32} (h : j ≠ k) : u2 I a k v a j = I a j := by unfold u2; rw [uR_s]; exact if_neg h
theorem u2_a {I : IM} {a k : Nat} {v : Int32} : u2 I a k v a = upd (I a) k v := uR_s
theorem gmE_congr {I I' : IM} {J J' : JM} {b : Nat} (h1 : I' b = I b) (h2 : J' b = J b) (sh : Shp) : gmE I' J' b sh = gmE I J b sh := by
  rcases sh with ⟨cA, ty, n⟩ | ci
  · simp only [gmE, h1, h2]
  · simp only [gmE, gmF, h1, h2]
theorem HG.set {s : State} {D : va_G} {A : Nat → Prop} {N : Nat} {Sh : SM} {I I' : IM} {J J' : JM} {H H1 : Heap} {a : Nat} {sh : Shp} (h : HG s D A N Sh I J H) (hs : Sh a = some sh) (hnew : va_at D vwCl (a, gmE I' J' a sh) H1) (z : H1.size = H.size) (oq : ∀ q : Nat, q ≠ a → H1[q]? = H[q]?)
    (hi : ∀ b, b ≠ a → I' b = I b) (hj : ∀ b, b ≠ a → J' b = J b) : HG s D A N Sh I' J' H1 := by
  refine ⟨z.trans h.1, fun b sb hb => ?_⟩
  by_cases e : b = a
  · subst e
    have : sb = sh := Option.some.inj (hb.symm.trans hs)
    subst this
    exact ⟨hnew, (h.2 b sb hb).2⟩
  · refine ⟨?_, (h.2 b sb hb).2⟩
    rw [gmE_congr (hi b e) (hj b e)]
    exact va_at.kept (h.2 b sb hb).1 (oq b e)
theorem gmF_get {ci k : Nat} (hk : k < (fK ci).length) {I : IM} {J : JM} {a : Nat} : (gmF ci I J a)[k]? = some (if (fK ci).getD k false = true then va_rf (J a k) else .int (I a k)) := by
  simp [gmF, hk]
theorem gmF_setI {ci k : Nat} (hk : k < (fK ci).length) (hr : (fK ci).getD k false = false) {I : IM} {J : JM} {a : Nat} {v : Int32} : (gmF ci I J a).set k (.int v) = gmF ci (u2 I a k v) J a := by
  apply List.ext_getElem?
  intro j
  rw [List.getElem?_set]
  by_cases e : k = j
  · subst e
    rw [if_pos rfl, gmF_get hk, hr]
    have : k < (gmF ci I J a).length := by simpa [gmF] using hk
    simp only [this, ↓reduceIte, u2_s, Bool.false_eq_true]
  · rw [if_neg e]
    by_cases hj : j < (fK ci).length
    · rw [gmF_get hj, gmF_get hj, u2_k (fun h => e h.symm)]
    · rw [List.getElem?_eq_none (by simpa [gmF] using hj), List.getElem?_eq_none (by simpa [gmF] using hj)]
theorem gmF_setJ {ci k : Nat} (hk : k < (fK ci).length) (hr : (fK ci).getD k false = true) {I : IM} {J : JM} {a : Nat} {v : Option Nat} : (gmF ci I J a).set k (va_rf v) = gmF ci I (uJ J a k v) a := by
  apply List.ext_getElem?
  intro j
  rw [List.getElem?_set]
  have hs : uJ J a k v a k = v := by simp [uJ, va_up]
  by_cases e : k = j
  · subst e
    rw [if_pos rfl, gmF_get hk, hr]
    have : k < (gmF ci I J a).length := by simpa [gmF] using hk
    simp only [this, ↓reduceIte, hs]
  · rw [if_neg e]
    have hn : uJ J a k v a j = J a j := by simp [uJ, va_up, show j ≠ k from fun h => e h.symm]
    by_cases hj : j < (fK ci).length
    · rw [gmF_get hj, gmF_get hj, hn]
    · rw [List.getElem?_eq_none (by simpa [gmF] using hj), List.getElem?_eq_none (by simpa [gmF] using hj)]
def shI (Sh : SM) (a n : Nat) : Prop := ∃ cA, Sh a = some (.inl (cA, .int, n))
def shZ (Sh : SM) (a n : Nat) : Prop := ∃ cA, Sh a = some (.inl (cA, .boolean, n))
def shC (Sh : SM) (a n : Nat) : Prop := ∃ cA, Sh a = some (.inl (cA, .char, n))
def shR (Sh : SM) (a n : Nat) : Prop := ∃ cA ty, Sh a = some (.inl (cA, ty, n)) ∧ refKind ty = true
def shA (Sh : SM) (a : Nat) (C : String) (n : Nat) : Prop := ∃ cA, Sh a = some (.inl (cA, .object C, n))
section WXM
variable {X : Cx} {own : String} {cc : ByteArray} {nL d : Nat} {k n N : Nat} {Sh : SM} {I : IM} {J : JM} {pc : Nat} {l : List (Nat × Value)} {st : List Value}
theorem one_P {D : va_G} {q : Nat × va_E} {H : Heap} (h : va_at D vwCl q H) : va_P D vwCl [q] H := by
  intro i x hx
  have hz : i < 1 := (List.getElem?_eq_some_iff.mp hx).1
  rw [show i = 0 by omega] at hx
  cases hx
  exact h
theorem one_K {D : va_G} {s : State} (hK : KN D s) {cA : ClassId} {ty : FieldType} (h : ArrOfT s cA ty ∧ va_RA s cA ty) : va_K D vwCl [(cA, ty)] s := by
  refine ⟨hK, fun i x hx => ?_⟩
  have hz : i < 1 := (List.getElem?_eq_some_iff.mp hx).1
  rw [show i = 0 by omega] at hx
  cases hx
  exact h
theorem no_K {D : va_G} {s : State} (hK : KN D s) : va_K D vwCl [] s := ⟨hK, fun i x hx => by simp at hx⟩
theorem wa_getI (hX : XK X own cc nL d) {idx ci kf a : Nat} (hF : FL own idx ci kf) (hr : (fK ci).getD kf false = false) (hsh : Sh a = some (.inr ci)) (hd : decode cc pc = .ok (.getfield idx, 3)) (kk : WX X k n N Sh I J (pc + 3) l (.int (I a kf) :: st)) : WX X k n N Sh I J pc l (.ref a :: st) := by
  intro H locs ls h1 h2 h3
  have hz := (h1.2 a _ hsh).1
  exact va_get (ci := ci) (fs := gmF ci I J a) (v := .int (I a kf)) hX.1 hX.2.1 hX.2.2.2.2.1 (cl_ws hF.1) hX.2.2.2.1 (no_K hX.2.2.2.2.2.1) (one_P hz) 0 rfl (cl_get hF.1) kf hF.2.1 (hX.2.2.2.2.1 _ hF.2.2) (fun _ h => h)
    (by rw [gmF_get (by rw [fK_len hF.1]; exact hF.2.1), hr]; rfl) hd (kk H locs ls h1 h2 h3)
theorem wa_getR (hX : XK X own cc nL d) {idx ci kf a b : Nat} (hF : FL own idx ci kf) (hr : (fK ci).getD kf false = true) (hsh : Sh a = some (.inr ci)) (hj : J a kf = some b) (hd : decode cc pc = .ok (.getfield idx, 3)) (kk : WX X k n N Sh I J (pc + 3) l (.ref b :: st)) : WX X k n N Sh I J pc l (.ref a :: st) := by
  intro H locs ls h1 h2 h3
  have hz := (h1.2 a _ hsh).1
  exact va_get (ci := ci) (fs := gmF ci I J a) (v := .ref b) hX.1 hX.2.1 hX.2.2.2.2.1 (cl_ws hF.1) hX.2.2.2.1 (no_K hX.2.2.2.2.2.1) (one_P hz) 0 rfl (cl_get hF.1) kf hF.2.1 (hX.2.2.2.2.1 _ hF.2.2) (fun _ h => h)
    (by rw [gmF_get (by rw [fK_len hF.1]; exact hF.2.1), hr, if_pos rfl, hj]; rfl) hd (kk H locs ls h1 h2 h3)
theorem wa_putI (hX : XK X own cc nL d) {idx ci kf a : Nat} {v : Int32} (hF : FL own idx ci kf) (hr : (fK ci).getD kf false = false) (hfin : (clT ci kf).2.2.2 = false) (hn : narrow (clTy ci kf) (.int v) = .int v ∧ fits (clTy ci kf) (.int v) = true) (hsh : Sh a = some (.inr ci)) (hd : decode cc pc = .ok (.putfield idx, 3))
    (kk : WX X k n N Sh (u2 I a kf v) J (pc + 3) l st) : WX X k n N Sh I J pc l (.int v :: .ref a :: st) := by
  intro H locs ls h1 h2 h3
  obtain ⟨hz, hA, hAK⟩ := h1.2 a _ hsh
  have hlen : kf < (fK ci).length := by rw [fK_len hF.1]; exact hF.2.1
  have hts := hX.2.2.2.2.1
  have hap := va_apart (own := own) hts (cl_ws hF.1) (clTy ci) (cl_ty hF.1) (cl_nm hF.1) (no_K hX.2.2.2.2.2.1) (cl_get hF.1)
  obtain ⟨r, g1, cell, q1, q2, q3, q4⟩ := hz
  have hrr : r = (clC ci, clT ci, clN ci) := Option.some.inj (g1.symm.trans (cl_get hF.1))
  subst hrr
  obtain ⟨hS, hfc, kC, hkC, hkind⟩ := hX.2.2.2.2.2.1 ci _ (cl_get hF.1)
  obtain ⟨cf, kfk, fi, f, hi, hsl⟩ := hS kf hF.2.1
  have hlay := hts _ (cl_ws hF.1 _ (u_in_lay hF.2.1))
  unfold u_lay at hlay
  rw [if_neg (by rw [hfin]; decide)] at hlay
  have hst := (u_facts hfc hkC (u_lays hts (cl_ws hF.1) hF.2.1) hi).1
  have h6 := u_store hfc hkC hkind hlay hi (cl_ty hF.1 kf hF.2.1) hn.1 hn.2
  refine W.putK hX.1 hX.2.1 (f := f) ⟨hX.2.2.2.1, hts _ hF.2.2, ⟨_, _, _, hi⟩, hst⟩ (by rw [q2]; exact h6) q1 q3 (by rw [hsl]; exact k2_hasslot (q4 kf hF.2.1)) rfl rfl hd fun H' e1 e2 e3 => ?_
  rw [hsl] at e1 ⊢
  refine kk H' _ ls (h1.set hsh ?_ e2 e3 (fun b hb => u2_n hb) (fun _ _ => rfl)) (h2.put e2 e3 hA) h3
  refine ⟨_, cl_get hF.1, ?_⟩
  have e5 : (gmF ci I J a).set kf (.int v) = gmF ci (u2 I a kf v) J a := gmF_setI hlen hr
  show t_OB a _ _ _ H' (vp_V (gmF ci (u2 I a kf v) J a))
  rw [← e5]
  exact t_OB.to (V := updV (vp_V (gmF ci I J a)) kf (.int v)) ⟨_, e1, q2, q3, t_set q4 hap hF.2.1 (.int v)⟩ (fun j _ => vp_updV_set (by simpa [gmF] using hlen) (.int v) j)
theorem wa_iald (hX : XK X own cc nL d) {a j nn : Nat} (hsh : shI Sh a nn) {z : Int32} (hz : z = nI j) (hj : j < nn) (hnn : nn < 2 ^ 31) (hd : decode cc pc = .ok (.iaload, 1)) (kk : WX X k n N Sh I J (pc + 1) l (.int (I a j) :: st)) : WX X k n N Sh I J pc l (.int z :: .ref a :: st) := by
  intro H locs ls h1 h2 h3
  subst hz
  obtain ⟨cA, hsh⟩ := hsh
  obtain ⟨hz, hA, hAK⟩ := h1.2 a _ hsh
  refine va_iald (cA := cA) (n := nn) (f := I a) hX.1 hX.2.1 (one_K hX.2.2.2.2.2.1 hAK) (one_P hz) 0 0 rfl rfl (vp_in_nI hj hnn) hd ?_
  rw [nI_clamp (by omega)]
  exact kk H locs ls h1 h2 h3
theorem wa_zald (hX : XK X own cc nL d) {a j nn : Nat} (hsh : shZ Sh a nn) {z : Int32} (hz : z = nI j) (hj : j < nn) (hnn : nn < 2 ^ 31) (hd : decode cc pc = .ok (.baload, 1)) (kk : WX X k n N Sh I J (pc + 1) l (.int (I a j) :: st)) : WX X k n N Sh I J pc l (.int z :: .ref a :: st) := by
  intro H locs ls h1 h2 h3
  subst hz
  obtain ⟨cA, hsh⟩ := hsh
  obtain ⟨hz, hA, hAK⟩ := h1.2 a _ hsh
  refine va_zald (cA := cA) (n := nn) (f := I a) hX.1 hX.2.1 (one_K hX.2.2.2.2.2.1 hAK) (one_P hz) 0 0 rfl rfl (vp_in_nI hj hnn) hd ?_
  rw [nI_clamp (by omega)]
  exact kk H locs ls h1 h2 h3
theorem wa_cald (hX : XK X own cc nL d) {a j nn : Nat} (hsh : shC Sh a nn) {z : Int32} (hz : z = nI j) (hj : j < nn) (hnn : nn < 2 ^ 31) (hd : decode cc pc = .ok (.caload, 1)) (kk : WX X k n N Sh I J (pc + 1) l (.int (I a j) :: st)) : WX X k n N Sh I J pc l (.int z :: .ref a :: st) := by
  intro H locs ls h1 h2 h3
  subst hz
  obtain ⟨cA, hsh⟩ := hsh
  obtain ⟨hz, hA, hAK⟩ := h1.2 a _ hsh
  refine va_cald (cA := cA) (n := nn) (f := I a) hX.1 hX.2.1 (one_K hX.2.2.2.2.2.1 hAK) (one_P hz) 0 0 rfl rfl (vp_in_nI hj hnn) hd ?_
  rw [nI_clamp (by omega)]
  exact kk H locs ls h1 h2 h3
theorem wa_aald (hX : XK X own cc nL d) {a b j nn : Nat} (hsh : shR Sh a nn) {z : Int32} (hz : z = nI j) (hj : j < nn) (hnn : nn < 2 ^ 31) (hb : J a j = some b) (hd : decode cc pc = .ok (.aaload, 1)) (kk : WX X k n N Sh I J (pc + 1) l (.ref b :: st)) : WX X k n N Sh I J pc l (.int z :: .ref a :: st) := by
  intro H locs ls h1 h2 h3
  subst hz
  obtain ⟨cA, ty, hsh, hty⟩ := hsh
  obtain ⟨hz, hA, hAK⟩ := h1.2 a _ hsh
  have hz' : H[a]? = some (vp_cell cA (nn, .inr (.inr (.inr (.inr (J a)))))) := by
    have : gmE I J a (.inl (cA, ty, nn)) = .inl (cA, nn, .inr (.inr (.inr (.inr (J a))))) := by simp [gmE, hty]
    rw [this] at hz
    exact hz
  have hin : vp_in (nI j) nn := vp_in_nI hj hnn
  have hcl : (nI j).toNatClampNeg = j := nI_clamp (by omega)
  refine W.aald (v := .ref b) (ty := ty) hX.1 hX.2.1 hz' (hAK.1 nn (fun j => va_rf (J a j))) hty (fun q => by cases q) (by show ¬ (nI j < 0 ∨ (arrV _ _ _).slots.size ≤ _); rw [arrV_size]; exact hin) (by show (arrV _ _ _).slots[_]? = _; rw [hcl, arrV_read _ _ hj, hb]; rfl) rfl rfl hd ?_
  exact kk H locs ls h1 h2 h3
theorem wa_alen (hX : XK X own cc nL d) {a nn : Nat} {cA : ClassId} {ty : FieldType} (hsh : Sh a = some (.inl (cA, ty, nn))) (hd : decode cc pc = .ok (.arraylength, 1)) (kk : WX X k n N Sh I J (pc + 1) l (.int (nI nn) :: st)) : WX X k n N Sh I J pc l (.ref a :: st) := by
  intro H locs ls h1 h2 h3
  obtain ⟨hz, hA, hAK⟩ := h1.2 a _ hsh
  exact va_alen (cA := cA) (x := (nn, _)) hX.1 hX.2.1 (one_K hX.2.2.2.2.2.1 hAK) (one_P hz) 0 0 rfl rfl rfl hd (kk H locs ls h1 h2 h3)
theorem wa_iast (hX : XK X own cc nL d) {a j nn : Nat} {x : Int32} (hsh : shI Sh a nn) {z : Int32} (hz : z = nI j) (hj : j < nn) (hnn : nn < 2 ^ 31) (hd : decode cc pc = .ok (.iastore, 1)) (kk : WX X k n N Sh (u2 I a j x) J (pc + 1) l st) : WX X k n N Sh I J pc l (.int x :: .int z :: .ref a :: st) := by
  intro H locs ls h1 h2 h3
  subst hz
  obtain ⟨cA, hsh⟩ := hsh
  obtain ⟨hz, hA, hAK⟩ := h1.2 a _ hsh
  have hin : vp_in (nI j) nn := vp_in_nI hj hnn
  have hcl : (nI j).toNatClampNeg = j := nI_clamp (by omega)
  refine W.iast hX.1 hX.2.1 (cell := vp_cell cA (nn, .inl (I a))) hz (hAK.1 nn (fun j => .int (I a j))) (fun q => by cases q) (by show ¬ (nI j < 0 ∨ (arrV _ _ _).slots.size ≤ _); rw [arrV_size]; exact hin) rfl rfl hd fun H1 e z oq => ?_
  refine kk H1 _ ls (h1.set hsh ?_ z oq (fun b hb => u2_n hb) (fun _ _ => rfl)) (h2.put z oq hA) h3
  show H1[a]? = some (vp_cell cA (nn, .inl (u2 I a j x a)))
  rw [e, u2_a, hcl, vp_cell_i, vp_cell_i, arrV_store]
  congr 2
  funext q
  by_cases hq : q = j
  · subst hq
    simp [updV, upd, vp_nar]
    try rfl
  · simp [updV, upd, hq]
theorem wa_zast (hX : XK X own cc nL d) {a j nn : Nat} {x : Int32} (hsh : shZ Sh a nn) {z : Int32} (hz : z = nI j) (hj : j < nn) (hnn : nn < 2 ^ 31) (hd : decode cc pc = .ok (.bastore, 1)) (kk : WX X k n N Sh (u2 I a j (vp_nar .boolean x)) J (pc + 1) l st) : WX X k n N Sh I J pc l (.int x :: .int z :: .ref a :: st) := by
  intro H locs ls h1 h2 h3
  subst hz
  obtain ⟨cA, hsh⟩ := hsh
  obtain ⟨hz, hA, hAK⟩ := h1.2 a _ hsh
  have hin : vp_in (nI j) nn := vp_in_nI hj hnn
  have hcl : (nI j).toNatClampNeg = j := nI_clamp (by omega)
  refine W.zast hX.1 hX.2.1 (cell := vp_cell cA (nn, .inl (I a))) hz (hAK.1 nn (fun j => .int (I a j))) (fun q => by cases q) (by show ¬ (nI j < 0 ∨ (arrV _ _ _).slots.size ≤ _); rw [arrV_size]; exact hin) rfl rfl hd fun H1 e z oq => ?_
  refine kk H1 _ ls (h1.set hsh ?_ z oq (fun b hb => u2_n hb) (fun _ _ => rfl)) (h2.put z oq hA) h3
  show H1[a]? = some (vp_cell cA (nn, .inl (u2 I a j (vp_nar .boolean x) a)))
  rw [e, u2_a, hcl, vp_cell_i, vp_cell_i, arrV_store]
  congr 2
  funext q
  by_cases hq : q = j
  · subst hq
    simp [updV, upd, vp_nar]
    try rfl
  · simp [updV, upd, hq]
theorem wa_cast (hX : XK X own cc nL d) {a j nn : Nat} {x : Int32} (hsh : shC Sh a nn) {z : Int32} (hz : z = nI j) (hj : j < nn) (hnn : nn < 2 ^ 31) (hd : decode cc pc = .ok (.castore, 1)) (kk : WX X k n N Sh (u2 I a j (vp_nar .char x)) J (pc + 1) l st) : WX X k n N Sh I J pc l (.int x :: .int z :: .ref a :: st) := by
  intro H locs ls h1 h2 h3
  subst hz
  obtain ⟨cA, hsh⟩ := hsh
  obtain ⟨hz, hA, hAK⟩ := h1.2 a _ hsh
  have hin : vp_in (nI j) nn := vp_in_nI hj hnn
  have hcl : (nI j).toNatClampNeg = j := nI_clamp (by omega)
  refine W.cast hX.1 hX.2.1 (cell := vp_cell cA (nn, .inl (I a))) hz (hAK.1 nn (fun j => .int (I a j))) (fun q => by cases q) (by show ¬ (nI j < 0 ∨ (arrV _ _ _).slots.size ≤ _); rw [arrV_size]; exact hin) rfl rfl hd fun H1 e z oq => ?_
  refine kk H1 _ ls (h1.set hsh ?_ z oq (fun b hb => u2_n hb) (fun _ _ => rfl)) (h2.put z oq hA) h3
  show H1[a]? = some (vp_cell cA (nn, .inl (u2 I a j (vp_nar .char x) a)))
  rw [e, u2_a, hcl, vp_cell_i, vp_cell_i, arrV_store]
  congr 2
  funext q
  by_cases hq : q = j
  · subst hq
    simp [updV, upd, vp_nar]
    try rfl
  · simp [updV, upd, hq]
end WXM
end
section
/-! contracts, calls and returns over my memory -/
def PreG (D : va_G) (A : Nat → Prop) (N : Nat) (Sh : SM) (I : IM) (J : JM) (U : State) : Prop := HG U D A N Sh I J U.heap ∧ KN D U ∧ NW U
/-- a method that answers a whole number (or a truth), makes nothing: its contract -/
def CtI (l : Launch) (D : va_G) (A : Nat → Prop) (y : MethodName) (cc : ByteArray) (maxL : Nat) (ty : FieldType) (d : Nat) (N : Nat) (Sh : SM) (I : IM) (J : JM) (av : List Value) (Q : Int32 → IM → JM → Prop) : Prop :=
  Met l y (TWs y cc maxL (some ty)) (rmD d) (va_Pc av (PreG D A N Sh I J)) (va_Qi (fun (r : Int32) (u : IM × JM) => Q r u.1 u.2) (fun (u : IM × JM) t => PreG D A N Sh u.1 u.2 t) A) 0 0 A
/-- a void method's -/
def CtV (l : Launch) (D : va_G) (A : Nat → Prop) (y : MethodName) (cc : ByteArray) (maxL : Nat) (d : Nat) (N : Nat) (Sh : SM) (I : IM) (J : JM) (av : List Value) (Q : IM → JM → Prop) : Prop :=
  Met l y (TWs y cc maxL none) (rmD d) (va_Pc av (PreG D A N Sh I J)) (va_Qv (fun (u : IM × JM) => Q u.1 u.2) (fun (u : IM × JM) t => PreG D A N Sh u.1 u.2 t) A) 0 0 A
theorem ct_I {l : Launch} {D : va_G} {A : Nat → Prop} {y : MethodName} {cc : ByteArray} {maxL : Nat} {ty : FieldType} {d N : Nat} {Sh : SM} {I : IM} {J : JM} {av : List Value} {Q : Int32 → IM → JM → Prop} {l0 : List (Nat × Value)}
    (hy : plainName y.cls = true) (hav : (lg_sl av).length ≤ maxL) (hl0 : lv_args 0 av = l0) (hn : ∀ r I' J', Q r I' J' → narrow ty (.int r) = .int r)
    (body : ∀ X : Cx, XK X y.cls cc maxL d → (∀ (r : Int32) (I' : IM) (J' : JM) (pc : Nat) (l' : List (Nat × Value)), Q r I' J' → decode cc pc = .ok (.ireturn, 1) → WX X 0 0 N Sh I' J' pc l' [.int r]) → X.1.2.1 = l → X.2.1 = D → X.2.2.1 = A → WX X 0 0 N Sh I J 0 l0 []) : CtI l D A y cc maxL ty d N Sh I J av Q := by
  refine Met.ofW (cc := cc) (maxL := maxL) (ret := some ty) hy rfl ?_
  intro p e s m args below meth c s₁ B hml hv
  obtain ⟨rfl, hG, hK, hNW⟩ := hv
  have hts := atoms_spec (ws := TWs y cc maxL (some ty)) B.pre
  have hl := lv_entry av (n := maxL) hav
  rw [lg_entry_eq]
  generalize (lg_sl av ++ List.replicate (maxL - (lg_sl av).length) Slot.unset).toArray = ls at hl ⊢
  rw [hl0] at hl
  refine body ((p, l, e, rmD d, s, m, _, below, meth, c), D, A, _) ⟨B.exec, B.bytes, hml, findClass_of_methodNamed B.named, fun w hw => hts w (List.mem_cons_of_mem _ hw), hK, hNW, rfl, rfl⟩ ?_ rfl rfl rfl s.heap [] ls hG va_S.rf (by show lv_has ls c.maxLocals _; rw [hml]; exact hl)
  intro r I' J' pc l' hq hd H locs ls' h1 h2 h3
  exact W.zret B.exec B.bytes B.returns (hn r I' J' hq) (fun t ht hW => ⟨⟨r, (I', J'), rfl, hq, by rw [← ht] at h1; exact h1.moved hW.alike, hK.moved hW.alike, hNW.warm hW⟩, h2.F ht⟩) h2.2.2 hd B.notSynchronized
theorem ct_V {l : Launch} {D : va_G} {A : Nat → Prop} {y : MethodName} {cc : ByteArray} {maxL : Nat} {d N : Nat} {Sh : SM} {I : IM} {J : JM} {av : List Value} {Q : IM → JM → Prop} {l0 : List (Nat × Value)}
    (hy : plainName y.cls = true) (hav : (lg_sl av).length ≤ maxL) (hl0 : lv_args 0 av = l0)
    (body : ∀ X : Cx, XK X y.cls cc maxL d → (∀ (I' : IM) (J' : JM) (pc : Nat) (l' : List (Nat × Value)), Q I' J' → decode cc pc = .ok (.return_, 1) → WX X 0 0 N Sh I' J' pc l' []) → X.1.2.1 = l → X.2.1 = D → X.2.2.1 = A → WX X 0 0 N Sh I J 0 l0 []) : CtV l D A y cc maxL d N Sh I J av Q := by
  refine Met.ofW (cc := cc) (maxL := maxL) (ret := none) hy rfl ?_
  intro p e s m args below meth c s₁ B hml hv
  obtain ⟨rfl, hG, hK, hNW⟩ := hv
  have hts := atoms_spec (ws := TWs y cc maxL none) B.pre
  have hl := lv_entry av (n := maxL) hav
  rw [lg_entry_eq]
  generalize (lg_sl av ++ List.replicate (maxL - (lg_sl av).length) Slot.unset).toArray = ls at hl ⊢
  rw [hl0] at hl
  refine body ((p, l, e, rmD d, s, m, _, below, meth, c), D, A, _) ⟨B.exec, B.bytes, hml, findClass_of_methodNamed B.named, fun w hw => hts w (List.mem_cons_of_mem _ hw), hK, hNW, rfl, rfl⟩ ?_ rfl rfl rfl s.heap [] ls hG va_S.rf (by show lv_has ls c.maxLocals _; rw [hml]; exact hl)
  intro I' J' pc l' hq hd H locs ls' h1 h2 h3
  exact W.vret B.exec B.bytes B.returns (fun t ht hW => ⟨⟨(I', J'), rfl, hq, by rw [← ht] at h1; exact h1.moved hW.alike, hK.moved hW.alike, hNW.warm hW⟩, h2.F ht⟩) h2.2.2 hd B.notSynchronized
/-- a weaker end -/
theorem CtI.post {l : Launch} {D : va_G} {A : Nat → Prop} {y : MethodName} {cc : ByteArray} {maxL : Nat} {ty : FieldType} {d N : Nat} {Sh : SM} {I : IM} {J : JM} {av : List Value} {Q Q' : Int32 → IM → JM → Prop} (h : CtI l D A y cc maxL ty d N Sh I J av Q) (hq : ∀ r I' J', Q r I' J' → Q' r I' J') : CtI l D A y cc maxL ty d N Sh I J av Q' := by
  intro p e h1 h2 h3 s m args below h4 h5 h6 h7
  obtain ⟨t, o, g0, g1, g2, ⟨⟨r, u, a1, a2, a3⟩, a4⟩, g5⟩ := h p e h1 h2 h3 s m args below h4 h5 h6 h7
  exact ⟨t, o, g0, g1, g2, ⟨⟨r, u, a1, hq _ _ _ a2, a3⟩, a4⟩, g5⟩
theorem blindG {av : List Value} {D : va_G} {A : Nat → Prop} {N : Nat} {Sh : SM} {I : IM} {J : JM} : FrameBlind (va_Pc av (PreG D A N Sh I J)) := by
  rintro a U g mk ⟨q0, qG, qK, qN⟩
  exact ⟨q0, qG.moved (u := U) (U := U.calling g mk a) (Vm.Alike.refl U.vm), qK.moved (u := U) (U := U.calling g mk a) (Vm.Alike.refl U.vm), qN.same (u := U) (U := U.calling g mk a) rfl⟩
section WXC
variable {X : Cx} {own : String} {cc : ByteArray} {nL d : Nat} {k n N : Nat} {Sh : SM} {I : IM} {J : JM} {pc : Nat} {l : List (Nat × Value)} {st rest : List Value}
variable {y : MethodName} {cc' : ByteArray} {maxL d' idx nA : Nat} {ty : FieldType} {As : List Value}
theorem room_ok (hX : XK X own cc nL d) (hd' : d' + 1 ≤ d) (hm : maxL ≤ 20) : (rmD d').frames + 1 ≤ X.1.2.2.2.1.frames ∧ 8 + (maxL + 11) + (rmD d').locals ≤ X.1.2.2.2.1.locals := by
  rw [hX.2.2.2.2.2.2.2.1, hX.2.2.2.2.2.2.2.2]
  show d' + 1 ≤ d ∧ 8 + (maxL + 11) + 40 * d' ≤ 40 * d
  omega
theorem pre_to (hX : XK X own cc nL d) {H : Heap} (h1 : HG X.1.2.2.2.2.1 X.2.1 X.2.2.1 N Sh I J H) : ∀ U : State, U.heap = H → X.1.2.2.2.2.1.WarmedH U.vm → PreG X.2.1 X.2.2.1 N Sh I J U :=
  fun U hU hW => ⟨by rw [hU]; exact h1.moved hW.alike, hX.2.2.2.2.2.1.moved hW.alike, hX.2.2.2.2.2.2.1.warm hW⟩
theorem wa_callVI (hX : XK X own cc nL d) {C : String} {ci b : Nat} {Q : Int32 → IM → JM → Prop} (hM : CtI X.1.2.1 X.2.1 X.2.2.1 y cc' maxL ty d' N Sh I J (.ref b :: As) Q) (hB : LB y cc' maxL (some ty) nA) (hL : LV own idx C y) (hd' : d' + 1 ≤ d) (hm : maxL ≤ 20) (hci : ci < 7 ∧ C = clC ci) (hsh : Sh b = some (.inr ci))
    (hn : As.length = nA) (hst : st = As.reverse ++ .ref b :: rest) (hcat : (rest.map fun v => v.category).sum ≤ 8) (hd : decode cc pc = .ok (.invokevirtual idx, 3)) (kk : ∀ r I' J', Q r I' J' → WX X k n N Sh I' J' (pc + 3) l (.int r :: rest)) (hk : k ≤ X.1.2.2.2.1.cells ∧ n ≤ X.1.2.2.2.1.slots := by first | assumption | exact ⟨Nat.zero_le _, Nat.zero_le _⟩) : WX X k n N Sh I J pc l st := by
  intro H locs ls h1 h2 h3
  have hts := hX.2.2.2.2.1
  have hz := (h1.2 b _ hsh).1
  refine va_calli (va_runV (As := As) (rest := rest) ⟨hX.1, hX.2.1, hX.2.2.1, hX.2.2.2.1, hts⟩ hM ⟨callB_of nA hts (tw_sub hB.1) rfl rfl rfl (hts _ hB.2.1) (hts _ hL.1) hB.2.2 (room_ok hX hd' hm), hts _ hL.2.1, hts _ hL.2.2⟩
    ⟨blindG, by rw [hci.2]; exact va_recv (no_K hX.2.2.2.2.2.1) (one_P hz) (ci := ci) (q0 := 0) (cl_get hci.1) rfl, fun U hU hW => ⟨rfl, pre_to hX h1 U hU hW⟩⟩ rfl hn (h3.1.trans hX.2.2.1) hst (lv_room hcat) hd hk) h2 (fun q _ h => h) (fun q h => h) (fun r u t H1 locs1 ht hvm hw hG hz1 hk1 hS => ?_)
  have hG1 := hG.1
  rw [ht] at hG1
  exact kk r u.1 u.2 hw H1 locs1 ls (hG1.moved hvm.symm) hS h3
theorem wa_callVV (hX : XK X own cc nL d) {C : String} {ci b : Nat} {Q : IM → JM → Prop} (hM : CtV X.1.2.1 X.2.1 X.2.2.1 y cc' maxL d' N Sh I J (.ref b :: As) Q) (hB : LB y cc' maxL none nA) (hL : LV own idx C y) (hd' : d' + 1 ≤ d) (hm : maxL ≤ 20) (hci : ci < 7 ∧ C = clC ci) (hsh : Sh b = some (.inr ci))
    (hn : As.length = nA) (hst : st = As.reverse ++ .ref b :: rest) (hcat : (rest.map fun v => v.category).sum ≤ 8) (hd : decode cc pc = .ok (.invokevirtual idx, 3)) (kk : ∀ I' J', Q I' J' → WX X k n N Sh I' J' (pc + 3) l rest) (hk : k ≤ X.1.2.2.2.1.cells ∧ n ≤ X.1.2.2.2.1.slots := by first | assumption | exact ⟨Nat.zero_le _, Nat.zero_le _⟩) : WX X k n N Sh I J pc l st := by
  intro H locs ls h1 h2 h3
  have hts := hX.2.2.2.2.1
  have hz := (h1.2 b _ hsh).1
  refine va_callv (va_runV (As := As) (rest := rest) ⟨hX.1, hX.2.1, hX.2.2.1, hX.2.2.2.1, hts⟩ hM ⟨callB_of nA hts (tw_sub hB.1) rfl rfl rfl (hts _ hB.2.1) (hts _ hL.1) hB.2.2 (room_ok hX hd' hm), hts _ hL.2.1, hts _ hL.2.2⟩
    ⟨blindG, by rw [hci.2]; exact va_recv (no_K hX.2.2.2.2.2.1) (one_P hz) (ci := ci) (q0 := 0) (cl_get hci.1) rfl, fun U hU hW => ⟨rfl, pre_to hX h1 U hU hW⟩⟩ rfl hn (h3.1.trans hX.2.2.1) hst (lv_room hcat) hd hk) h2 (fun q _ h => h) (fun q h => h) (fun u t H1 locs1 ht hvm hw hG hz1 hk1 hS => ?_)
  have hG1 := hG.1
  rw [ht] at hG1
  exact kk u.1 u.2 hw H1 locs1 ls (hG1.moved hvm.symm) hS h3
theorem wa_callSI (hX : XK X own cc nL d) {Q : Int32 → IM → JM → Prop} (hM : CtI X.1.2.1 X.2.1 X.2.2.1 y cc' maxL ty d' N Sh I J As Q) (hB : LB y cc' maxL (some ty) nA) (hL : LSt own idx y) (hd' : d' + 1 ≤ d) (hm : maxL ≤ 20)
    (hn : As.length = nA) (hst : st = As.reverse ++ rest) (hcat : (rest.map fun v => v.category).sum ≤ 8) (hd : decode cc pc = .ok (.invokestatic idx, 3)) (kk : ∀ r I' J', Q r I' J' → WX X k n N Sh I' J' (pc + 3) l (.int r :: rest)) (hk : k ≤ X.1.2.2.2.1.cells ∧ n ≤ X.1.2.2.2.1.slots := by first | assumption | exact ⟨Nat.zero_le _, Nat.zero_le _⟩) : WX X k n N Sh I J pc l st := by
  intro H locs ls h1 h2 h3
  have hts := hX.2.2.2.2.1
  refine va_calli (va_runS (As := As) (rest := rest) ⟨hX.1, hX.2.1, hX.2.2.1, hX.2.2.2.1, hts⟩ hM ⟨callB_of nA hts (tw_sub hB.1) rfl rfl rfl (hts _ hB.2.1) (hts _ hL.1) hB.2.2 (room_ok hX hd' hm), hts _ hL.2⟩
    ⟨blindG, fun U hU hW => ⟨rfl, pre_to hX h1 U hU hW⟩⟩ rfl hn (h3.1.trans hX.2.2.1) hst (lv_room hcat) hd hk) h2 (fun q _ h => h) (fun q h => h) (fun r u t H1 locs1 ht hvm hw hG hz1 hk1 hS => ?_)
  have hG1 := hG.1
  rw [ht] at hG1
  exact kk r u.1 u.2 hw H1 locs1 ls (hG1.moved hvm.symm) hS h3
theorem wa_callSV (hX : XK X own cc nL d) {Q : IM → JM → Prop} (hM : CtV X.1.2.1 X.2.1 X.2.2.1 y cc' maxL d' N Sh I J As Q) (hB : LB y cc' maxL none nA) (hL : LSt own idx y) (hd' : d' + 1 ≤ d) (hm : maxL ≤ 20)
    (hn : As.length = nA) (hst : st = As.reverse ++ rest) (hcat : (rest.map fun v => v.category).sum ≤ 8) (hd : decode cc pc = .ok (.invokestatic idx, 3)) (kk : ∀ I' J', Q I' J' → WX X k n N Sh I' J' (pc + 3) l rest) (hk : k ≤ X.1.2.2.2.1.cells ∧ n ≤ X.1.2.2.2.1.slots := by first | assumption | exact ⟨Nat.zero_le _, Nat.zero_le _⟩) : WX X k n N Sh I J pc l st := by
  intro H locs ls h1 h2 h3
  have hts := hX.2.2.2.2.1
  refine va_callv (va_runS (As := As) (rest := rest) ⟨hX.1, hX.2.1, hX.2.2.1, hX.2.2.2.1, hts⟩ hM ⟨callB_of nA hts (tw_sub hB.1) rfl rfl rfl (hts _ hB.2.1) (hts _ hL.1) hB.2.2 (room_ok hX hd' hm), hts _ hL.2⟩
    ⟨blindG, fun U hU hW => ⟨rfl, pre_to hX h1 U hU hW⟩⟩ rfl hn (h3.1.trans hX.2.2.1) hst (lv_room hcat) hd hk) h2 (fun q _ h => h) (fun q h => h) (fun u t H1 locs1 ht hvm hw hG hz1 hk1 hS => ?_)
  have hG1 := hG.1
  rw [ht] at hG1
  exact kk u.1 u.2 hw H1 locs1 ls (hG1.moved hvm.symm) hS h3
/-- a nest mate's private static method -/
theorem wa_callNI (hX : XK X own cc nL d) {host : String} {Q : Int32 → IM → JM → Prop} (hM : CtI X.1.2.1 X.2.1 X.2.2.1 y cc' maxL ty d' N Sh I J As Q) (hB : LB y cc' maxL (some ty) nA) (hL : LN own idx y host) (hd' : d' + 1 ≤ d) (hm : maxL ≤ 20)
    (hn : As.length = nA) (hst : st = As.reverse ++ rest) (hcat : (rest.map fun v => v.category).sum ≤ 8) (hd : decode cc pc = .ok (.invokestatic idx, 3)) (kk : ∀ r I' J', Q r I' J' → WX X k n N Sh I' J' (pc + 3) l (.int r :: rest)) (hk : k ≤ X.1.2.2.2.1.cells ∧ n ≤ X.1.2.2.2.1.slots := by first | assumption | exact ⟨Nat.zero_le _, Nat.zero_le _⟩) : WX X k n N Sh I J pc l st := by
  intro H locs ls h1 h2 h3
  have hts := hX.2.2.2.2.1
  refine va_calli (va_runSN (As := As) (rest := rest) ⟨hX.1, hX.2.1, hX.2.2.1, hX.2.2.2.1, hts⟩ hM ⟨va_cnB nA hts (tw_sub hB.1) rfl rfl rfl (hX.2.2.2.2.2.2.1 _ hL.1) (hts _ hB.2.1) hB.2.2 (room_ok hX hd' hm), hts _ hL.2, trivial⟩
    ⟨blindG, fun U hU hW => ⟨rfl, pre_to hX h1 U hU hW⟩⟩ rfl hn (h3.1.trans hX.2.2.1) hst (lv_room hcat) hd hk) h2 (fun q _ h => h) (fun q h => h) (fun r u t H1 locs1 ht hvm hw hG hz1 hk1 hS => ?_)
  have hG1 := hG.1
  rw [ht] at hG1
  exact kk r u.1 u.2 hw H1 locs1 ls (hG1.moved hvm.symm) hS h3
/-- Math.max -/
theorem wa_max (hX : XK X own cc nL d) {x y : Int32} (hL : Cond.methodLink own idx Lib.Math.max.name ∈ TWg) (hs : Cond.static Lib.Math.max.name ∈ TWg) (hi : Cond.initialized "java/lang/Math" ∈ TWg) (hc : Cond.code Lib.Math.max.name Lib.Math.max.code 2 (some .int) ∈ TWg) (hd1 : 1 ≤ d) (hcat : (rest.map fun v => v.category).sum ≤ 8) (hd : decode cc pc = .ok (.invokestatic idx, 3))
    (kk : WX X k n N Sh I J (pc + 3) l (.int (if x < y then y else x) :: rest)) (hk : k ≤ X.1.2.2.2.1.cells ∧ n ≤ X.1.2.2.2.1.slots := by first | assumption | exact ⟨Nat.zero_le _, Nat.zero_le _⟩) : WX X k n N Sh I J pc l (.int y :: .int x :: rest) := by
  intro H locs ls h1 h2 h3
  have hts := hX.2.2.2.2.1
  exact va_mmax hX.1 hX.2.1 h3.1.symm hX.2.2.2.1 (hts _ hL) (hts _ hs) (hts _ hi) (hts _ hc) (by rw [hX.2.2.2.2.2.2.2.1]; exact hd1) (by rw [hX.2.2.2.2.2.2.2.2]; omega) hk.1 hk.2 hd (kk H locs ls h1 h2 h3)
end WXC
/-! kinds of contracts: pure ones (P), ones that change numbers alone (M, void: MV) -/
abbrev CtP (l : Launch) (D : va_G) (A : Nat → Prop) (y : MethodName) (cc : ByteArray) (maxL : Nat) (ty : FieldType) (d N : Nat) (Sh : SM) (I : IM) (J : JM) (av : List Value) (q : Int32 → Prop) : Prop := CtI l D A y cc maxL ty d N Sh I J av (fun r I' J' => q r ∧ I' = I ∧ J' = J)
abbrev CtM (l : Launch) (D : va_G) (A : Nat → Prop) (y : MethodName) (cc : ByteArray) (maxL : Nat) (ty : FieldType) (d N : Nat) (Sh : SM) (I : IM) (J : JM) (av : List Value) (q : Int32 → IM → Prop) : Prop := CtI l D A y cc maxL ty d N Sh I J av (fun r I' J' => q r I' ∧ J' = J)
abbrev CtW (l : Launch) (D : va_G) (A : Nat → Prop) (y : MethodName) (cc : ByteArray) (maxL : Nat) (d N : Nat) (Sh : SM) (I : IM) (J : JM) (av : List Value) (q : IM → Prop) : Prop := CtV l D A y cc maxL d N Sh I J av (fun I' J' => q I' ∧ J' = J)
def bI (b : Bool) : Int32 := bif b then nI 1 else nI 0
theorem bI_0 {b : Bool} : bI b = 0 ↔ b = false := by cases b <;> decide
theorem bI_n0 {b : Bool} : ¬ bI b = 0 ↔ b = true := by cases b <;> decide
theorem nar_B (b : Bool) : narrow .boolean (.int (bI b)) = .int (bI b) := by cases b <;> rfl
section WXD
variable {X : Cx} {own : String} {cc : ByteArray} {nL d : Nat} {k n N : Nat} {Sh : SM} {I : IM} {J : JM} {pc : Nat} {l : List (Nat × Value)} {st rest : List Value}
variable {y : MethodName} {cc' : ByteArray} {maxL d' idx nA : Nat} {ty : FieldType} {As : List Value}
theorem wa_vP (hX : XK X own cc nL d) {C : String} {ci b : Nat} {q : Int32 → Prop} (hM : CtP X.1.2.1 X.2.1 X.2.2.1 y cc' maxL ty d' N Sh I J (.ref b :: As) q) (hB : LB y cc' maxL (some ty) nA) (hL : LV own idx C y) (hd' : d' + 1 ≤ d) (hm : maxL ≤ 20) (hci : ci < 7 ∧ C = clC ci) (hsh : Sh b = some (.inr ci)) (hn : As.length = nA) (hst : st = As.reverse ++ .ref b :: rest) (hcat : (rest.map fun v => v.category).sum ≤ 8) (hd : decode cc pc = .ok (.invokevirtual idx, 3)) (kk : ∀ r, q r → WX X k n N Sh I J (pc + 3) l (.int r :: rest)) (hk : k ≤ X.1.2.2.2.1.cells ∧ n ≤ X.1.2.2.2.1.slots := by first | assumption | exact ⟨Nat.zero_le _, Nat.zero_le _⟩) : WX X k n N Sh I J pc l st :=
  wa_callVI hX hM hB hL hd' hm hci hsh hn hst hcat hd (fun r I' J' hq => by obtain ⟨h, rfl, rfl⟩ := hq; exact kk r h) hk
theorem wa_vM (hX : XK X own cc nL d) {C : String} {ci b : Nat} {q : Int32 → IM → Prop} (hM : CtM X.1.2.1 X.2.1 X.2.2.1 y cc' maxL ty d' N Sh I J (.ref b :: As) q) (hB : LB y cc' maxL (some ty) nA) (hL : LV own idx C y) (hd' : d' + 1 ≤ d) (hm : maxL ≤ 20) (hci : ci < 7 ∧ C = clC ci) (hsh : Sh b = some (.inr ci)) (hn : As.length = nA) (hst : st = As.reverse ++ .ref b :: rest) (hcat : (rest.map fun v => v.category).sum ≤ 8) (hd : decode cc pc = .ok (.invokevirtual idx, 3)) (kk : ∀ r I', q r I' → WX X k n N Sh I' J (pc + 3) l (.int r :: rest)) (hk : k ≤ X.1.2.2.2.1.cells ∧ n ≤ X.1.2.2.2.1.slots := by first | assumption | exact ⟨Nat.zero_le _, Nat.zero_le _⟩) : WX X k n N Sh I J pc l st :=
  wa_callVI hX hM hB hL hd' hm hci hsh hn hst hcat hd (fun r I' J' hq => by obtain ⟨h, rfl⟩ := hq; exact kk r I' h) hk
theorem wa_vW (hX : XK X own cc nL d) {C : String} {ci b : Nat} {q : IM → Prop} (hM : CtW X.1.2.1 X.2.1 X.2.2.1 y cc' maxL d' N Sh I J (.ref b :: As) q) (hB : LB y cc' maxL none nA) (hL : LV own idx C y) (hd' : d' + 1 ≤ d) (hm : maxL ≤ 20) (hci : ci < 7 ∧ C = clC ci) (hsh : Sh b = some (.inr ci)) (hn : As.length = nA) (hst : st = As.reverse ++ .ref b :: rest) (hcat : (rest.map fun v => v.category).sum ≤ 8) (hd : decode cc pc = .ok (.invokevirtual idx, 3)) (kk : ∀ I', q I' → WX X k n N Sh I' J (pc + 3) l rest) (hk : k ≤ X.1.2.2.2.1.cells ∧ n ≤ X.1.2.2.2.1.slots := by first | assumption | exact ⟨Nat.zero_le _, Nat.zero_le _⟩) : WX X k n N Sh I J pc l st :=
  wa_callVV hX hM hB hL hd' hm hci hsh hn hst hcat hd (fun I' J' hq => by obtain ⟨h, rfl⟩ := hq; exact kk I' h) hk
theorem wa_sP (hX : XK X own cc nL d) {q : Int32 → Prop} (hM : CtP X.1.2.1 X.2.1 X.2.2.1 y cc' maxL ty d' N Sh I J As q) (hB : LB y cc' maxL (some ty) nA) (hL : LSt own idx y) (hd' : d' + 1 ≤ d) (hm : maxL ≤ 20) (hn : As.length = nA) (hst : st = As.reverse ++ rest) (hcat : (rest.map fun v => v.category).sum ≤ 8) (hd : decode cc pc = .ok (.invokestatic idx, 3)) (kk : ∀ r, q r → WX X k n N Sh I J (pc + 3) l (.int r :: rest)) (hk : k ≤ X.1.2.2.2.1.cells ∧ n ≤ X.1.2.2.2.1.slots := by first | assumption | exact ⟨Nat.zero_le _, Nat.zero_le _⟩) : WX X k n N Sh I J pc l st :=
  wa_callSI hX hM hB hL hd' hm hn hst hcat hd (fun r I' J' hq => by obtain ⟨h, rfl, rfl⟩ := hq; exact kk r h) hk
theorem wa_sM (hX : XK X own cc nL d) {q : Int32 → IM → Prop} (hM : CtM X.1.2.1 X.2.1 X.2.2.1 y cc' maxL ty d' N Sh I J As q) (hB : LB y cc' maxL (some ty) nA) (hL : LSt own idx y) (hd' : d' + 1 ≤ d) (hm : maxL ≤ 20) (hn : As.length = nA) (hst : st = As.reverse ++ rest) (hcat : (rest.map fun v => v.category).sum ≤ 8) (hd : decode cc pc = .ok (.invokestatic idx, 3)) (kk : ∀ r I', q r I' → WX X k n N Sh I' J (pc + 3) l (.int r :: rest)) (hk : k ≤ X.1.2.2.2.1.cells ∧ n ≤ X.1.2.2.2.1.slots := by first | assumption | exact ⟨Nat.zero_le _, Nat.zero_le _⟩) : WX X k n N Sh I J pc l st :=
  wa_callSI hX hM hB hL hd' hm hn hst hcat hd (fun r I' J' hq => by obtain ⟨h, rfl⟩ := hq; exact kk r I' h) hk
theorem wa_sW (hX : XK X own cc nL d) {q : IM → Prop} (hM : CtW X.1.2.1 X.2.1 X.2.2.1 y cc' maxL d' N Sh I J As q) (hB : LB y cc' maxL none nA) (hL : LSt own idx y) (hd' : d' + 1 ≤ d) (hm : maxL ≤ 20) (hn : As.length = nA) (hst : st = As.reverse ++ rest) (hcat : (rest.map fun v => v.category).sum ≤ 8) (hd : decode cc pc = .ok (.invokestatic idx, 3)) (kk : ∀ I', q I' → WX X k n N Sh I' J (pc + 3) l rest) (hk : k ≤ X.1.2.2.2.1.cells ∧ n ≤ X.1.2.2.2.1.slots := by first | assumption | exact ⟨Nat.zero_le _, Nat.zero_le _⟩) : WX X k n N Sh I J pc l st :=
  wa_callSV hX hM hB hL hd' hm hn hst hcat hd (fun I' J' hq => by obtain ⟨h, rfl⟩ := hq; exact kk I' h) hk
theorem wa_nP (hX : XK X own cc nL d) {host : String} {q : Int32 → Prop} (hM : CtP X.1.2.1 X.2.1 X.2.2.1 y cc' maxL ty d' N Sh I J As q) (hB : LB y cc' maxL (some ty) nA) (hL : LN own idx y host) (hd' : d' + 1 ≤ d) (hm : maxL ≤ 20) (hn : As.length = nA) (hst : st = As.reverse ++ rest) (hcat : (rest.map fun v => v.category).sum ≤ 8) (hd : decode cc pc = .ok (.invokestatic idx, 3)) (kk : ∀ r, q r → WX X k n N Sh I J (pc + 3) l (.int r :: rest)) (hk : k ≤ X.1.2.2.2.1.cells ∧ n ≤ X.1.2.2.2.1.slots := by first | assumption | exact ⟨Nat.zero_le _, Nat.zero_le _⟩) : WX X k n N Sh I J pc l st :=
  wa_callNI hX hM hB hL hd' hm hn hst hcat hd (fun r I' J' hq => by obtain ⟨h, rfl, rfl⟩ := hq; exact kk r h) hk
theorem wa_nM (hX : XK X own cc nL d) {host : String} {q : Int32 → IM → Prop} (hM : CtM X.1.2.1 X.2.1 X.2.2.1 y cc' maxL ty d' N Sh I J As q) (hB : LB y cc' maxL (some ty) nA) (hL : LN own idx y host) (hd' : d' + 1 ≤ d) (hm : maxL ≤ 20) (hn : As.length = nA) (hst : st = As.reverse ++ rest) (hcat : (rest.map fun v => v.category).sum ≤ 8) (hd : decode cc pc = .ok (.invokestatic idx, 3)) (kk : ∀ r I', q r I' → WX X k n N Sh I' J (pc + 3) l (.int r :: rest)) (hk : k ≤ X.1.2.2.2.1.cells ∧ n ≤ X.1.2.2.2.1.slots := by first | assumption | exact ⟨Nat.zero_le _, Nat.zero_le _⟩) : WX X k n N Sh I J pc l st :=
  wa_callNI hX hM hB hL hd' hm hn hst hcat hd (fun r I' J' hq => by obtain ⟨h, rfl⟩ := hq; exact kk r I' h) hk
end WXD
end
section
/-! more rows: System.arraycopy of 16 ints, dup2, i2c, ldc_w, iushr -/
section WXE
variable {X : Cx} {own : String} {cc : ByteArray} {nL d : Nat} {k n N : Nat} {Sh : SM} {I : IM} {J : JM} {pc : Nat} {l : List (Nat × Value)} {st rest : List Value}
theorem wa_dup2 (hX : XK X own cc nL d) {v w : Value} (hd : decode cc pc = .ok (.dup2, 1)) (hv : v.category = 1) (hw : w.category = 1) (kk : WX X k n N Sh I J (pc + 1) l (v :: w :: v :: w :: st)) : WX X k n N Sh I J pc l (v :: w :: st) :=
  fun H locs ls h1 h2 h3 => lv_dup2_11 hX.1 hX.2.1 hd hv hw (kk H locs ls h1 h2 h3)
theorem wa_i2c (hX : XK X own cc nL d) {x v : Int32} (hd : decode cc pc = .ok (.i2c, 1)) (hv : (x.toUInt32 % 65536).toInt32 = v) (kk : WX X k n N Sh I J (pc + 1) l (.int v :: st)) : WX X k n N Sh I J pc l (.int x :: st) :=
  fun H locs ls h1 h2 h3 => lv_i2c hX.1 hX.2.1 hd hv (kk H locs ls h1 h2 h3)
theorem wa_ldcw (hX : XK X own cc nL d) {index : Nat} {v : Int32} (hc : Cond.constant own index v ∈ TWg) (hd : decode cc pc = .ok (.ldc_w index, 3)) (kk : WX X k n N Sh I J (pc + 3) l (.int v :: st)) : WX X k n N Sh I J pc l st :=
  fun H locs ls h1 h2 h3 => lv_ldcw hX.1 hX.2.1 hX.2.2.2.1 (hX.2.2.2.2.1 _ hc) hd (kk H locs ls h1 h2 h3)
theorem wa_iushr (hX : XK X own cc nL d) {x y : Int32} (hd : decode cc pc = .ok (.iushr, 1)) (kk : WX X k n N Sh I J (pc + 1) l (.int ((x.toUInt32 >>> (y.toUInt32 &&& Int32.toUInt32 31)).toInt32) :: st)) : WX X k n N Sh I J pc l (.int y :: .int x :: st) :=
  fun H locs ls h1 h2 h3 => lv_iushr hX.1 hX.2.1 hd rfl (kk H locs ls h1 h2 h3)
theorem cell_cpy (c : ClassId) (n : Nat) (f g : Nat → Int32) : vp_cell c (n, .inl (va_cpy f g 0 0 n)) = vp_cell c (n, .inl f) := by
  rw [vp_cell_i, vp_cell_i]
  unfold arrV
  congr 1
  apply Array.ext
  · simp
  · intro i h1 h2
    simp at h1 ⊢
    simp [va_cpy, h1]
theorem wa_copy16 (hX : XK X own cc nL d) {a0 a idx : Nat} (hL : Cond.methodLink own idx arraycopyName ∈ TWg) (hnt : Cond.native arraycopyName ∈ TWg) (hst : Cond.static arraycopyName ∈ TWg) (hini : Cond.initialized "java/lang/System" ∈ TWg) (hs0 : shI Sh a0 16) (hs1 : shI Sh a 16) (hd1 : 1 ≤ d) (hcat : (rest.map fun v => v.category).sum ≤ 8) (hd : decode cc pc = .ok (.invokestatic idx, 3))
    (kk : WX X k n N Sh (uR I a (I a0)) J (pc + 3) l rest) : WX X k n N Sh I J pc l (.int (nI 16) :: .int (nI 0) :: .ref a :: .int (nI 0) :: .ref a0 :: rest) := by
  intro H locs ls h1 h2 h3
  obtain ⟨cA, hsa⟩ := hs0
  obtain ⟨cB, hsb⟩ := hs1
  obtain ⟨hz0, -, hK0⟩ := h1.2 a0 _ hsa
  obtain ⟨hz1, hA1, hK1⟩ := h1.2 a _ hsb
  have hts := hX.2.2.2.2.1
  intro T hT X0
  have hc0 : H[a0]? = some (vp_cell cA (16, .inl (I a0))) := hz0
  have hc1 : H[a]? = some (vp_cell cB (16, .inl (I a))) := hz1
  obtain ⟨-, k0, hk0, cm0, hkk0⟩ := hK0.1 16 (fun j => .int (I a0 j))
  obtain ⟨-, k1, hk1, cm1, hkk1⟩ := hK1.1 16 (fun j => .int (I a j))
  have n0 : ¬ (nI 0 : Int32) < 0 := by decide
  have n16 : ¬ (nI 16 : Int32) < 0 := by decide
  have t0 : (nI 0 : Int32).toInt = 0 := by decide
  have t16 : (nI 16 : Int32).toInt = 16 := by decide
  have u0 : (nI 0 : Int32).toNatClampNeg = 0 := by decide
  have u16 : (nI 16 : Int32).toNatClampNeg = 16 := by decide
  have hnf : nativeFrameWords "java/lang/System" "arraycopy" 5 ≤ 20 := by decide +kernel
  have hloc : 2 * (F0 X.1.2.2.2.2.2.1 pc ls (.int (nI 16) :: .int (nI 0) :: .ref a :: .int (nI 0) :: .ref a0 :: rest)).monitorRoom + (rest.map fun v => v.category).sum + (nativeFrameWords "java/lang/System" "arraycopy" 5 + 11) ≤ X.1.2.2.2.1.locals := by
    rw [hX.2.2.2.2.2.2.2.2]
    show 2 * 0 + _ + _ ≤ _
    omega
  obtain ⟨vm', X', step⟩ := X0.arraycopy hX.1 hX.2.2.2.1 (hts _ hL) (hts _ hnt) (hts _ hst) (hts _ hini) (src := a0) (dst := a) (cs := vp_cell cA (16, .inl (I a0))) (cd := vp_cell cB (16, .inl (I a))) (srcPos := nI 0) (destPos := nI 0) (n := nI 16) (by rw [hT]; exact hc0) (by rw [hT]; exact hc1)
    (fun _ h => by cases h) (fun _ h => by cases h) (fun h => by cases h) (fun h => by cases h) hk0 hk1 hkk0 hkk1 (by simp [refKind]) n0 n0 n16
    (by rw [t0, t16]; show ¬ _ > ((arrV cA 16 (fun j => .int (I a0 j))).slots.size : Int); rw [arrV_size]; omega)
    (by rw [t0, t16]; show ¬ _ > ((arrV cB 16 (fun j => .int (I a j))).slots.size : Int); rw [arrV_size]; omega)
    (fun vm₁ _ i hi => by
      rw [u16] at hi
      have e : (vp_cell cA (16, .inl (I a0))).slots.getD ((nI 0 : Int32).toNatClampNeg + i) .null = .int (I a0 i) := by
        show (arrV cA 16 (fun j => .int (I a0 j))).slots.getD _ _ = _
        rw [u0, Nat.zero_add, Array.getD_eq_getD_getElem?, arrV_read _ _ hi]
        rfl
      refine ⟨?_, ?_⟩
      · rw [e]
        rfl
      · rw [e]
        exact trivial)
    (g := F0 X.1.2.2.2.2.2.1 pc ls (.int (nI 16) :: .int (nI 0) :: .ref a :: .int (nI 0) :: .ref a0 :: rest)) rfl h3.1 (rest := rest) rfl (by rw [hX.2.1]; exact hd) (by rw [hX.2.2.2.2.2.2.2.1]; exact hd1) hloc
  have e1 : copied (vp_cell cA (16, .inl (I a0))) (vp_cell cB (16, .inl (I a))) (nI 0) (nI 0) (nI 16) = vp_cell cB (16, .inl (I a0)) := by
    have e0 : copied (vp_cell cA (16, .inl (I a0))) (vp_cell cB (16, .inl (I a))) (nI 0) (nI 0) (nI 16) = vp_cell cB (16, .inl (va_cpy (I a0) (I a) (nI 0 : Int32).toNatClampNeg (nI 0 : Int32).toNatClampNeg (nI 16 : Int32).toNatClampNeg)) := va_copied (fun z => .int z) cA cB (I a0) (I a) (by rw [u0, u16]; omega)
    rw [e0, u0, u16]
    exact cell_cpy cB 16 (I a0) (I a)
  rw [e1] at X' step
  have hl : a < H.size := (Array.getElem?_eq_some_iff.mp hc1).1
  have hheap : ((T.setVm vm').setCell a (vp_cell cB (16, .inl (I a0)))).heap = H.setIfInBounds a (vp_cell cB (16, .inl (I a0))) := by rw [← hT]; rfl
  have oq : ∀ q : Nat, q ≠ a → (H.setIfInBounds a (vp_cell cB (16, .inl (I a0))))[q]? = H[q]? := fun q hq => by simp [Array.getElem?_setIfInBounds, Ne.symm hq]
  obtain ⟨t, a1, b1⟩ := kk _ _ ls (h1.set (J' := J) hsb (show va_at X.2.1 vwCl (a, gmE (uR I a (I a0)) J a (.inl (cB, .int, 16))) (H.setIfInBounds a (vp_cell cB (16, .inl (I a0)))) from by
      show (H.setIfInBounds a (vp_cell cB (16, .inl (I a0))))[a]? = some (vp_cell cB (16, .inl (uR I a (I a0) a)))
      rw [uR_s]
      simp [Array.getElem?_setIfInBounds, hl]) (by simp) oq (fun b hb => uR_n hb) (fun _ _ => rfl)) ⟨by simp; exact h2.1, fun q g1 g2 => by
      rw [oq q (fun e => g2 (by rw [e]; exact hA1))]
      exact h2.2.1 q g1 g2, fun q hq => by
      rcases List.mem_append.mp hq with h | h
      · exact h2.2.2 q h
      · obtain ⟨z, -, hz⟩ := List.mem_map.mp h
        rw [← hz]
        exact hA1⟩ h3 _ hheap X'
  exact ⟨t, step t a1, b1⟩
def lall (l : List (Nat × Value)) : List (Nat × Value) → Prop
  | [] => True
  | q :: r => lget l q.1 = some q.2 ∧ lall l r
theorem lall_get {l : List (Nat × Value)} : ∀ {l' : List (Nat × Value)}, lall l l' → ∀ q ∈ l', lget l q.1 = some q.2
  | [], _, q, h => by cases h
  | x :: r, h, q, hq => by
    rcases List.mem_cons.mp hq with e | e
    · rw [e]; exact h.1
    · exact lall_get h.2 q e
/-- the listed locals that are wanted -/
theorem wx_sub {l' : List (Nat × Value)} (h : lall l l') (kk : WX X k n N Sh I J pc l' st) : WX X k n N Sh I J pc l st := wx_loc (lall_get h) kk
end WXE
end
section
/-! bits of an Int32: the first rows are the kit's to paste (BITS), the rest mine -/
def bt (x : Int32) (i : Nat) : Bool := x.toBitVec.getLsbD i
theorem b_ext {x y : Int32} (h : ∀ i, i < 32 → bt x i = bt y i) : x = y := Int32.toBitVec_inj.mp (BitVec.eq_of_getLsbD_eq (fun i hi => h i hi))
theorem b_or (x y : Int32) (i : Nat) : bt (x ||| y) i = (bt x i || bt y i) := by unfold bt; rw [Int32.toBitVec_or, BitVec.getLsbD_or]
theorem b_and (x y : Int32) (i : Nat) : bt (x &&& y) i = (bt x i && bt y i) := by unfold bt; rw [Int32.toBitVec_and, BitVec.getLsbD_and]
theorem b_xor (x y : Int32) (i : Nat) : bt (x ^^^ y) i = (bt x i ^^ bt y i) := by unfold bt; rw [Int32.toBitVec_xor, BitVec.getLsbD_xor]
theorem b_big {x : Int32} {i : Nat} (h : 32 ≤ i) : bt x i = false := BitVec.getLsbD_of_ge _ _ h
theorem b_255 (i : Nat) : bt 255 i = decide (i < 8) := by
  rcases Nat.lt_or_ge i 32 with h | h
  · exact (by decide +kernel : ∀ i, i < 32 → bt 255 i = decide (i < 8)) i h
  · rw [b_big h, decide_eq_false (by omega)]
theorem b_65535 (i : Nat) : bt 65535 i = decide (i < 16) := by
  rcases Nat.lt_or_ge i 32 with h | h
  · exact (by decide +kernel : ∀ i, i < 32 → bt 65535 i = decide (i < 16)) i h
  · rw [b_big h, decide_eq_false (by omega)]
theorem b_m1 : ∀ i, i < 32 → bt (-1) i = true := by decide +kernel
theorem b_0 (i : Nat) : bt 0 i = false := BitVec.getLsbD_zero
theorem s_l : ∀ n, n < 32 → ((nI n &&& 31).toBitVec.smod 32).toNat = n := by decide +kernel
theorem s_u : ∀ n, n < 32 → (((nI n).toUInt32 &&& Int32.toUInt32 31).toBitVec % 32).toNat = n := by decide +kernel
theorem b_shl (n : Nat) (hn : n < 32) (x : Int32) {i : Nat} (hi : i < 32) : bt (x <<< (nI n &&& 31)) i = (decide (n ≤ i) && bt x (i - n)) := by
  unfold bt
  rw [Int32.toBitVec_shiftLeft]
  show (x.toBitVec <<< ((nI n &&& 31).toBitVec.smod 32).toNat).getLsbD i = _
  rw [s_l n hn, BitVec.getLsbD_shiftLeft]
  rcases Nat.lt_or_ge i n with h | h
  · simp [h, Nat.not_le.mpr h]
  · simp [hi, h, Nat.not_lt.mpr h]
theorem b_ushr (n : Nat) (hn : n < 32) (x : Int32) (i : Nat) : bt ((x.toUInt32 >>> ((nI n).toUInt32 &&& Int32.toUInt32 31)).toInt32) i = bt x (n + i) := by
  show (x.toUInt32 >>> ((nI n).toUInt32 &&& Int32.toUInt32 31)).toBitVec.getLsbD i = x.toUInt32.toBitVec.getLsbD (n + i)
  rw [UInt32.toBitVec_shiftRight]
  show (x.toUInt32.toBitVec >>> (((nI n).toUInt32 &&& Int32.toUInt32 31).toBitVec % 32).toNat).getLsbD i = _
  rw [s_u n hn, BitVec.getLsbD_ushiftRight]
theorem b_sshr (n : Nat) (hn : n < 32) (x : Int32) {i : Nat} (hi : i < 32) : bt (x >>> (nI n &&& 31)) i = if n + i < 32 then bt x (n + i) else bt x 31 := by
  unfold bt
  rw [Int32.toBitVec_shiftRight]
  show (x.toBitVec.sshiftRight ((nI n &&& 31).toBitVec.smod 32).toNat).getLsbD i = _
  rw [s_l n hn, BitVec.getLsbD_sshiftRight, BitVec.msb_eq_getLsbD_last]
  simp [hi]
theorem bt_1 (i : Nat) : bt (nI 1) i = decide (i = 0) := by
  rcases Nat.lt_or_ge i 32 with h | h
  · exact (by decide +kernel : ∀ i, i < 32 → bt (nI 1) i = decide (i = 0)) i h
  · rw [b_big h, decide_eq_false (by omega)]
theorem bt_t1 {w : Nat} (hw : w < 32) (x : Int32) : (x >>> (nI w &&& 31) &&& nI 1 = nI 1) ↔ bt x w = true := by
  constructor
  · intro h
    have := congrArg (fun y => bt y 0) h
    simp only [b_and, b_sshr w hw x (show 0 < 32 by omega), bt_1] at this
    simpa [hw] using this
  · intro h
    apply b_ext
    intro i hi
    rw [b_and, bt_1]
    by_cases e : i = 0
    · subst e
      rw [b_sshr w hw x (by omega)]
      simp [hw, h]
    · simp [e]
theorem bt_t0 {w : Nat} (hw : w < 32) (x : Int32) : (x >>> (nI w &&& 31) &&& nI 1 = 0) ↔ bt x w = false := by
  constructor
  · intro h
    have := congrArg (fun y => bt y 0) h
    simp only [b_and, b_sshr w hw x (show 0 < 32 by omega), bt_1, b_0] at this
    simpa [hw] using this
  · intro h
    apply b_ext
    intro i hi
    rw [b_and, bt_1, b_0]
    by_cases e : i = 0
    · subst e
      rw [b_sshr w hw x (by omega)]
      simp [hw, h]
    · simp [e]
theorem bt_sh {k w : Nat} (hk : k < 32) (hw : w < 32) : bt (nI 1 <<< (nI k &&& 31)) w = decide (w = k) := by
  rw [b_shl k hk _ hw, bt_1]
  by_cases e : w = k
  · subst e; simp
  · by_cases h : k ≤ w
    · have : ¬ w - k = 0 := by omega
      simp [e, this]
    · simp [e, h]
end
section
/-! plain facts of numbers, folds and rows -/
theorem inc1 (a : Nat) : nI a + Int32.ofInt 1 = nI (a + 1) := nI_1 a
theorem dec1 (a : Nat) : nI (a + 1) + Int32.ofInt (-1) = nI a := pk_m1 a
def fold {σ : Type} (f : Nat → σ → σ) (s : σ) : Nat → σ
  | 0 => s
  | n + 1 => f n (fold f s n)
theorem fold_s {σ : Type} (f : Nat → σ → σ) (s : σ) (n : Nat) : fold f s (n + 1) = f n (fold f s n) := rfl
theorem fold_congr {σ : Type} {f g : Nat → σ → σ} {s : σ} : ∀ {n : Nat}, (∀ k x, k < n → f k x = g k x) → fold f s n = fold g s n
  | 0, _ => rfl
  | n + 1, h => by
    show f n (fold f s n) = g n (fold g s n)
    rw [fold_congr (n := n) (fun k x hk => h k x (by omega)), h n _ (by omega)]
/-- the first i places of g, the rest of f -/
def rowN (i : Nat) (g f : Nat → Int32) : Nat → Int32 := fun k => if k < i then g k else f k
theorem rowN_0 (g f : Nat → Int32) : rowN 0 g f = f := by funext k; simp [rowN]
theorem rowN_in {i k : Nat} {g f : Nat → Int32} (h : k < i) : rowN i g f k = g k := if_pos h
theorem rowN_out {i k : Nat} {g f : Nat → Int32} (h : i ≤ k) : rowN i g f k = f k := if_neg (by omega)
theorem rowN_s (i : Nat) (g f : Nat → Int32) : upd (rowN i g f) i (g i) = rowN (i + 1) g f := by
  funext k
  by_cases e : k = i
  · subst e; simp [upd, rowN]
  · by_cases h : k < i
    · simp [upd, rowN, e, h, show k < i + 1 by omega]
    · simp [upd, rowN, e, h, show ¬ k < i + 1 by omega]
theorem rowN_e {i : Nat} {g f : Nat → Int32} (h : g i = f i) : rowN i g f = rowN (i + 1) g f := by
  funext k
  by_cases e : k = i
  · subst e; simp [rowN, h]
  · by_cases h : k < i
    · simp [rowN, h, show k < i + 1 by omega]
    · simp [rowN, h, show ¬ k < i + 1 by omega]
theorem uR_uR {I : IM} {a : Nat} {f g : Nat → Int32} : uR (uR I a f) a g = uR I a g := by
  funext b
  by_cases e : b = a <;> simp [uR, e]
theorem uR_self {I : IM} {a : Nat} : uR I a (I a) = I := by
  funext b
  by_cases e : b = a <;> simp [uR, e]
theorem u2_row {I : IM} {a i : Nat} {g f : Nat → Int32} {v : Int32} (h : v = g i) : u2 (uR I a (rowN i g f)) a i v = uR I a (rowN (i + 1) g f) := by
  unfold u2
  rw [uR_uR, uR_s, h, rowN_s]
theorem row_e {I : IM} {a i : Nat} {g f : Nat → Int32} (h : g i = f i) : uR I a (rowN i g f) = uR I a (rowN (i + 1) g f) := by rw [rowN_e h]
theorem row_0 {I : IM} {a : Nat} {g : Nat → Int32} : I = uR I a (rowN 0 g (I a)) := by rw [rowN_0, uR_self]
/-- x has the bit k -/
def tb (x : Int32) (k : Int32) : Bool := decide (x >>> (k &&& 31) &&& nI 1 = nI 1)
def b1 (k : Int32) : Int32 := nI 1 <<< (k &&& 31)
/-- a row of values: each a key or 16 -/
def RV (f : Nat → Int32) (v : Nat → Nat) : Prop := ∀ k, k < 16 → f k = nI (v k) ∧ v k ≤ 16
def stp (v : Nat → Nat) (j : Nat) : Nat := if j < 16 then v j else 16
/-- n steps from j -/
def itr (v : Nat → Nat) : Nat → Nat → Nat
  | 0, j => j
  | n + 1, j => itr v n (stp v j)
theorem stp_le {f : Nat → Int32} {v : Nat → Nat} (h : RV f v) (j : Nat) : stp v j ≤ 16 := by
  unfold stp
  split
  · exact (h j (by assumption)).2
  · omega
theorem stp_16 (v : Nat → Nat) : stp v 16 = 16 := rfl
theorem itr_16 (v : Nat → Nat) : ∀ n, itr v n 16 = 16
  | 0 => rfl
  | n + 1 => itr_16 v n
theorem itr_add (v : Nat → Nat) : ∀ m n j, itr v (m + n) j = itr v n (itr v m j)
  | 0, n, j => by rw [Nat.zero_add]; rfl
  | m + 1, n, j => by rw [Nat.add_right_comm]; exact itr_add v m n (stp v j)
theorem itr_s (v : Nat → Nat) (n j : Nat) : itr v (n + 1) j = stp v (itr v n j) := itr_add v n 1 j
theorem itr_le {f : Nat → Int32} {v : Nat → Nat} (h : RV f v) : ∀ n {j : Nat}, j ≤ 16 → itr v n j ≤ 16
  | 0, _, hj => hj
  | n + 1, _, _ => itr_le h n (stp_le h _)
theorem ne_of_nI {a b : Nat} (h : ¬ nI a = nI b) : a ≠ b := fun e => h (by rw [e])
theorem eq_of_nI {a b : Nat} (h : nI a = nI b) (ha : a < 2 ^ 31) (hb : b < 2 ^ 31) : a = b := (nI_eq ha hb).mp h
theorem nI_ne {a b : Nat} (h : a ≠ b) (ha : a < 2 ^ 31) (hb : b < 2 ^ 31) : ¬ nI a = nI b := fun e => h ((nI_eq ha hb).mp e)
/-- how many of the first n have p -/
def cnt (p : Nat → Bool) : Nat → Nat
  | 0 => 0
  | n + 1 => if p n = true then cnt p n + 1 else cnt p n
theorem cnt_t {p : Nat → Bool} {n : Nat} (h : p n = true) : cnt p (n + 1) = cnt p n + 1 := if_pos h
theorem cnt_f {p : Nat → Bool} {n : Nat} (h : p n = false) : cnt p (n + 1) = cnt p n := if_neg (by rw [h]; decide)
theorem cnt_le (p : Nat → Bool) : ∀ n, cnt p n ≤ n
  | 0 => Nat.le_refl 0
  | n + 1 => by
    have := cnt_le p n
    unfold cnt
    split <;> omega
theorem cnt_congr {p q : Nat → Bool} : ∀ {n : Nat}, (∀ k, k < n → p k = q k) → cnt p n = cnt q n
  | 0, _ => rfl
  | n + 1, h => by
    unfold cnt
    rw [cnt_congr (n := n) (fun k hk => h k (by omega)), h n (by omega)]
theorem cnt_it {p : Nat → Bool} {n : Nat} (h : p n = true) : nI (cnt p n) + Int32.ofInt 1 = nI (cnt p (n + 1)) := by rw [cnt_t h]; exact inc1 _
theorem cnt_if {p : Nat → Bool} {n : Nat} (h : p n = false) : nI (cnt p n) = nI (cnt p (n + 1)) := by rw [cnt_f h]
/-- the uppermost one below n that has p, or -1 -/
def top (p : Nat → Bool) : Nat → Int32
  | 0 => -1
  | n + 1 => if p n = true then nI n else top p n
theorem top_t {p : Nat → Bool} {n : Nat} (h : p n = true) : top p (n + 1) = nI n := if_pos h
theorem top_f {p : Nat → Bool} {n : Nat} (h : p n = false) : top p (n + 1) = top p n := if_neg (by rw [h]; decide)
theorem top_or (p : Nat → Bool) : ∀ n, top p n = -1 ∨ ∃ j, j < n ∧ top p n = nI j ∧ p j = true
  | 0 => Or.inl rfl
  | n + 1 => by
    cases h : p n with
    | true => exact Or.inr ⟨n, by omega, top_t h, h⟩
    | false =>
      rw [top_f h]
      rcases top_or p n with e | ⟨j, h1, h2, h3⟩
      · exact Or.inl e
      · exact Or.inr ⟨j, by omega, h2, h3⟩
theorem top_congr {p q : Nat → Bool} : ∀ {n : Nat}, (∀ k, k < n → p k = q k) → top p n = top q n
  | 0, _ => rfl
  | n + 1, h => by
    unfold top
    rw [top_congr (n := n) (fun k hk => h k (by omega)), h n (by omega)]
/-- the set of those below n that have p, as bits -/
def bset (p : Nat → Bool) : Nat → Int32
  | 0 => nI 0
  | n + 1 => if p n = true then bset p n ||| b1 (nI n) else bset p n
theorem bset_t {p : Nat → Bool} {n : Nat} (h : p n = true) : bset p (n + 1) = bset p n ||| b1 (nI n) := if_pos h
theorem bset_f {p : Nat → Bool} {n : Nat} (h : p n = false) : bset p (n + 1) = bset p n := if_neg (by rw [h]; decide)
theorem bset_congr {p q : Nat → Bool} : ∀ {n : Nat}, (∀ k, k < n → p k = q k) → bset p n = bset q n
  | 0, _ => rfl
  | n + 1, h => by
    unfold bset
    rw [bset_congr (n := n) (fun k hk => h k (by omega)), h n (by omega)]
theorem bt_b1 {k w : Nat} (hk : k < 32) (hw : w < 32) : bt (b1 (nI k)) w = decide (w = k) := bt_sh hk hw
theorem bt_bset {p : Nat → Bool} {w : Nat} (hw : w < 32) : ∀ {n : Nat}, n ≤ 32 → bt (bset p n) w = (decide (w < n) && p w)
  | 0, _ => by
    have : bt (nI 0) w = false := b_0 w
    simp [bset, this]
  | n + 1, hn => by
    have ih := bt_bset (p := p) hw (n := n) (by omega)
    unfold bset
    cases hp : p n with
    | true =>
      simp only [↓reduceIte]
      rw [b_or, ih, bt_b1 (by omega) hw]
      by_cases e : w = n
      · subst e; simp [hp]
      · by_cases h : w < n
        · simp [e, h, show w < n + 1 by omega]
        · simp [e, h, show ¬ w < n + 1 by omega]
    | false =>
      simp only [Bool.false_eq_true, ↓reduceIte]
      rw [ih]
      by_cases e : w = n
      · subst e; simp [hp]
      · by_cases h : w < n
        · simp [h, show w < n + 1 by omega]
        · simp [h, show ¬ w < n + 1 by omega]
/-- the length of the cycle on which j stands, from s steps on, with fuel -/
def cycN (v : Nat → Nat) (j : Nat) : Nat → Nat → Nat
  | 0, _ => 0
  | f + 1, s => if itr v s j = 16 then 0 else if itr v s j = j then s else cycN v j f (s + 1)
def cyc (v : Nat → Nat) (j : Nat) : Nat := cycN v j 16 1
def sthN (v : Nat → Nat) (j : Nat) : Nat → Nat → Int32
  | 0, _ => -5
  | f + 1, s => if itr v (s + 1) j = 16 then nI s else sthN v j f (s + 1)
/-- was itr s met before -/
def metB (v : Nat → Nat) (j s w : Nat) : Bool := (List.range s).any (fun t => decide (itr v t j = w))
def retN (v : Nat → Nat) (j : Nat) : Nat → Nat → Int32
  | 0, _ => -5
  | f + 1, s => if itr v s j = 16 then -5 else if metB v j s (itr v s j) = true then nI s else retN v j f (s + 1)
def metI (v : Nat → Nat) (j : Nat) : Nat → Int32
  | 0 => nI 0
  | s + 1 => metI v j s ||| b1 (nI (itr v s j))
theorem metB_s (v : Nat → Nat) (j s w : Nat) : metB v j (s + 1) w = (metB v j s w || decide (itr v s j = w)) := by
  unfold metB
  rw [List.range_succ, List.any_append]
  simp
theorem bt_metI (v : Nat → Nat) (j : Nat) {w : Nat} (hw : w < 32) : ∀ s, (∀ t, t < s → itr v t j < 32) → bt (metI v j s) w = metB v j s w
  | 0, _ => by
    have : bt (nI 0) w = false := b_0 w
    simpa [metI, metB] using this
  | s + 1, h => by
    unfold metI
    rw [b_or, bt_metI v j hw s (fun t ht => h t (by omega)), bt_b1 (h s (by omega)) hw, metB_s]
    congr 1
    simp [eq_comm]
def maxI (x y : Int32) : Int32 := if x < y then y else x
/-- the inverse of v among the first i keys, at k -/
def invS (v : Nat → Nat) (r : Nat) : Nat → Nat → Nat
  | 0, _ => 16
  | i + 1, k => if v i = k then (if ((List.range i).any (fun t => decide (v t = k)) = false ∨ r = 2) then i else if r ≠ 1 then 16 else invS v r i k) else invS v r i k
theorem invS_le (v : Nat → Nat) (r : Nat) : ∀ i k, i ≤ 16 → invS v r i k ≤ 16
  | 0, _, _ => Nat.le_refl _
  | i + 1, k, h => by
    unfold invS
    have := invS_le v r i k (by omega)
    split
    · split
      · omega
      · split <;> omega
    · exact this
end
section
/-! the smallest static methods and Row -/
def inB (n : Nat) (x : Int32) : Bool := decide (¬ x < 0 ∧ ¬ nI n ≤ x)
theorem inB_t {n : Nat} (hn : n < 2 ^ 31) {x : Int32} (h : inB n x = true) : ∃ j, j < n ∧ x = nI j := by
  have h2 := of_decide_eq_true h
  rcases pk_ix x hn with a | a | a
  · exact absurd a h2.1
  · exact absurd a h2.2
  · exact a
theorem inB_nI {n j : Nat} (hj : j < 2 ^ 31) (hn : n < 2 ^ 31) : inB n (nI j) = decide (j < n) := by
  unfold inB
  by_cases h : j < n
  · have := nI_ge h hn
    simp [h, nI_pos hj, this]
  · have := nI_le (Nat.le_of_not_lt h) hj
    simp [h, this]
theorem inB_f {n : Nat} (hn : n < 2 ^ 31) {x : Int32} (h : inB n x = false) : ∀ j, j < n → x ≠ nI j := by
  intro j hj e
  rw [e, inB_nI (by omega) hn] at h
  simp [hj] at h
def orN (x : Int32) : Int32 := if x = nI 16 then -5 else x
set_option maxHeartbeats 4000000 in
set_option maxRecDepth 100000 in
theorem tX6_isKey {l : Launch} {D : va_G} {A : Nat → Prop} {N : Nat} {Sh : SM} {J : JM} (I : IM) (x : Int32) : CtP l D A yX6_isKey cX6_isKey 1 FieldType.boolean 0 N Sh I J [.int x] (fun r => r = bI (inB 16 x)) := by
  refine ct_I (l0 := [(0, .int x)]) (by decide +kernel) (Nat.le_of_ble_eq_true rfl) rfl (fun _ _ _ h => by obtain ⟨rfl, _⟩ := h; exact nar_B _) ?_
  intro X hX hret _ _ _
  have hX : XK X RX6 cX6_isKey 1 0 := hX
  refine wa_iload_n hX dX6_isKey_0 rfl ?_
  refine wa_if_lt (tgt := 14) hX dX6_isKey_1 (by decide) (fun c_1 => ?_) (fun c_1 => ?_)
  · skip
    refine wa_iconst (v := nI 0) hX dX6_isKey_14 (by decide) ?_
    exact hret _ _ _ _ _ ⟨(by simp [inB, bI, c_1]), rfl, rfl⟩ dX6_isKey_15
  · skip
    refine wa_iload_n hX dX6_isKey_4 rfl ?_
    refine wa_bipush (v := nI 16) hX dX6_isKey_5 (by decide) ?_
    refine wa_icmp_ge (tgt := 14) hX dX6_isKey_7 (by decide) (fun c_7 => ?_) (fun c_7 => ?_)
    · skip
      refine wa_iconst (v := nI 0) hX dX6_isKey_14 (by decide) ?_
      exact hret _ _ _ _ _ ⟨(by simp [inB, bI, c_7]), rfl, rfl⟩ dX6_isKey_15
    · skip
      refine wa_iconst (v := nI 1) hX dX6_isKey_10 (by decide) ?_
      refine wa_goto (tgt := 15) hX dX6_isKey_11 (by decide) ?_
      exact hret _ _ _ _ _ ⟨(by simp [inB, bI, c_1, c_7]), rfl, rfl⟩ dX6_isKey_15

set_option maxHeartbeats 4000000 in
set_option maxRecDepth 100000 in
theorem tX6_isMap {l : Launch} {D : va_G} {A : Nat → Prop} {N : Nat} {Sh : SM} {J : JM} (I : IM) (x : Int32) : CtP l D A yX6_isMap cX6_isMap 1 FieldType.boolean 0 N Sh I J [.int x] (fun r => r = bI (inB 6 x)) := by
  refine ct_I (l0 := [(0, .int x)]) (by decide +kernel) (Nat.le_of_ble_eq_true rfl) rfl (fun _ _ _ h => by obtain ⟨rfl, _⟩ := h; exact nar_B _) ?_
  intro X hX hret _ _ _
  have hX : XK X RX6 cX6_isMap 1 0 := hX
  refine wa_iload_n hX dX6_isMap_0 rfl ?_
  refine wa_if_lt (tgt := 14) hX dX6_isMap_1 (by decide) (fun c_1 => ?_) (fun c_1 => ?_)
  · skip
    refine wa_iconst (v := nI 0) hX dX6_isMap_14 (by decide) ?_
    exact hret _ _ _ _ _ ⟨(by simp [inB, bI, c_1]), rfl, rfl⟩ dX6_isMap_15
  · skip
    refine wa_iload_n hX dX6_isMap_4 rfl ?_
    refine wa_bipush (v := nI 6) hX dX6_isMap_5 (by decide) ?_
    refine wa_icmp_ge (tgt := 14) hX dX6_isMap_7 (by decide) (fun c_7 => ?_) (fun c_7 => ?_)
    · skip
      refine wa_iconst (v := nI 0) hX dX6_isMap_14 (by decide) ?_
      exact hret _ _ _ _ _ ⟨(by simp [inB, bI, c_7]), rfl, rfl⟩ dX6_isMap_15
    · skip
      refine wa_iconst (v := nI 1) hX dX6_isMap_10 (by decide) ?_
      refine wa_goto (tgt := 15) hX dX6_isMap_11 (by decide) ?_
      exact hret _ _ _ _ _ ⟨(by simp [inB, bI, c_1, c_7]), rfl, rfl⟩ dX6_isMap_15

set_option maxHeartbeats 4000000 in
set_option maxRecDepth 100000 in
theorem tX6_orNone {l : Launch} {D : va_G} {A : Nat → Prop} {N : Nat} {Sh : SM} {J : JM} (I : IM) (x : Int32) : CtP l D A yX6_orNone cX6_orNone 1 FieldType.int 0 N Sh I J [.int x] (fun r => r = orN x) := by
  refine ct_I (l0 := [(0, .int x)]) (by decide +kernel) (Nat.le_of_ble_eq_true rfl) rfl (fun _ _ _ _ => rfl) ?_
  intro X hX hret _ _ _
  have hX : XK X RX6 cX6_orNone 1 0 := hX
  refine wa_iload_n hX dX6_orNone_0 rfl ?_
  refine wa_bipush (v := nI 16) hX dX6_orNone_1 (by decide) ?_
  refine wa_icmp_ne (tgt := 11) hX dX6_orNone_3 (by decide) (fun c_3 => ?_) (fun c_3 => ?_)
  · skip
    refine wa_iload_n hX dX6_orNone_11 rfl ?_
    exact hret _ _ _ _ _ ⟨(by simp [orN, c_3]), rfl, rfl⟩ dX6_orNone_12
  · skip
    refine wa_bipush (v := -5) hX dX6_orNone_6 (by decide) ?_
    refine wa_goto (tgt := 12) hX dX6_orNone_8 (by decide) ?_
    exact hret _ _ _ _ _ ⟨(by simp [orN, c_3]), rfl, rfl⟩ dX6_orNone_12

set_option maxHeartbeats 4000000 in
set_option maxRecDepth 100000 in
theorem tX2_step {l : Launch} {D : va_G} {A : Nat → Prop} {N : Nat} {Sh : SM} {J : JM} (I : IM) {a : Nat} {v : Nat → Nat} (hs : shI Sh a 16) (hv : RV (I a) v) {j : Nat} (hj : j ≤ 16) : CtP l D A yX2_step cX2_step 2 FieldType.int 0 N Sh I J [.ref a, .int (nI j)] (fun r => r = nI (stp v j)) := by
  refine ct_I (l0 := [(0, .ref a), (1, .int (nI j))]) (by decide +kernel) (Nat.le_of_ble_eq_true rfl) rfl (fun _ _ _ _ => rfl) ?_
  intro X hX hret _ _ _
  have hX : XK X RX2 cX2_step 2 0 := hX
  refine wa_iload_n hX dX2_step_0 rfl ?_
  refine wa_if_lt (tgt := 16) hX dX2_step_1 (by decide) (fun c_1 => absurd c_1 (nI_pos (by omega))) (fun c_1 => ?_)
  refine wa_iload_n hX dX2_step_4 rfl ?_
  refine wa_bipush (v := nI 16) hX dX2_step_5 (by decide) ?_
  refine wa_icmp_ge (tgt := 16) hX dX2_step_7 (by decide) (fun c_7 => ?_) (fun c_7 => ?_)
  · skip
    have hge : j = 16 := by
      rcases Nat.lt_or_ge j 16 with h | h
      · exact absurd c_7 (nI_ge h (by decide))
      · omega
    subst hge
    refine wa_bipush (v := nI 16) hX dX2_step_16 (by decide) ?_
    exact hret _ _ _ _ _ ⟨rfl, rfl, rfl⟩ dX2_step_18
  · skip
    have hlt : j < 16 := by
      rcases Nat.lt_or_ge j 16 with h | h
      · exact h
      · exact absurd (nI_le h (by omega)) c_7
    refine wa_aload_n hX dX2_step_10 rfl ?_
    refine wa_iload_n hX dX2_step_11 rfl ?_
    refine wa_iald hX (by assumption) rfl (by first | assumption | omega) (by decide) dX2_step_12 ?_
    refine wa_goto (tgt := 18) hX dX2_step_13 (by decide) ?_
    exact hret _ _ _ _ _ ⟨(by rw [(hv j hlt).1]; simp [stp, hlt]), rfl, rfl⟩ dX2_step_18

set_option maxHeartbeats 4000000 in
set_option maxRecDepth 100000 in
theorem tX2_walk {l : Launch} {D : va_G} {A : Nat → Prop} {N : Nat} {Sh : SM} {J : JM} (I : IM) {a : Nat} {v : Nat → Nat} (hs : shI Sh a 16) (hv : RV (I a) v) {j n0 : Nat} (hj : j ≤ 16) (hn0 : n0 < 2 ^ 31) : CtP l D A yX2_walk cX2_walk 5 FieldType.int 1 N Sh I J [.ref a, .int (nI j), .int (nI n0)] (fun r => r = nI (itr v n0 j)) := by
  refine ct_I (l0 := [(0, .ref a), (1, .int (nI j)), (2, .int (nI n0))]) (by decide +kernel) (Nat.le_of_ble_eq_true rfl) rfl (fun _ _ _ _ => rfl) ?_
  intro X hX hret _ _ _
  have hX : XK X RX2 cX2_walk 5 1 := hX
  have lp : ∀ (n i : Nat) (x3 : Int32), i + n = n0 → (x3 = nI (itr v i j)) → WX X 0 0 N Sh I J 5 [(0, .ref a), (1, .int (nI j)), (2, .int (nI n0)), (3, .int x3), (4, .int (nI i))] [] := by
    intro n
    induction n with
    | zero =>
      intro i x3 hi e3
      obtain rfl : n0 = i := by omega
      refine wa_iload hX dX2_walk_5 rfl ?_
      refine wa_iload_n hX dX2_walk_7 rfl ?_
      refine wa_icmp_ge (tgt := 29) hX dX2_walk_8 (by decide) (fun c_8 => ?_) (fun c_8 => absurd (Int32.le_refl _) c_8)
      refine wa_iload_n hX dX2_walk_29 rfl ?_
      exact hret _ _ _ _ _ ⟨e3, rfl, rfl⟩ dX2_walk_30
    | succ n ih =>
      intro i x3 hi e3
      have hlt : i < n0 := by omega
      refine wa_iload hX dX2_walk_5 rfl ?_
      refine wa_iload_n hX dX2_walk_7 rfl ?_
      refine wa_icmp_ge (tgt := 29) hX dX2_walk_8 (by decide) (fun c_8 => absurd c_8 (nI_ge hlt hn0)) (fun c_8 => ?_)
      subst e3
      refine wa_iload_n hX dX2_walk_11 rfl ?_
      refine wa_bipush (v := nI 16) hX dX2_walk_12 (by decide) ?_
      refine wa_icmp_eq (tgt := 29) hX dX2_walk_14 (by decide) (fun c_14 => ?_) (fun c_14 => ?_)
      · skip
        have h16 := eq_of_nI c_14 (by have := itr_le hv i hj; omega) (by decide)
        refine wa_iload_n hX dX2_walk_29 rfl ?_
        exact hret _ _ _ _ _ ⟨(by rw [show n0 = i + (n0 - i) by omega, itr_add, h16, itr_16]), rfl, rfl⟩ dX2_walk_30
      · skip
        refine wa_aload_n hX dX2_walk_17 rfl ?_
        refine wa_iload_n hX dX2_walk_18 rfl ?_
        refine wa_sP hX (tX2_step I hs hv (itr_le hv i hj)) bX2_step mX2_15 (by decide) (by decide) rfl rfl (Nat.le_of_ble_eq_true rfl) dX2_walk_19 (fun r_19 q_19 => ?_)
        rw [← itr_s] at q_19
        refine wa_istore_n hX dX2_walk_22 (by decide) ?_
        refine wa_iinc hX dX2_walk_23 rfl (inc1 _) (by decide) ?_
        refine wa_goto (tgt := 5) hX dX2_walk_26 (by decide) ?_
        refine wx_sub (l' := [(0, _), (1, _), (2, _), (3, _), (4, _)]) ⟨rfl, rfl, rfl, rfl, rfl, trivial⟩ ?_
        exact ih (i + 1) _ (by omega) q_19
  refine wa_iload_n hX dX2_walk_0 rfl ?_
  refine wa_istore_n hX dX2_walk_1 (by decide) ?_
  refine wa_iconst (v := nI 0) hX dX2_walk_2 (by decide) ?_
  refine wa_istore hX dX2_walk_3 (by decide) ?_
  exact lp n0 0 _ (by omega) rfl

set_option maxHeartbeats 4000000 in
set_option maxRecDepth 100000 in
theorem tX2_holes {l : Launch} {D : va_G} {A : Nat → Prop} {N : Nat} {Sh : SM} {J : JM} (I : IM) {a : Nat} (hs : shI Sh a 16) : CtP l D A yX2_holes cX2_holes 3 FieldType.int 0 N Sh I J [.ref a] (fun r => r = bset (fun k => decide (I a k = nI 16)) 16) := by
  refine ct_I (l0 := [(0, .ref a)]) (by decide +kernel) (Nat.le_of_ble_eq_true rfl) rfl (fun _ _ _ _ => rfl) ?_
  intro X hX hret _ _ _
  have hX : XK X RX2 cX2_holes 3 0 := hX
  have lp : ∀ (n i : Nat) (x : Int32), i + n = 16 → (x = bset (fun k => decide (I a k = nI 16)) i) → WX X 0 0 N Sh I J 4 [(0, .ref a), (1, .int x), (2, .int (nI i))] [] := by
    intro n
    induction n with
    | zero =>
      intro i x hi ex
      obtain rfl : 16 = i := by omega
      refine wa_iload_n hX dX2_holes_4 rfl ?_
      refine wa_bipush (v := nI 16) hX dX2_holes_5 (by decide) ?_
      refine wa_icmp_ge (tgt := 30) hX dX2_holes_7 (by decide) (fun c_7 => ?_) (fun c_7 => absurd (Int32.le_refl _) c_7)
      refine wa_iload_n hX dX2_holes_30 rfl ?_
      exact hret _ _ _ _ _ ⟨ex, rfl, rfl⟩ dX2_holes_31
    | succ n ih =>
      intro i x hi ex
      have hlt : i < 16 := by omega
      refine wa_iload_n hX dX2_holes_4 rfl ?_
      refine wa_bipush (v := nI 16) hX dX2_holes_5 (by decide) ?_
      refine wa_icmp_ge (tgt := 30) hX dX2_holes_7 (by decide) (fun c_7 => absurd c_7 (nI_ge hlt (by decide))) (fun c_7 => ?_)
      refine wa_aload_n hX dX2_holes_10 rfl ?_
      refine wa_iload_n hX dX2_holes_11 rfl ?_
      refine wa_iald hX (by assumption) rfl (by first | assumption | omega) (by decide) dX2_holes_12 ?_
      refine wa_bipush (v := nI 16) hX dX2_holes_13 (by decide) ?_
      refine wa_icmp_ne (tgt := 24) hX dX2_holes_15 (by decide) (fun c_15 => ?_) (fun c_15 => ?_)
      · skip
        refine wa_iinc hX dX2_holes_24 rfl (inc1 _) (by decide) ?_
        refine wa_goto (tgt := 4) hX dX2_holes_27 (by decide) ?_
        refine wx_sub (l' := [(0, _), (1, _), (2, _)]) ⟨rfl, rfl, rfl, trivial⟩ ?_
        exact ih (i + 1) _ (by omega) (by rw [ex]; exact (bset_f (by simp [c_15])).symm)
      · skip
        refine wa_iload_n hX dX2_holes_18 rfl ?_
        refine wa_iconst (v := nI 1) hX dX2_holes_19 (by decide) ?_
        refine wa_iload_n hX dX2_holes_20 rfl ?_
        refine wa_ishl hX dX2_holes_21 ?_
        refine wa_ior hX dX2_holes_22 ?_
        refine wa_istore_n hX dX2_holes_23 (by decide) ?_
        refine wa_iinc hX dX2_holes_24 rfl (inc1 _) (by decide) ?_
        refine wa_goto (tgt := 4) hX dX2_holes_27 (by decide) ?_
        refine wx_sub (l' := [(0, _), (1, _), (2, _)]) ⟨rfl, rfl, rfl, trivial⟩ ?_
        exact ih (i + 1) _ (by omega) (by rw [ex]; exact (bset_t (by simp [c_15])).symm)
  refine wa_iconst (v := nI 0) hX dX2_holes_0 (by decide) ?_
  refine wa_istore_n hX dX2_holes_1 (by decide) ?_
  refine wa_iconst (v := nI 0) hX dX2_holes_2 (by decide) ?_
  refine wa_istore_n hX dX2_holes_3 (by decide) ?_
  exact lp 16 0 _ (by omega) rfl

set_option maxHeartbeats 4000000 in
set_option maxRecDepth 100000 in
theorem tX2_fixed {l : Launch} {D : va_G} {A : Nat → Prop} {N : Nat} {Sh : SM} {J : JM} (I : IM) {a : Nat} (hs : shI Sh a 16) : CtP l D A yX2_fixed cX2_fixed 3 FieldType.int 0 N Sh I J [.ref a] (fun r => r = bset (fun k => decide (I a k = nI k)) 16) := by
  refine ct_I (l0 := [(0, .ref a)]) (by decide +kernel) (Nat.le_of_ble_eq_true rfl) rfl (fun _ _ _ _ => rfl) ?_
  intro X hX hret _ _ _
  have hX : XK X RX2 cX2_fixed 3 0 := hX
  have lp : ∀ (n i : Nat) (x : Int32), i + n = 16 → (x = bset (fun k => decide (I a k = nI k)) i) → WX X 0 0 N Sh I J 4 [(0, .ref a), (1, .int x), (2, .int (nI i))] [] := by
    intro n
    induction n with
    | zero =>
      intro i x hi ex
      obtain rfl : 16 = i := by omega
      refine wa_iload_n hX dX2_fixed_4 rfl ?_
      refine wa_bipush (v := nI 16) hX dX2_fixed_5 (by decide) ?_
      refine wa_icmp_ge (tgt := 29) hX dX2_fixed_7 (by decide) (fun c_7 => ?_) (fun c_7 => absurd (Int32.le_refl _) c_7)
      refine wa_iload_n hX dX2_fixed_29 rfl ?_
      exact hret _ _ _ _ _ ⟨ex, rfl, rfl⟩ dX2_fixed_30
    | succ n ih =>
      intro i x hi ex
      have hlt : i < 16 := by omega
      refine wa_iload_n hX dX2_fixed_4 rfl ?_
      refine wa_bipush (v := nI 16) hX dX2_fixed_5 (by decide) ?_
      refine wa_icmp_ge (tgt := 29) hX dX2_fixed_7 (by decide) (fun c_7 => absurd c_7 (nI_ge hlt (by decide))) (fun c_7 => ?_)
      refine wa_aload_n hX dX2_fixed_10 rfl ?_
      refine wa_iload_n hX dX2_fixed_11 rfl ?_
      refine wa_iald hX (by assumption) rfl (by first | assumption | omega) (by decide) dX2_fixed_12 ?_
      refine wa_iload_n hX dX2_fixed_13 rfl ?_
      refine wa_icmp_ne (tgt := 23) hX dX2_fixed_14 (by decide) (fun c_14 => ?_) (fun c_14 => ?_)
      · skip
        refine wa_iinc hX dX2_fixed_23 rfl (inc1 _) (by decide) ?_
        refine wa_goto (tgt := 4) hX dX2_fixed_26 (by decide) ?_
        refine wx_sub (l' := [(0, _), (1, _), (2, _)]) ⟨rfl, rfl, rfl, trivial⟩ ?_
        exact ih (i + 1) _ (by omega) (by rw [ex]; exact (bset_f (by simp [c_14])).symm)
      · skip
        refine wa_iload_n hX dX2_fixed_17 rfl ?_
        refine wa_iconst (v := nI 1) hX dX2_fixed_18 (by decide) ?_
        refine wa_iload_n hX dX2_fixed_19 rfl ?_
        refine wa_ishl hX dX2_fixed_20 ?_
        refine wa_ior hX dX2_fixed_21 ?_
        refine wa_istore_n hX dX2_fixed_22 (by decide) ?_
        refine wa_iinc hX dX2_fixed_23 rfl (inc1 _) (by decide) ?_
        refine wa_goto (tgt := 4) hX dX2_fixed_26 (by decide) ?_
        refine wx_sub (l' := [(0, _), (1, _), (2, _)]) ⟨rfl, rfl, rfl, trivial⟩ ?_
        exact ih (i + 1) _ (by omega) (by rw [ex]; exact (bset_t (by simp [c_14])).symm)
  refine wa_iconst (v := nI 0) hX dX2_fixed_0 (by decide) ?_
  refine wa_istore_n hX dX2_fixed_1 (by decide) ?_
  refine wa_iconst (v := nI 0) hX dX2_fixed_2 (by decide) ?_
  refine wa_istore_n hX dX2_fixed_3 (by decide) ?_
  exact lp 16 0 _ (by omega) rfl

set_option maxHeartbeats 4000000 in
set_option maxRecDepth 100000 in
theorem tX2_difference {l : Launch} {D : va_G} {A : Nat → Prop} {N : Nat} {Sh : SM} {J : JM} (I : IM) {a b : Nat} (hs : shI Sh a 16) (hs2 : shI Sh b 16) : CtP l D A yX2_difference cX2_difference 4 FieldType.int 0 N Sh I J [.ref a, .ref b] (fun r => r = bset (fun k => !decide (I a k = I b k)) 16) := by
  refine ct_I (l0 := [(0, .ref a), (1, .ref b)]) (by decide +kernel) (Nat.le_of_ble_eq_true rfl) rfl (fun _ _ _ _ => rfl) ?_
  intro X hX hret _ _ _
  have hX : XK X RX2 cX2_difference 4 0 := hX
  have lp : ∀ (n i : Nat) (x : Int32), i + n = 16 → (x = bset (fun k => !decide (I a k = I b k)) i) → WX X 0 0 N Sh I J 4 [(0, .ref a), (1, .ref b), (2, .int x), (3, .int (nI i))] [] := by
    intro n
    induction n with
    | zero =>
      intro i x hi ex
      obtain rfl : 16 = i := by omega
      refine wa_iload_n hX dX2_difference_4 rfl ?_
      refine wa_bipush (v := nI 16) hX dX2_difference_5 (by decide) ?_
      refine wa_icmp_ge (tgt := 31) hX dX2_difference_7 (by decide) (fun c_7 => ?_) (fun c_7 => absurd (Int32.le_refl _) c_7)
      refine wa_iload_n hX dX2_difference_31 rfl ?_
      exact hret _ _ _ _ _ ⟨ex, rfl, rfl⟩ dX2_difference_32
    | succ n ih =>
      intro i x hi ex
      have hlt : i < 16 := by omega
      refine wa_iload_n hX dX2_difference_4 rfl ?_
      refine wa_bipush (v := nI 16) hX dX2_difference_5 (by decide) ?_
      refine wa_icmp_ge (tgt := 31) hX dX2_difference_7 (by decide) (fun c_7 => absurd c_7 (nI_ge hlt (by decide))) (fun c_7 => ?_)
      refine wa_aload_n hX dX2_difference_10 rfl ?_
      refine wa_iload_n hX dX2_difference_11 rfl ?_
      refine wa_iald hX hs rfl (by first | assumption | omega) (by decide) dX2_difference_12 ?_
      refine wa_aload_n hX dX2_difference_13 rfl ?_
      refine wa_iload_n hX dX2_difference_14 rfl ?_
      refine wa_iald hX hs2 rfl (by first | assumption | omega) (by decide) dX2_difference_15 ?_
      refine wa_icmp_eq (tgt := 25) hX dX2_difference_16 (by decide) (fun c_16 => ?_) (fun c_16 => ?_)
      · skip
        refine wa_iinc hX dX2_difference_25 rfl (inc1 _) (by decide) ?_
        refine wa_goto (tgt := 4) hX dX2_difference_28 (by decide) ?_
        refine wx_sub (l' := [(0, _), (1, _), (2, _), (3, _)]) ⟨rfl, rfl, rfl, rfl, trivial⟩ ?_
        exact ih (i + 1) _ (by omega) (by rw [ex]; exact (bset_f (by simp [c_16])).symm)
      · skip
        refine wa_iload_n hX dX2_difference_19 rfl ?_
        refine wa_iconst (v := nI 1) hX dX2_difference_20 (by decide) ?_
        refine wa_iload_n hX dX2_difference_21 rfl ?_
        refine wa_ishl hX dX2_difference_22 ?_
        refine wa_ior hX dX2_difference_23 ?_
        refine wa_istore_n hX dX2_difference_24 (by decide) ?_
        refine wa_iinc hX dX2_difference_25 rfl (inc1 _) (by decide) ?_
        refine wa_goto (tgt := 4) hX dX2_difference_28 (by decide) ?_
        refine wx_sub (l' := [(0, _), (1, _), (2, _), (3, _)]) ⟨rfl, rfl, rfl, rfl, trivial⟩ ?_
        exact ih (i + 1) _ (by omega) (by rw [ex]; exact (bset_t (by simp [c_16])).symm)
  refine wa_iconst (v := nI 0) hX dX2_difference_0 (by decide) ?_
  refine wa_istore_n hX dX2_difference_1 (by decide) ?_
  refine wa_iconst (v := nI 0) hX dX2_difference_2 (by decide) ?_
  refine wa_istore_n hX dX2_difference_3 (by decide) ?_
  exact lp 16 0 _ (by omega) rfl
end
section
/-! Pile: an object at a; its layers' rows at a+2+l, which are on at a+6, its values at a+7, its height a's place 3 -/
def PL (Sh : SM) (J : JM) (a : Nat) : Prop := Sh a = some (.inr 0) ∧ J a 0 = some (a + 1) ∧ J a 1 = some (a + 6) ∧ J a 2 = some (a + 7) ∧ shR Sh (a + 1) 4 ∧ (∀ j, j < 4 → J (a + 1) j = some (a + 2 + j) ∧ shI Sh (a + 2 + j) 16) ∧ shZ Sh (a + 6) 4 ∧ shI Sh (a + 7) 16
/-- the layer l is on and has an entry for k -/
def lon (I : IM) (a k l : Nat) : Bool := !decide (I (a + 6) l = 0) && !decide (I (a + 2 + l) k = nI 17)
def tlc (I : IM) (a k l : Nat) : Bool := decide (nI l < I a 3) && lon I a k l
/-- the layer that tells of k, or -1 -/
def telC (I : IM) (a k : Nat) : Int32 := top (tlc I a k) 4
theorem lt_nI {a b : Nat} (h : a < b) (hb : b < 2 ^ 31) : nI a < nI b := nI_lt h hb
set_option maxHeartbeats 4000000 in
set_option maxRecDepth 100000 in
theorem tX0_entriesIn {l : Launch} {D : va_G} {A : Nat → Prop} {N : Nat} {Sh : SM} {J : JM} (I : IM) {a : Nat} (hP : PL Sh J a) {la : Nat} (hla : la < 4) : CtP l D A yX0_entriesIn cX0_entriesIn 4 FieldType.int 0 N Sh I J [.ref a, .int (nI la)] (fun r => r = nI (cnt (fun k => !decide (I (a + 2 + la) k = nI 17)) 16)) := by
  refine ct_I (l0 := [(0, .ref a), (1, .int (nI la))]) (by decide +kernel) (Nat.le_of_ble_eq_true rfl) rfl (fun _ _ _ _ => rfl) ?_
  intro X hX hret _ _ _
  have hX : XK X RX0 cX0_entriesIn 4 0 := hX
  obtain ⟨h0, hj0, hj1, hj2, hr, hrow, hz, hv7⟩ := hP
  have lp : ∀ (n i : Nat) (x : Int32), i + n = 16 → (x = nI (cnt (fun k => !decide (I (a + 2 + la) k = nI 17)) i)) → WX X 0 0 N Sh I J 4 [(0, .ref a), (1, .int (nI la)), (2, .int x), (3, .int (nI i))] [] := by
    intro n
    induction n with
    | zero =>
      intro i x hi ex
      obtain rfl : 16 = i := by omega
      refine wa_iload_n hX dX0_entriesIn_4 rfl ?_
      refine wa_bipush (v := nI 16) hX dX0_entriesIn_5 (by decide) ?_
      refine wa_icmp_ge (tgt := 32) hX dX0_entriesIn_7 (by decide) (fun c_7 => ?_) (fun c_7 => absurd (Int32.le_refl _) c_7)
      refine wa_iload_n hX dX0_entriesIn_32 rfl ?_
      exact hret _ _ _ _ _ ⟨ex, rfl, rfl⟩ dX0_entriesIn_33
    | succ n ih =>
      intro i x hi ex
      have hlt : i < 16 := by omega
      refine wa_iload_n hX dX0_entriesIn_4 rfl ?_
      refine wa_bipush (v := nI 16) hX dX0_entriesIn_5 (by decide) ?_
      refine wa_icmp_ge (tgt := 32) hX dX0_entriesIn_7 (by decide) (fun c_7 => absurd c_7 (nI_ge hlt (by decide))) (fun c_7 => ?_)
      refine wa_aload_n hX dX0_entriesIn_10 rfl ?_
      refine wa_getR hX fX0_11 rfl (by assumption) (by assumption) dX0_entriesIn_11 ?_
      refine wa_iload_n hX dX0_entriesIn_14 rfl ?_
      refine wa_aald hX (by assumption) rfl hla (by decide) (hrow la hla).1 dX0_entriesIn_15 ?_
      refine wa_iload_n hX dX0_entriesIn_16 rfl ?_
      refine wa_iald hX (hrow la hla).2 rfl (by first | assumption | omega) (by decide) dX0_entriesIn_17 ?_
      refine wa_bipush (v := nI 17) hX dX0_entriesIn_18 (by decide) ?_
      refine wa_icmp_eq (tgt := 26) hX dX0_entriesIn_20 (by decide) (fun c_20 => ?_) (fun c_20 => ?_)
      · skip
        refine wa_iinc hX dX0_entriesIn_26 rfl (inc1 _) (by decide) ?_
        refine wa_goto (tgt := 4) hX dX0_entriesIn_29 (by decide) ?_
        refine wx_sub (l' := [(0, _), (1, _), (2, _), (3, _)]) ⟨rfl, rfl, rfl, rfl, trivial⟩ ?_
        exact ih (i + 1) _ (by omega) (by rw [ex]; exact (cnt_if (by simp [c_20])))
      · skip
        refine wa_iinc hX dX0_entriesIn_23 rfl rfl (by decide) ?_
        refine wa_iinc hX dX0_entriesIn_26 rfl (inc1 _) (by decide) ?_
        refine wa_goto (tgt := 4) hX dX0_entriesIn_29 (by decide) ?_
        refine wx_sub (l' := [(0, _), (1, _), (2, _), (3, _)]) ⟨rfl, rfl, rfl, rfl, trivial⟩ ?_
        exact ih (i + 1) _ (by omega) (by rw [ex]; exact (cnt_it (by simp [c_20])))
  refine wa_iconst (v := nI 0) hX dX0_entriesIn_0 (by decide) ?_
  refine wa_istore_n hX dX0_entriesIn_1 (by decide) ?_
  refine wa_iconst (v := nI 0) hX dX0_entriesIn_2 (by decide) ?_
  refine wa_istore_n hX dX0_entriesIn_3 (by decide) ?_
  exact lp 16 0 _ (by omega) rfl

set_option maxHeartbeats 4000000 in
set_option maxRecDepth 100000 in
theorem tX0_nowhereIn {l : Launch} {D : va_G} {A : Nat → Prop} {N : Nat} {Sh : SM} {J : JM} (I : IM) {a : Nat} (hP : PL Sh J a) {la : Nat} (hla : la < 4) : CtP l D A yX0_nowhereIn cX0_nowhereIn 4 FieldType.int 0 N Sh I J [.ref a, .int (nI la)] (fun r => r = nI (cnt (fun k => decide (I (a + 2 + la) k = nI 16)) 16)) := by
  refine ct_I (l0 := [(0, .ref a), (1, .int (nI la))]) (by decide +kernel) (Nat.le_of_ble_eq_true rfl) rfl (fun _ _ _ _ => rfl) ?_
  intro X hX hret _ _ _
  have hX : XK X RX0 cX0_nowhereIn 4 0 := hX
  obtain ⟨h0, hj0, hj1, hj2, hr, hrow, hz, hv7⟩ := hP
  have lp : ∀ (n i : Nat) (x : Int32), i + n = 16 → (x = nI (cnt (fun k => decide (I (a + 2 + la) k = nI 16)) i)) → WX X 0 0 N Sh I J 4 [(0, .ref a), (1, .int (nI la)), (2, .int x), (3, .int (nI i))] [] := by
    intro n
    induction n with
    | zero =>
      intro i x hi ex
      obtain rfl : 16 = i := by omega
      refine wa_iload_n hX dX0_nowhereIn_4 rfl ?_
      refine wa_bipush (v := nI 16) hX dX0_nowhereIn_5 (by decide) ?_
      refine wa_icmp_ge (tgt := 32) hX dX0_nowhereIn_7 (by decide) (fun c_7 => ?_) (fun c_7 => absurd (Int32.le_refl _) c_7)
      refine wa_iload_n hX dX0_nowhereIn_32 rfl ?_
      exact hret _ _ _ _ _ ⟨ex, rfl, rfl⟩ dX0_nowhereIn_33
    | succ n ih =>
      intro i x hi ex
      have hlt : i < 16 := by omega
      refine wa_iload_n hX dX0_nowhereIn_4 rfl ?_
      refine wa_bipush (v := nI 16) hX dX0_nowhereIn_5 (by decide) ?_
      refine wa_icmp_ge (tgt := 32) hX dX0_nowhereIn_7 (by decide) (fun c_7 => absurd c_7 (nI_ge hlt (by decide))) (fun c_7 => ?_)
      refine wa_aload_n hX dX0_nowhereIn_10 rfl ?_
      refine wa_getR hX fX0_11 rfl (by assumption) (by assumption) dX0_nowhereIn_11 ?_
      refine wa_iload_n hX dX0_nowhereIn_14 rfl ?_
      refine wa_aald hX (by assumption) rfl hla (by decide) (hrow la hla).1 dX0_nowhereIn_15 ?_
      refine wa_iload_n hX dX0_nowhereIn_16 rfl ?_
      refine wa_iald hX (hrow la hla).2 rfl (by first | assumption | omega) (by decide) dX0_nowhereIn_17 ?_
      refine wa_bipush (v := nI 16) hX dX0_nowhereIn_18 (by decide) ?_
      refine wa_icmp_ne (tgt := 26) hX dX0_nowhereIn_20 (by decide) (fun c_20 => ?_) (fun c_20 => ?_)
      · skip
        refine wa_iinc hX dX0_nowhereIn_26 rfl (inc1 _) (by decide) ?_
        refine wa_goto (tgt := 4) hX dX0_nowhereIn_29 (by decide) ?_
        refine wx_sub (l' := [(0, _), (1, _), (2, _), (3, _)]) ⟨rfl, rfl, rfl, rfl, trivial⟩ ?_
        exact ih (i + 1) _ (by omega) (by rw [ex]; exact (cnt_if (by simp [c_20])))
      · skip
        refine wa_iinc hX dX0_nowhereIn_23 rfl rfl (by decide) ?_
        refine wa_iinc hX dX0_nowhereIn_26 rfl (inc1 _) (by decide) ?_
        refine wa_goto (tgt := 4) hX dX0_nowhereIn_29 (by decide) ?_
        refine wx_sub (l' := [(0, _), (1, _), (2, _), (3, _)]) ⟨rfl, rfl, rfl, rfl, trivial⟩ ?_
        exact ih (i + 1) _ (by omega) (by rw [ex]; exact (cnt_it (by simp [c_20])))
  refine wa_iconst (v := nI 0) hX dX0_nowhereIn_0 (by decide) ?_
  refine wa_istore_n hX dX0_nowhereIn_1 (by decide) ?_
  refine wa_iconst (v := nI 0) hX dX0_nowhereIn_2 (by decide) ?_
  refine wa_istore_n hX dX0_nowhereIn_3 (by decide) ?_
  exact lp 16 0 _ (by omega) rfl

set_option maxHeartbeats 4000000 in
set_option maxRecDepth 100000 in
theorem tX0_tellingLayer {l : Launch} {D : va_G} {A : Nat → Prop} {N : Nat} {Sh : SM} {J : JM} (I : IM) {a : Nat} (hP : PL Sh J a) {k : Nat} (hk : k < 16) : CtP l D A yX0_tellingLayer cX0_tellingLayer 3 FieldType.int 0 N Sh I J [.ref a, .int (nI k)] (fun r => r = telC I a k) := by
  refine ct_I (l0 := [(0, .ref a), (1, .int (nI k))]) (by decide +kernel) (Nat.le_of_ble_eq_true rfl) rfl (fun _ _ _ _ => rfl) ?_
  intro X hX hret _ _ _
  have hX : XK X RX0 cX0_tellingLayer 3 0 := hX
  obtain ⟨h0, hj0, hj1, hj2, hr, hrow, hz, hv7⟩ := hP
  have lp : ∀ n : Nat, n ≤ 4 → ∀ x : Int32, x = nI n + Int32.ofInt (-1) → telC I a k = top (tlc I a k) n → WX X 0 0 N Sh I J 2 [(0, .ref a), (1, .int (nI k)), (2, .int x)] [] := by
    intro n
    induction n with
    | zero =>
      intro _ x ex et
      subst ex
      refine wa_iload_n hX dX0_tellingLayer_2 rfl ?_
      refine wa_if_lt (tgt := 44) hX dX0_tellingLayer_3 (by decide) (fun c_3 => ?_) (fun c_3 => absurd (by decide) c_3)
      refine wa_iconst (v := -1) hX dX0_tellingLayer_44 (by decide) ?_
      exact hret _ _ _ _ _ ⟨(by rw [et]; rfl), rfl, rfl⟩ dX0_tellingLayer_45
    | succ n ih =>
      intro hn x ex et
      rw [dec1] at ex
      subst ex
      refine wa_iload_n hX dX0_tellingLayer_2 rfl ?_
      refine wa_if_lt (tgt := 44) hX dX0_tellingLayer_3 (by decide) (fun c_3 => absurd c_3 (nI_pos (by omega))) (fun c_3 => ?_)
      refine wa_iload_n hX dX0_tellingLayer_6 rfl ?_
      refine wa_aload_n hX dX0_tellingLayer_7 rfl ?_
      refine wa_getI hX fX0_24 rfl (by assumption) dX0_tellingLayer_8 ?_
      refine wa_icmp_ge (tgt := 38) hX dX0_tellingLayer_11 (by decide) (fun c_11 => ?_) (fun c_11 => ?_)
      · skip
        have c1 : ¬ nI n < I a 3 := Int32.not_lt.mpr c_11
        refine wa_iinc hX dX0_tellingLayer_38 rfl rfl (by decide) ?_
        refine wa_goto (tgt := 2) hX dX0_tellingLayer_41 (by decide) ?_
        exact ih (by omega) _ rfl (by rw [← top_f (p := tlc I a k) (n := n) (by simp [tlc, lon, c1])]; exact et)
      · skip
        have c1 : nI n < I a 3 := Int32.not_le.mp c_11
        refine wa_aload_n hX dX0_tellingLayer_14 rfl ?_
        refine wa_getR hX fX0_16 rfl (by assumption) (by assumption) dX0_tellingLayer_15 ?_
        refine wa_iload_n hX dX0_tellingLayer_18 rfl ?_
        refine wa_zald hX (by assumption) rfl (show n < 4 by omega) (by decide) dX0_tellingLayer_19 ?_
        refine wa_if_eq (tgt := 38) hX dX0_tellingLayer_20 (by decide) (fun c_20 => ?_) (fun c_20 => ?_)
        · skip
          refine wa_iinc hX dX0_tellingLayer_38 rfl rfl (by decide) ?_
          refine wa_goto (tgt := 2) hX dX0_tellingLayer_41 (by decide) ?_
          exact ih (by omega) _ rfl (by rw [← top_f (p := tlc I a k) (n := n) (by simp [tlc, lon, c_20])]; exact et)
        · skip
          refine wa_aload_n hX dX0_tellingLayer_23 rfl ?_
          refine wa_getR hX fX0_11 rfl (by assumption) (by assumption) dX0_tellingLayer_24 ?_
          refine wa_iload_n hX dX0_tellingLayer_27 rfl ?_
          refine wa_aald hX (by assumption) rfl (show n < 4 by omega) (by decide) (hrow n (by omega)).1 dX0_tellingLayer_28 ?_
          refine wa_iload_n hX dX0_tellingLayer_29 rfl ?_
          refine wa_iald hX (hrow n (by omega)).2 rfl hk (by decide) dX0_tellingLayer_30 ?_
          refine wa_bipush (v := nI 17) hX dX0_tellingLayer_31 (by decide) ?_
          refine wa_icmp_eq (tgt := 38) hX dX0_tellingLayer_33 (by decide) (fun c_33 => ?_) (fun c_33 => ?_)
          · skip
            refine wa_iinc hX dX0_tellingLayer_38 rfl rfl (by decide) ?_
            refine wa_goto (tgt := 2) hX dX0_tellingLayer_41 (by decide) ?_
            exact ih (by omega) _ rfl (by rw [← top_f (p := tlc I a k) (n := n) (by simp [tlc, lon, c_33])]; exact et)
          · skip
            refine wa_iload_n hX dX0_tellingLayer_36 rfl ?_
            exact hret _ _ _ _ _ ⟨(by rw [et]; exact (top_t (by simp [tlc, lon, c1, c_20, c_33])).symm), rfl, rfl⟩ dX0_tellingLayer_37
  refine wa_iconst (v := nI 3) hX dX0_tellingLayer_0 (by decide) ?_
  refine wa_istore_n hX dX0_tellingLayer_1 (by decide) ?_
  exact lp 4 (by omega) _ (by decide) rfl
end
section
/-! the rest of Row -/
theorem kMaxL2 : Cond.methodLink RX2 41 Lib.Math.max.name ∈ TWg := tw_dec (by decide +kernel)
theorem kMaxL3 : Cond.methodLink RX3 57 Lib.Math.max.name ∈ TWg := tw_dec (by decide +kernel)
theorem kMaxS : Cond.static Lib.Math.max.name ∈ TWg := tw_dec (by decide +kernel)
theorem kMaxI : Cond.initialized "java/lang/Math" ∈ TWg := tw_dec (by decide +kernel)
theorem kMaxC : Cond.code Lib.Math.max.name Lib.Math.max.code 2 (some .int) ∈ TWg := tw_dec (by decide +kernel)
theorem kCpL : Cond.methodLink RX2 9 arraycopyName ∈ TWg := tw_dec (by decide +kernel)
theorem kCpN : Cond.native arraycopyName ∈ TWg := tw_dec (by decide +kernel)
theorem kCpS : Cond.static arraycopyName ∈ TWg := tw_dec (by decide +kernel)
theorem kCpI : Cond.initialized "java/lang/System" ∈ TWg := tw_dec (by decide +kernel)
set_option maxHeartbeats 4000000 in
set_option maxRecDepth 100000 in
theorem tX2_cycleOf {l : Launch} {D : va_G} {A : Nat → Prop} {N : Nat} {Sh : SM} {J : JM} (I : IM) {a : Nat} {v : Nat → Nat} (hs : shI Sh a 16) (hv : RV (I a) v) {j : Nat} (hj : j ≤ 16) : CtP l D A yX2_cycleOf cX2_cycleOf 4 FieldType.int 1 N Sh I J [.ref a, .int (nI j)] (fun r => r = nI (cyc v j)) := by
  refine ct_I (l0 := [(0, .ref a), (1, .int (nI j))]) (by decide +kernel) (Nat.le_of_ble_eq_true rfl) rfl (fun _ _ _ _ => rfl) ?_
  intro X hX hret _ _ _
  have hX : XK X RX2 cX2_cycleOf 4 1 := hX
  have lp : ∀ (n i : Nat) (x2 : Int32), i + n = 16 → (x2 = nI (itr v i j)) → (cyc v j = cycN v j n (i + 1)) → WX X 0 0 N Sh I J 4 [(0, .ref a), (1, .int (nI j)), (2, .int x2), (3, .int (nI (i + 1)))] [] := by
    intro n
    induction n with
    | zero =>
      intro i x2 hi e2 ec
      obtain rfl : 16 = i := by omega
      refine wa_iload_n hX dX2_cycleOf_4 rfl ?_
      refine wa_bipush (v := nI 16) hX dX2_cycleOf_5 (by decide) ?_
      refine wa_icmp_gt (tgt := 37) hX dX2_cycleOf_7 (by decide) (fun c_7 => ?_) (fun c_7 => absurd (by decide) c_7)
      refine wa_iconst (v := nI 0) hX dX2_cycleOf_37 (by decide) ?_
      exact hret _ _ _ _ _ ⟨(by rw [ec]; rfl), rfl, rfl⟩ dX2_cycleOf_38
    | succ n ih =>
      intro i x2 hi e2 ec
      have hlt : i < 16 := by omega
      refine wa_iload_n hX dX2_cycleOf_4 rfl ?_
      refine wa_bipush (v := nI 16) hX dX2_cycleOf_5 (by decide) ?_
      refine wa_icmp_gt (tgt := 37) hX dX2_cycleOf_7 (by decide) (fun c_7 => absurd c_7 (nI_nlt (by omega) (by decide))) (fun c_7 => ?_)
      refine wa_aload_n hX dX2_cycleOf_10 rfl ?_
      subst e2
      refine wa_iload_n hX dX2_cycleOf_11 rfl ?_
      refine wa_sP hX (tX2_step I hs hv (itr_le hv i hj)) bX2_step mX2_15 (by decide) (by decide) rfl rfl (Nat.le_of_ble_eq_true rfl) dX2_cycleOf_12 (fun r_12 q_12 => ?_)
      rw [← itr_s] at q_12
      subst q_12
      refine wa_istore_n hX dX2_cycleOf_15 (by decide) ?_
      refine wa_iload_n hX dX2_cycleOf_16 rfl ?_
      refine wa_bipush (v := nI 16) hX dX2_cycleOf_17 (by decide) ?_
      refine wa_icmp_ne (tgt := 24) hX dX2_cycleOf_19 (by decide) (fun c_19 => ?_) (fun c_19 => ?_)
      · skip
        have c1 := ne_of_nI c_19
        refine wa_iload_n hX dX2_cycleOf_24 rfl ?_
        refine wa_iload_n hX dX2_cycleOf_25 rfl ?_
        refine wa_icmp_ne (tgt := 31) hX dX2_cycleOf_26 (by decide) (fun c_26 => ?_) (fun c_26 => ?_)
        · skip
          have c2 := ne_of_nI c_26
          refine wa_iinc hX dX2_cycleOf_31 rfl (inc1 _) (by decide) ?_
          refine wa_goto (tgt := 4) hX dX2_cycleOf_34 (by decide) ?_
          refine wx_sub (l' := [(0, _), (1, _), (2, _), (3, _)]) ⟨rfl, rfl, rfl, rfl, trivial⟩ ?_
          exact ih (i + 1) _ (by omega) rfl (by rw [ec]; simp [cycN, c1, c2])
        · skip
          have c2 := eq_of_nI c_26 (by have := itr_le hv (i + 1) hj; omega) (by omega)
          refine wa_iload_n hX dX2_cycleOf_29 rfl ?_
          exact hret _ _ _ _ _ ⟨(by rw [ec]; have c3 : ¬ j = 16 := fun h => c1 (c2.trans h); simp [cycN, c2, c3]), rfl, rfl⟩ dX2_cycleOf_30
      · skip
        have c1 := eq_of_nI c_19 (by have := itr_le hv (i + 1) hj; omega) (by decide)
        refine wa_iconst (v := nI 0) hX dX2_cycleOf_22 (by decide) ?_
        exact hret _ _ _ _ _ ⟨(by rw [ec]; simp [cycN, c1]), rfl, rfl⟩ dX2_cycleOf_23
  refine wa_iload_n hX dX2_cycleOf_0 rfl ?_
  refine wa_istore_n hX dX2_cycleOf_1 (by decide) ?_
  refine wa_iconst (v := nI 1) hX dX2_cycleOf_2 (by decide) ?_
  refine wa_istore_n hX dX2_cycleOf_3 (by decide) ?_
  exact lp 16 0 _ (by omega) rfl rfl

set_option maxHeartbeats 4000000 in
set_option maxRecDepth 100000 in
theorem tX2_stepsToHole {l : Launch} {D : va_G} {A : Nat → Prop} {N : Nat} {Sh : SM} {J : JM} (I : IM) {a : Nat} {v : Nat → Nat} (hs : shI Sh a 16) (hv : RV (I a) v) {j : Nat} (hj : j ≤ 16) : CtP l D A yX2_stepsToHole cX2_stepsToHole 4 FieldType.int 1 N Sh I J [.ref a, .int (nI j)] (fun r => r = sthN v j 16 0) := by
  refine ct_I (l0 := [(0, .ref a), (1, .int (nI j))]) (by decide +kernel) (Nat.le_of_ble_eq_true rfl) rfl (fun _ _ _ _ => rfl) ?_
  intro X hX hret _ _ _
  have hX : XK X RX2 cX2_stepsToHole 4 1 := hX
  have lp : ∀ (n i : Nat) (x2 : Int32), i + n = 16 → (x2 = nI (itr v i j)) → (sthN v j 16 0 = sthN v j n i) → WX X 0 0 N Sh I J 4 [(0, .ref a), (1, .int (nI j)), (2, .int x2), (3, .int (nI i))] [] := by
    intro n
    induction n with
    | zero =>
      intro i x2 hi e2 ec
      obtain rfl : 16 = i := by omega
      refine wa_iload_n hX dX2_stepsToHole_4 rfl ?_
      refine wa_bipush (v := nI 16) hX dX2_stepsToHole_5 (by decide) ?_
      refine wa_icmp_ge (tgt := 30) hX dX2_stepsToHole_7 (by decide) (fun c_7 => ?_) (fun c_7 => absurd (Int32.le_refl _) c_7)
      refine wa_bipush (v := -5) hX dX2_stepsToHole_30 (by decide) ?_
      exact hret _ _ _ _ _ ⟨(by rw [ec]; rfl), rfl, rfl⟩ dX2_stepsToHole_32
    | succ n ih =>
      intro i x2 hi e2 ec
      have hlt : i < 16 := by omega
      refine wa_iload_n hX dX2_stepsToHole_4 rfl ?_
      refine wa_bipush (v := nI 16) hX dX2_stepsToHole_5 (by decide) ?_
      refine wa_icmp_ge (tgt := 30) hX dX2_stepsToHole_7 (by decide) (fun c_7 => absurd c_7 (nI_ge hlt (by decide))) (fun c_7 => ?_)
      refine wa_aload_n hX dX2_stepsToHole_10 rfl ?_
      subst e2
      refine wa_iload_n hX dX2_stepsToHole_11 rfl ?_
      refine wa_sP hX (tX2_step I hs hv (itr_le hv i hj)) bX2_step mX2_15 (by decide) (by decide) rfl rfl (Nat.le_of_ble_eq_true rfl) dX2_stepsToHole_12 (fun r_12 q_12 => ?_)
      rw [← itr_s] at q_12
      subst q_12
      refine wa_istore_n hX dX2_stepsToHole_15 (by decide) ?_
      refine wa_iload_n hX dX2_stepsToHole_16 rfl ?_
      refine wa_bipush (v := nI 16) hX dX2_stepsToHole_17 (by decide) ?_
      refine wa_icmp_ne (tgt := 24) hX dX2_stepsToHole_19 (by decide) (fun c_19 => ?_) (fun c_19 => ?_)
      · skip
        have c1 := ne_of_nI c_19
        refine wa_iinc hX dX2_stepsToHole_24 rfl (inc1 _) (by decide) ?_
        refine wa_goto (tgt := 4) hX dX2_stepsToHole_27 (by decide) ?_
        refine wx_sub (l' := [(0, _), (1, _), (2, _), (3, _)]) ⟨rfl, rfl, rfl, rfl, trivial⟩ ?_
        exact ih (i + 1) _ (by omega) rfl (by rw [ec]; simp [sthN, c1])
      · skip
        have c1 := eq_of_nI c_19 (by have := itr_le hv (i + 1) hj; omega) (by decide)
        refine wa_iload_n hX dX2_stepsToHole_22 rfl ?_
        exact hret _ _ _ _ _ ⟨(by rw [ec]; simp [sthN, c1]), rfl, rfl⟩ dX2_stepsToHole_23
  refine wa_iload_n hX dX2_stepsToHole_0 rfl ?_
  refine wa_istore_n hX dX2_stepsToHole_1 (by decide) ?_
  refine wa_iconst (v := nI 0) hX dX2_stepsToHole_2 (by decide) ?_
  refine wa_istore_n hX dX2_stepsToHole_3 (by decide) ?_
  exact lp 16 0 _ (by omega) rfl rfl

set_option maxHeartbeats 4000000 in
set_option maxRecDepth 100000 in
theorem tX2_stepsToSecondMeeting {l : Launch} {D : va_G} {A : Nat → Prop} {N : Nat} {Sh : SM} {J : JM} (I : IM) {a : Nat} {v : Nat → Nat} (hs : shI Sh a 16) (hv : RV (I a) v) {j : Nat} (hj : j ≤ 16) : CtP l D A yX2_stepsToSecondMeeting cX2_stepsToSecondMeeting 5 FieldType.int 1 N Sh I J [.ref a, .int (nI j)] (fun r => r = retN v j 17 0) := by
  refine ct_I (l0 := [(0, .ref a), (1, .int (nI j))]) (by decide +kernel) (Nat.le_of_ble_eq_true rfl) rfl (fun _ _ _ _ => rfl) ?_
  intro X hX hret _ _ _
  have hX : XK X RX2 cX2_stepsToSecondMeeting 5 1 := hX
  have lp : ∀ (n i : Nat) (x2 : Int32), i + n = 17 → (x2 = nI (itr v i j)) → (∀ t, t < i → itr v t j < 16) → (retN v j 17 0 = retN v j n i) → WX X 0 0 N Sh I J 7 [(0, .ref a), (1, .int (nI j)), (2, .int x2), (3, .int (metI v j i)), (4, .int (nI i))] [] := by
    intro n
    induction n with
    | zero =>
      intro i x2 hi e2 hm ec
      obtain rfl : 17 = i := by omega
      refine wa_iload hX dX2_stepsToSecondMeeting_7 rfl ?_
      refine wa_bipush (v := nI 16) hX dX2_stepsToSecondMeeting_9 (by decide) ?_
      refine wa_icmp_gt (tgt := 50) hX dX2_stepsToSecondMeeting_11 (by decide) (fun c_11 => ?_) (fun c_11 => absurd (by decide) c_11)
      refine wa_bipush (v := -5) hX dX2_stepsToSecondMeeting_50 (by decide) ?_
      exact hret _ _ _ _ _ ⟨(by rw [ec]; rfl), rfl, rfl⟩ dX2_stepsToSecondMeeting_52
    | succ n ih =>
      intro i x2 hi e2 hm ec
      have hlt : i < 17 := by omega
      refine wa_iload hX dX2_stepsToSecondMeeting_7 rfl ?_
      refine wa_bipush (v := nI 16) hX dX2_stepsToSecondMeeting_9 (by decide) ?_
      refine wa_icmp_gt (tgt := 50) hX dX2_stepsToSecondMeeting_11 (by decide) (fun c_11 => absurd c_11 (nI_nlt (by omega) (by decide))) (fun c_11 => ?_)
      subst e2
      refine wa_iload_n hX dX2_stepsToSecondMeeting_14 rfl ?_
      refine wa_bipush (v := nI 16) hX dX2_stepsToSecondMeeting_15 (by decide) ?_
      refine wa_icmp_eq (tgt := 50) hX dX2_stepsToSecondMeeting_17 (by decide) (fun c_17 => ?_) (fun c_17 => ?_)
      · skip
        have c1 := eq_of_nI c_17 (by have := itr_le hv i hj; omega) (by decide)
        refine wa_bipush (v := -5) hX dX2_stepsToSecondMeeting_50 (by decide) ?_
        exact hret _ _ _ _ _ ⟨(by rw [ec]; simp [retN, c1]), rfl, rfl⟩ dX2_stepsToSecondMeeting_52
      · skip
        have c1 := ne_of_nI c_17
        have c3 : itr v i j < 16 := by have := itr_le hv i hj; omega
        have c4 := bt_metI v j (w := itr v i j) (by omega) i (fun t ht => by have := hm t ht; omega)
        refine wa_iload_n hX dX2_stepsToSecondMeeting_20 rfl ?_
        refine wa_iload_n hX dX2_stepsToSecondMeeting_21 rfl ?_
        refine wa_ishr hX dX2_stepsToSecondMeeting_22 ?_
        refine wa_iconst (v := nI 1) hX dX2_stepsToSecondMeeting_23 (by decide) ?_
        refine wa_iand hX dX2_stepsToSecondMeeting_24 ?_
        refine wa_iconst (v := nI 1) hX dX2_stepsToSecondMeeting_25 (by decide) ?_
        refine wa_icmp_ne (tgt := 32) hX dX2_stepsToSecondMeeting_26 (by decide) (fun c_26 => ?_) (fun c_26 => ?_)
        · skip
          have c2 : metB v j i (itr v i j) = false := by
            rw [← c4]
            exact Bool.eq_false_iff.mpr (fun h => c_26 ((bt_t1 (by omega) _).mpr h))
          refine wa_iload_n hX dX2_stepsToSecondMeeting_32 rfl ?_
          refine wa_iconst (v := nI 1) hX dX2_stepsToSecondMeeting_33 (by decide) ?_
          refine wa_iload_n hX dX2_stepsToSecondMeeting_34 rfl ?_
          refine wa_ishl hX dX2_stepsToSecondMeeting_35 ?_
          refine wa_ior hX dX2_stepsToSecondMeeting_36 ?_
          refine wa_istore_n hX dX2_stepsToSecondMeeting_37 (by decide) ?_
          refine wa_aload_n hX dX2_stepsToSecondMeeting_38 rfl ?_
          refine wa_iload_n hX dX2_stepsToSecondMeeting_39 rfl ?_
          refine wa_sP hX (tX2_step I hs hv (itr_le hv i hj)) bX2_step mX2_15 (by decide) (by decide) rfl rfl (Nat.le_of_ble_eq_true rfl) dX2_stepsToSecondMeeting_40 (fun r_40 q_40 => ?_)
          rw [← itr_s] at q_40
          refine wa_istore_n hX dX2_stepsToSecondMeeting_43 (by decide) ?_
          refine wa_iinc hX dX2_stepsToSecondMeeting_44 rfl (inc1 _) (by decide) ?_
          refine wa_goto (tgt := 7) hX dX2_stepsToSecondMeeting_47 (by decide) ?_
          refine wx_sub (l' := [(0, _), (1, _), (2, _), (3, _), (4, _)]) ⟨rfl, rfl, rfl, rfl, rfl, trivial⟩ ?_
          exact ih (i + 1) _ (by omega) q_40 (lt_s hm c3) (by rw [ec]; simp [retN, c1, c2])
        · skip
          have c2 := (bt_t1 (by omega) _).mp c_26
          rw [c4] at c2
          refine wa_iload hX dX2_stepsToSecondMeeting_29 rfl ?_
          exact hret _ _ _ _ _ ⟨(by rw [ec]; simp [retN, c1, c2]), rfl, rfl⟩ dX2_stepsToSecondMeeting_31
  refine wa_iload_n hX dX2_stepsToSecondMeeting_0 rfl ?_
  refine wa_istore_n hX dX2_stepsToSecondMeeting_1 (by decide) ?_
  refine wa_iconst (v := nI 0) hX dX2_stepsToSecondMeeting_2 (by decide) ?_
  refine wa_istore_n hX dX2_stepsToSecondMeeting_3 (by decide) ?_
  refine wa_iconst (v := nI 0) hX dX2_stepsToSecondMeeting_4 (by decide) ?_
  refine wa_istore hX dX2_stepsToSecondMeeting_5 (by decide) ?_
  exact lp 17 0 _ (by omega) rfl (fun t ht => absurd ht (by omega)) rfl

set_option maxHeartbeats 4000000 in
set_option maxRecDepth 100000 in
theorem tX2_cycleMet {l : Launch} {D : va_G} {A : Nat → Prop} {N : Nat} {Sh : SM} {J : JM} (I : IM) {a : Nat} {v : Nat → Nat} (hs : shI Sh a 16) (hv : RV (I a) v) {j : Nat} (hj : j ≤ 16) : CtP l D A yX2_cycleMet cX2_cycleMet 3 FieldType.int 2 N Sh I J [.ref a, .int (nI j)] (fun r => r = if itr v 16 j = 16 then -5 else nI (cyc v (itr v 16 j))) := by
  refine ct_I (l0 := [(0, .ref a), (1, .int (nI j))]) (by decide +kernel) (Nat.le_of_ble_eq_true rfl) rfl (fun _ _ _ _ => rfl) ?_
  intro X hX hret _ _ _
  have hX : XK X RX2 cX2_cycleMet 3 2 := hX
  refine wa_aload_n hX dX2_cycleMet_0 rfl ?_
  refine wa_iload_n hX dX2_cycleMet_1 rfl ?_
  refine wa_bipush (v := nI 16) hX dX2_cycleMet_2 (by decide) ?_
  refine wa_sP hX (tX2_walk I hs hv hj (show 16 < 2 ^ 31 by decide)) bX2_walk mX2_21 (by decide) (by decide) rfl rfl (Nat.le_of_ble_eq_true rfl) dX2_cycleMet_4 (fun r_4 q_4 => ?_)
  subst q_4
  refine wa_istore_n hX dX2_cycleMet_7 (by decide) ?_
  refine wa_iload_n hX dX2_cycleMet_8 rfl ?_
  refine wa_bipush (v := nI 16) hX dX2_cycleMet_9 (by decide) ?_
  refine wa_icmp_ne (tgt := 19) hX dX2_cycleMet_11 (by decide) (fun c_11 => ?_) (fun c_11 => ?_)
  · skip
    have c1 := ne_of_nI c_11
    refine wa_aload_n hX dX2_cycleMet_19 rfl ?_
    refine wa_iload_n hX dX2_cycleMet_20 rfl ?_
    refine wa_sP hX (tX2_cycleOf I hs hv (itr_le hv 16 hj)) bX2_cycleOf mX2_25 (by decide) (by decide) rfl rfl (Nat.le_of_ble_eq_true rfl) dX2_cycleMet_21 (fun r_21 q_21 => ?_)
    exact hret _ _ _ _ _ ⟨(by simp [c1, q_21]), rfl, rfl⟩ dX2_cycleMet_24
  · skip
    have c1 := eq_of_nI c_11 (by have := itr_le hv 16 hj; omega) (by decide)
    refine wa_bipush (v := -5) hX dX2_cycleMet_14 (by decide) ?_
    refine wa_goto (tgt := 24) hX dX2_cycleMet_16 (by decide) ?_
    exact hret _ _ _ _ _ ⟨(by simp [c1]), rfl, rfl⟩ dX2_cycleMet_24

theorem cyc_lt {v : Nat → Nat} {j : Nat} : cyc v j < 2 ^ 31 := by
  have : ∀ f s, s + f ≤ 17 → cycN v j f s ≤ 16 := by
    intro f
    induction f with
    | zero => intro s _; exact Nat.zero_le _
    | succ f ih =>
      intro s hs
      unfold cycN
      split
      · omega
      · split
        · omega
        · exact ih (s + 1) (by omega)
  have := this 16 1 (by omega)
  unfold cyc
  omega
set_option maxHeartbeats 4000000 in
set_option maxRecDepth 100000 in
theorem tX2_cyclic {l : Launch} {D : va_G} {A : Nat → Prop} {N : Nat} {Sh : SM} {J : JM} (I : IM) {a : Nat} {v : Nat → Nat} (hs : shI Sh a 16) (hv : RV (I a) v) : CtP l D A yX2_cyclic cX2_cyclic 3 FieldType.int 2 N Sh I J [.ref a] (fun r => r = bset (fun k => decide (0 < cyc v k)) 16) := by
  refine ct_I (l0 := [(0, .ref a)]) (by decide +kernel) (Nat.le_of_ble_eq_true rfl) rfl (fun _ _ _ _ => rfl) ?_
  intro X hX hret _ _ _
  have hX : XK X RX2 cX2_cyclic 3 2 := hX
  have lp : ∀ (n i : Nat) (x : Int32), i + n = 16 → (x = bset (fun k => decide (0 < cyc v k)) i) → WX X 0 0 N Sh I J 4 [(0, .ref a), (1, .int x), (2, .int (nI i))] [] := by
    intro n
    induction n with
    | zero =>
      intro i x hi ex
      obtain rfl : 16 = i := by omega
      refine wa_iload_n hX dX2_cyclic_4 rfl ?_
      refine wa_bipush (v := nI 16) hX dX2_cyclic_5 (by decide) ?_
      refine wa_icmp_ge (tgt := 30) hX dX2_cyclic_7 (by decide) (fun c_7 => ?_) (fun c_7 => absurd (Int32.le_refl _) c_7)
      refine wa_iload_n hX dX2_cyclic_30 rfl ?_
      exact hret _ _ _ _ _ ⟨ex, rfl, rfl⟩ dX2_cyclic_31
    | succ n ih =>
      intro i x hi ex
      have hlt : i < 16 := by omega
      refine wa_iload_n hX dX2_cyclic_4 rfl ?_
      refine wa_bipush (v := nI 16) hX dX2_cyclic_5 (by decide) ?_
      refine wa_icmp_ge (tgt := 30) hX dX2_cyclic_7 (by decide) (fun c_7 => absurd c_7 (nI_ge hlt (by decide))) (fun c_7 => ?_)
      refine wa_aload_n hX dX2_cyclic_10 rfl ?_
      refine wa_iload_n hX dX2_cyclic_11 rfl ?_
      refine wa_sP hX (tX2_cycleOf I hs hv (show i ≤ 16 by omega)) bX2_cycleOf mX2_25 (by decide) (by decide) rfl rfl (Nat.le_of_ble_eq_true rfl) dX2_cyclic_12 (fun r_12 q_12 => ?_)
      subst q_12
      refine wa_if_le (tgt := 24) hX dX2_cyclic_15 (by decide) (fun c_15 => ?_) (fun c_15 => ?_)
      · skip
        have c1 : ¬ 0 < cyc v i := by
          intro h
          exact absurd c_15 (nI_nle h cyc_lt)
        refine wa_iinc hX dX2_cyclic_24 rfl (inc1 _) (by decide) ?_
        refine wa_goto (tgt := 4) hX dX2_cyclic_27 (by decide) ?_
        refine wx_sub (l' := [(0, _), (1, _), (2, _)]) ⟨rfl, rfl, rfl, trivial⟩ ?_
        exact ih (i + 1) _ (by omega) (by rw [ex]; exact (bset_f (by simp [c1])).symm)
      · skip
        have c1 : 0 < cyc v i := by
          rcases Nat.eq_zero_or_pos (cyc v i) with h | h
          · rw [h] at c_15; exact absurd (Int32.le_refl _) c_15
          · exact h
        refine wa_iload_n hX dX2_cyclic_18 rfl ?_
        refine wa_iconst (v := nI 1) hX dX2_cyclic_19 (by decide) ?_
        refine wa_iload_n hX dX2_cyclic_20 rfl ?_
        refine wa_ishl hX dX2_cyclic_21 ?_
        refine wa_ior hX dX2_cyclic_22 ?_
        refine wa_istore_n hX dX2_cyclic_23 (by decide) ?_
        refine wa_iinc hX dX2_cyclic_24 rfl (inc1 _) (by decide) ?_
        refine wa_goto (tgt := 4) hX dX2_cyclic_27 (by decide) ?_
        refine wx_sub (l' := [(0, _), (1, _), (2, _)]) ⟨rfl, rfl, rfl, trivial⟩ ?_
        exact ih (i + 1) _ (by omega) (by rw [ex]; exact (bset_t (by simp [c1])).symm)
  refine wa_iconst (v := nI 0) hX dX2_cyclic_0 (by decide) ?_
  refine wa_istore_n hX dX2_cyclic_1 (by decide) ?_
  refine wa_iconst (v := nI 0) hX dX2_cyclic_2 (by decide) ?_
  refine wa_istore_n hX dX2_cyclic_3 (by decide) ?_
  exact lp 16 0 _ (by omega) rfl

set_option maxHeartbeats 4000000 in
set_option maxRecDepth 100000 in
theorem tX2_longestCycle {l : Launch} {D : va_G} {A : Nat → Prop} {N : Nat} {Sh : SM} {J : JM} (I : IM) {a : Nat} {v : Nat → Nat} (hs : shI Sh a 16) (hv : RV (I a) v) : CtP l D A yX2_longestCycle cX2_longestCycle 3 FieldType.int 2 N Sh I J [.ref a] (fun r => r = fold (fun k x => maxI x (nI (cyc v k))) (nI 0) 16) := by
  refine ct_I (l0 := [(0, .ref a)]) (by decide +kernel) (Nat.le_of_ble_eq_true rfl) rfl (fun _ _ _ _ => rfl) ?_
  intro X hX hret _ _ _
  have hX : XK X RX2 cX2_longestCycle 3 2 := hX
  have lp : ∀ (n i : Nat) (x : Int32), i + n = 16 → (x = fold (fun k x => maxI x (nI (cyc v k))) (nI 0) i) → WX X 0 0 N Sh I J 4 [(0, .ref a), (1, .int x), (2, .int (nI i))] [] := by
    intro n
    induction n with
    | zero =>
      intro i x hi ex
      obtain rfl : 16 = i := by omega
      refine wa_iload_n hX dX2_longestCycle_4 rfl ?_
      refine wa_bipush (v := nI 16) hX dX2_longestCycle_5 (by decide) ?_
      refine wa_icmp_ge (tgt := 26) hX dX2_longestCycle_7 (by decide) (fun c_7 => ?_) (fun c_7 => absurd (Int32.le_refl _) c_7)
      refine wa_iload_n hX dX2_longestCycle_26 rfl ?_
      exact hret _ _ _ _ _ ⟨ex, rfl, rfl⟩ dX2_longestCycle_27
    | succ n ih =>
      intro i x hi ex
      have hlt : i < 16 := by omega
      refine wa_iload_n hX dX2_longestCycle_4 rfl ?_
      refine wa_bipush (v := nI 16) hX dX2_longestCycle_5 (by decide) ?_
      refine wa_icmp_ge (tgt := 26) hX dX2_longestCycle_7 (by decide) (fun c_7 => absurd c_7 (nI_ge hlt (by decide))) (fun c_7 => ?_)
      refine wa_iload_n hX dX2_longestCycle_10 rfl ?_
      refine wa_aload_n hX dX2_longestCycle_11 rfl ?_
      refine wa_iload_n hX dX2_longestCycle_12 rfl ?_
      refine wa_sP hX (tX2_cycleOf I hs hv (show i ≤ 16 by omega)) bX2_cycleOf mX2_25 (by decide) (by decide) rfl rfl (Nat.le_of_ble_eq_true rfl) dX2_longestCycle_13 (fun r_13 q_13 => ?_)
      subst q_13
      refine wa_max hX kMaxL2 kMaxS kMaxI kMaxC (by decide) (Nat.le_of_ble_eq_true rfl) dX2_longestCycle_16 ?_
      refine wa_istore_n hX dX2_longestCycle_19 (by decide) ?_
      refine wa_iinc hX dX2_longestCycle_20 rfl (inc1 _) (by decide) ?_
      refine wa_goto (tgt := 4) hX dX2_longestCycle_23 (by decide) ?_
      refine wx_sub (l' := [(0, _), (1, _), (2, _)]) ⟨rfl, rfl, rfl, trivial⟩ ?_
      exact ih (i + 1) _ (by omega) (by rw [ex]; rfl)
  refine wa_iconst (v := nI 0) hX dX2_longestCycle_0 (by decide) ?_
  refine wa_istore_n hX dX2_longestCycle_1 (by decide) ?_
  refine wa_iconst (v := nI 0) hX dX2_longestCycle_2 (by decide) ?_
  refine wa_istore_n hX dX2_longestCycle_3 (by decide) ?_
  exact lp 16 0 _ (by omega) rfl

set_option maxHeartbeats 4000000 in
set_option maxRecDepth 100000 in
theorem tX2_copy {l : Launch} {D : va_G} {A : Nat → Prop} {N : Nat} {Sh : SM} {J : JM} (I : IM) {a b : Nat} (hs : shI Sh a 16) (hs2 : shI Sh b 16) : CtW l D A yX2_copy cX2_copy 2 1 N Sh I J [.ref a, .ref b] (fun I' => I' = uR I b (I a)) := by
  refine ct_V (l0 := [(0, .ref a), (1, .ref b)]) (by decide +kernel) (Nat.le_of_ble_eq_true rfl) rfl ?_
  intro X hX hret _ _ _
  have hX : XK X RX2 cX2_copy 2 1 := hX
  refine wa_aload_n hX dX2_copy_0 rfl ?_
  refine wa_iconst (v := nI 0) hX dX2_copy_1 (by decide) ?_
  refine wa_aload_n hX dX2_copy_2 rfl ?_
  refine wa_iconst (v := nI 0) hX dX2_copy_3 (by decide) ?_
  refine wa_bipush (v := nI 16) hX dX2_copy_4 (by decide) ?_
  refine wa_copy16 hX kCpL kCpN kCpS kCpI hs hs2 (by decide) (Nat.le_of_ble_eq_true rfl) dX2_copy_6 ?_
  exact hret _ _ _ _ ⟨rfl, rfl⟩ dX2_copy_9
end
section
/-! plain facts of walks: pigeons, cycles -/
theorem php : ∀ (n : Nat) (f : Nat → Nat), (∀ i, i ≤ n → f i < n) → ∃ i j, i < j ∧ j ≤ n ∧ f i = f j
  | 0, f, h => absurd (h 0 (Nat.le_refl 0)) (by omega)
  | n + 1, f, h => by
    by_cases hx : ∃ i, i ≤ n ∧ f i = f (n + 1)
    · obtain ⟨i, h1, h2⟩ := hx
      exact ⟨i, n + 1, by omega, Nat.le_refl _, h2⟩
    · have hx : ∀ i, i ≤ n → f i ≠ f (n + 1) := fun i hi e => hx ⟨i, hi, e⟩
      obtain ⟨i, j, h1, h2, h3⟩ := php n (fun i => if f i = n then f (n + 1) else f i) (fun i hi => by
        have a1 := h i (by omega)
        have a2 := h (n + 1) (by omega)
        have a3 := hx i hi
        show (if f i = n then f (n + 1) else f i) < n
        split
        · omega
        · omega)
      refine ⟨i, j, h1, by omega, ?_⟩
      have a1 := hx i (by omega)
      have a2 := hx j h2
      try simp only at h3
      split at h3 <;> split at h3 <;> omega
theorem itr_lt {v : Nat → Nat} {n j : Nat} (h : itr v n j ≠ 16) {f : Nat → Int32} (hv : RV f v) (hj : j ≤ 16) : ∀ t, t ≤ n → itr v t j < 16 := by
  intro t ht
  have h1 := itr_le hv t hj
  rcases Nat.lt_or_ge (itr v t j) 16 with h2 | h2
  · exact h2
  · have h3 : itr v t j = 16 := by omega
    exact absurd (by rw [show n = t + (n - t) by omega, itr_add, h3, itr_16]) h
/-- who has gone 16 steps stands on a cycle -/
theorem itr_cyc {v : Nat → Nat} {j : Nat} (h : itr v 16 j ≠ 16) {f : Nat → Int32} (hv : RV f v) (hj : j ≤ 16) : ∃ s, 1 ≤ s ∧ s ≤ 16 ∧ itr v s (itr v 16 j) = itr v 16 j := by
  obtain ⟨p, q, h1, h2, h3⟩ := php 16 (fun t => itr v t j) (fun t ht => itr_lt h hv hj t ht)
  try simp only at h3
  refine ⟨q - p, by omega, by omega, ?_⟩
  have e1 : itr v 16 j = itr v (16 - p) (itr v p j) := by rw [← itr_add, show p + (16 - p) = 16 by omega]
  calc itr v (q - p) (itr v 16 j) = itr v (16 + (q - p)) j := (itr_add v _ _ _).symm
    _ = itr v (q + (16 - p)) j := by rw [show 16 + (q - p) = q + (16 - p) by omega]
    _ = itr v (16 - p) (itr v q j) := itr_add v _ _ _
    _ = itr v 16 j := by rw [← h3, e1]
theorem cycN_spec {v : Nat → Nat} {j : Nat} (hj : j ≠ 16) : ∀ (f s : Nat), (∃ t, s ≤ t ∧ t < s + f ∧ itr v t j = j) → s ≤ cycN v j f s ∧ cycN v j f s < s + f ∧ itr v (cycN v j f s) j = j
  | 0, s, ⟨t, h1, h2, _⟩ => absurd h1 (by omega)
  | f + 1, s, ⟨t, h1, h2, h3⟩ => by
    unfold cycN
    have h16 : ¬ itr v s j = 16 := by
      intro e
      have : itr v t j = 16 := by rw [show t = s + (t - s) by omega, itr_add, e, itr_16]
      exact hj (h3.symm.trans this)
    rw [if_neg h16]
    by_cases e : itr v s j = j
    · rw [if_pos e]
      exact ⟨Nat.le_refl _, by omega, e⟩
    · rw [if_neg e]
      have hne : s ≠ t := fun q => e (q ▸ h3)
      have := cycN_spec hj f (s + 1) ⟨t, by omega, by omega, h3⟩
      exact ⟨by omega, by omega, this.2.2⟩
theorem cyc_16 (v : Nat → Nat) : cyc v 16 = 0 := by
  show cycN v 16 (15 + 1) 1 = 0
  unfold cycN
  rw [if_pos (itr_16 v 1)]
theorem itr_mul {v : Nat → Nat} {c j : Nat} (h : itr v c j = j) : ∀ q, itr v (c * q) j = j
  | 0 => rfl
  | q + 1 => by rw [Nat.mul_succ, itr_add, itr_mul h q, h]
theorem itr_mod {v : Nat → Nat} {c j : Nat} (h : itr v c j = j) (n : Nat) : itr v n j = itr v (n % c) j := by
  rw (occs := .pos [1]) [← Nat.div_add_mod n c]
  rw [itr_add, itr_mul h]
theorem cyc_at {v : Nat → Nat} {j : Nat} (h : itr v 16 j ≠ 16) {f : Nat → Int32} (hv : RV f v) (hj : j ≤ 16) : 1 ≤ cyc v (itr v 16 j) ∧ cyc v (itr v 16 j) ≤ 16 ∧ itr v (cyc v (itr v 16 j)) (itr v 16 j) = itr v 16 j := by
  obtain ⟨s, h1, h2, h3⟩ := itr_cyc h hv hj
  have := cycN_spec h 16 1 ⟨s, h1, by omega, h3⟩
  exact ⟨this.1, by have := this.2.1; unfold cyc; omega, this.2.2⟩
theorem far_0 {v : Nat → Nat} {j n : Nat} (hn : 16 ≤ n) {f : Nat → Int32} (hv : RV f v) (hj : j ≤ 16) (h : cyc v (itr v 16 j) = 0) : itr v n j = 16 := by
  by_cases e : itr v 16 j = 16
  · rw [show n = 16 + (n - 16) by omega, itr_add, e, itr_16]
  · have := (cyc_at e hv hj).1
    omega
theorem far_1 {v : Nat → Nat} {j n : Nat} (hn : 16 ≤ n) {f : Nat → Int32} (hv : RV f v) (hj : j ≤ 16) (h : cyc v (itr v 16 j) ≠ 0) : itr v n j = itr v ((n - 16) % cyc v (itr v 16 j)) (itr v 16 j) := by
  have e : itr v 16 j ≠ 16 := fun e => h (by rw [e, cyc_16])
  rw [show n = 16 + (n - 16) by omega, itr_add, itr_mod (cyc_at e hv hj).2.2, show 16 + (n - 16) - 16 = n - 16 by omega]
theorem rd_s {I : IM} {a i : Nat} {g f : Nat → Int32} : uR I a (rowN i g f) a i = f i := by rw [uR_s, rowN_out (Nat.le_refl i)]
theorem row_up {I : IM} {b w : Nat} {x : Int32} {G G' f : Nat → Int32} (hw : w < 16) (h : ∀ k, k < 16 → G' k = if k = w then x else G k) : u2 (uR I b (rowN 16 G f)) b w x = uR I b (rowN 16 G' f) := by
  unfold u2
  rw [uR_uR, uR_s]
  congr 1
  funext k
  by_cases e : k = w
  · subst e; simp [upd, rowN, hw, h k hw]
  · by_cases h2 : k < 16
    · simp [upd, rowN, e, h2, h k h2]
    · simp [upd, rowN, e, h2]
theorem row_cg {I : IM} {b n : Nat} {G G' f : Nat → Int32} (h : ∀ k, k < n → G k = G' k) : uR I b (rowN n G f) = uR I b (rowN n G' f) := by
  congr 1
  funext k
  by_cases h2 : k < n
  · simp [rowN, h2, h k h2]
  · simp [rowN, h2]
def anyB (v : Nat → Nat) (i k : Nat) : Bool := (List.range i).any (fun t => decide (v t = k))
theorem anyB_s (v : Nat → Nat) (i k : Nat) : anyB v (i + 1) k = (anyB v i k || decide (v i = k)) := by
  unfold anyB
  rw [List.range_succ, List.any_append]
  simp
def mtI (v : Nat → Nat) : Nat → Int32
  | 0 => nI 0
  | s + 1 => if v s < 16 then mtI v s ||| b1 (nI (v s)) else mtI v s
theorem bt_mtI (v : Nat → Nat) {w : Nat} (hw : w < 16) : ∀ s, bt (mtI v s) w = anyB v s w
  | 0 => by
    have : bt (nI 0) w = false := b_0 w
    simpa [mtI, anyB] using this
  | s + 1 => by
    unfold mtI
    rw [anyB_s]
    by_cases h : v s < 16
    · rw [if_pos h, b_or, bt_mtI v hw s, bt_b1 (by omega) (by omega)]
      congr 1
      simp [eq_comm]
    · rw [if_neg h, bt_mtI v hw s, decide_eq_false (by omega), Bool.or_false]
end
section
/-! Row: the methods that change a row; the two JDK methods in bytecode -/
def bcI (x : Int32) : Int32 :=
  let u := fun (x : Int32) (k : Nat) => ((x.toUInt32 >>> ((nI k).toUInt32 &&& Int32.toUInt32 31)).toInt32)
  let x1 := x - (u x 1 &&& 1431655765)
  let x2 := (x1 &&& 858993459) + (u x1 2 &&& 858993459)
  let x3 := (x2 + u x2 4) &&& 252645135
  let x4 := x3 + u x3 8
  let x5 := x4 + u x4 16
  x5 &&& nI 63
theorem kB265 : Cond.constant RJ6 265 1431655765 ∈ TWg := tw_dec (by decide +kernel)
theorem kB266 : Cond.constant RJ6 266 858993459 ∈ TWg := tw_dec (by decide +kernel)
theorem kB267 : Cond.constant RJ6 267 252645135 ∈ TWg := tw_dec (by decide +kernel)
set_option maxHeartbeats 4000000 in
set_option maxRecDepth 100000 in
theorem tJ6_bitCount_0f7a4 {l : Launch} {D : va_G} {A : Nat → Prop} {N : Nat} {Sh : SM} {J : JM} (I : IM) (x : Int32) : CtP l D A yJ6_bitCount_0f7a4 cJ6_bitCount_0f7a4 1 FieldType.int 0 N Sh I J [.int x] (fun r => r = bcI x) := by
  refine ct_I (l0 := [(0, .int x)]) (by decide +kernel) (Nat.le_of_ble_eq_true rfl) rfl (fun _ _ _ _ => rfl) ?_
  intro X hX hret _ _ _
  have hX : XK X RJ6 cJ6_bitCount_0f7a4 1 0 := hX
  refine wa_iload_n hX dJ6_bitCount_0f7a4_0 rfl ?_
  refine wa_iload_n hX dJ6_bitCount_0f7a4_1 rfl ?_
  refine wa_iconst (v := nI 1) hX dJ6_bitCount_0f7a4_2 (by decide) ?_
  refine wa_iushr hX dJ6_bitCount_0f7a4_3 ?_
  refine wa_ldcw hX kB265 dJ6_bitCount_0f7a4_4 ?_
  refine wa_iand hX dJ6_bitCount_0f7a4_7 ?_
  refine wa_isub hX dJ6_bitCount_0f7a4_8 ?_
  refine wa_istore_n hX dJ6_bitCount_0f7a4_9 (by decide) ?_
  refine wa_iload_n hX dJ6_bitCount_0f7a4_10 rfl ?_
  refine wa_ldcw hX kB266 dJ6_bitCount_0f7a4_11 ?_
  refine wa_iand hX dJ6_bitCount_0f7a4_14 ?_
  refine wa_iload_n hX dJ6_bitCount_0f7a4_15 rfl ?_
  refine wa_iconst (v := nI 2) hX dJ6_bitCount_0f7a4_16 (by decide) ?_
  refine wa_iushr hX dJ6_bitCount_0f7a4_17 ?_
  refine wa_ldcw hX kB266 dJ6_bitCount_0f7a4_18 ?_
  refine wa_iand hX dJ6_bitCount_0f7a4_21 ?_
  refine wa_iadd hX dJ6_bitCount_0f7a4_22 ?_
  refine wa_istore_n hX dJ6_bitCount_0f7a4_23 (by decide) ?_
  refine wa_iload_n hX dJ6_bitCount_0f7a4_24 rfl ?_
  refine wa_iload_n hX dJ6_bitCount_0f7a4_25 rfl ?_
  refine wa_iconst (v := nI 4) hX dJ6_bitCount_0f7a4_26 (by decide) ?_
  refine wa_iushr hX dJ6_bitCount_0f7a4_27 ?_
  refine wa_iadd hX dJ6_bitCount_0f7a4_28 ?_
  refine wa_ldcw hX kB267 dJ6_bitCount_0f7a4_29 ?_
  refine wa_iand hX dJ6_bitCount_0f7a4_32 ?_
  refine wa_istore_n hX dJ6_bitCount_0f7a4_33 (by decide) ?_
  refine wa_iload_n hX dJ6_bitCount_0f7a4_34 rfl ?_
  refine wa_iload_n hX dJ6_bitCount_0f7a4_35 rfl ?_
  refine wa_bipush (v := nI 8) hX dJ6_bitCount_0f7a4_36 (by decide) ?_
  refine wa_iushr hX dJ6_bitCount_0f7a4_38 ?_
  refine wa_iadd hX dJ6_bitCount_0f7a4_39 ?_
  refine wa_istore_n hX dJ6_bitCount_0f7a4_40 (by decide) ?_
  refine wa_iload_n hX dJ6_bitCount_0f7a4_41 rfl ?_
  refine wa_iload_n hX dJ6_bitCount_0f7a4_42 rfl ?_
  refine wa_bipush (v := nI 16) hX dJ6_bitCount_0f7a4_43 (by decide) ?_
  refine wa_iushr hX dJ6_bitCount_0f7a4_45 ?_
  refine wa_iadd hX dJ6_bitCount_0f7a4_46 ?_
  refine wa_istore_n hX dJ6_bitCount_0f7a4_47 (by decide) ?_
  refine wa_iload_n hX dJ6_bitCount_0f7a4_48 rfl ?_
  refine wa_bipush (v := nI 63) hX dJ6_bitCount_0f7a4_49 (by decide) ?_
  refine wa_iand hX dJ6_bitCount_0f7a4_51 ?_
  exact hret _ _ _ _ _ ⟨rfl, rfl, rfl⟩ dJ6_bitCount_0f7a4_52

set_option maxHeartbeats 4000000 in
set_option maxRecDepth 100000 in
theorem tJ7_fill_53178 {l : Launch} {D : va_G} {A : Nat → Prop} {N : Nat} {Sh : SM} {J : JM} (I : IM) {a n0 : Nat} {x : Int32} (hs : shI Sh a n0) (hn : n0 < 2 ^ 31) : CtW l D A yJ7_fill_53178 cJ7_fill_53178 4 0 N Sh I J [.ref a, .int x] (fun I' => I' = uR I a (rowN n0 (fun _ => x) (I a))) := by
  refine ct_V (l0 := [(0, .ref a), (1, .int x)]) (by decide +kernel) (Nat.le_of_ble_eq_true rfl) rfl ?_
  intro X hX hret _ _ _
  have hX : XK X RJ7 cJ7_fill_53178 4 0 := hX
  have lp : ∀ (n i : Nat), i + n = n0 → WX X 0 0 N Sh (uR I a (rowN i (fun _ => x) (I a))) J 5 [(0, .ref a), (1, .int x), (2, .int (nI i)), (3, .int (nI n0))] [] := by
    intro n
    induction n with
    | zero =>
      intro i  hi
      obtain rfl : n0 = i := by omega
      refine wa_iload_n hX dJ7_fill_53178_5 rfl ?_
      refine wa_iload_n hX dJ7_fill_53178_6 rfl ?_
      refine wa_icmp_ge (tgt := 20) hX dJ7_fill_53178_7 (by decide) (fun c_7 => ?_) (fun c_7 => absurd (Int32.le_refl _) c_7)
      exact hret _ _ _ _ ⟨rfl, rfl⟩ dJ7_fill_53178_20
    | succ n ih =>
      intro i  hi
      have hlt : i < n0 := by omega
      refine wa_iload_n hX dJ7_fill_53178_5 rfl ?_
      refine wa_iload_n hX dJ7_fill_53178_6 rfl ?_
      refine wa_icmp_ge (tgt := 20) hX dJ7_fill_53178_7 (by decide) (fun c_7 => absurd c_7 (nI_ge hlt hn)) (fun c_7 => ?_)
      refine wa_aload_n hX dJ7_fill_53178_10 rfl ?_
      refine wa_iload_n hX dJ7_fill_53178_11 rfl ?_
      refine wa_iload_n hX dJ7_fill_53178_12 rfl ?_
      refine wa_iast hX hs rfl hlt hn dJ7_fill_53178_13 ?_
      refine wa_iinc hX dJ7_fill_53178_14 rfl (inc1 _) (by decide) ?_
      refine wa_goto (tgt := 5) hX dJ7_fill_53178_17 (by decide) ?_
      refine wx_sub (l' := [(0, _), (1, _), (2, _), (3, _)]) ⟨rfl, rfl, rfl, rfl, trivial⟩ ?_
      rw [u2_row rfl]
      exact ih (i + 1) (by omega)
  obtain ⟨cA, hsA⟩ := hs
  refine wa_iconst (v := nI 0) hX dJ7_fill_53178_0 (by decide) ?_
  refine wa_istore_n hX dJ7_fill_53178_1 (by decide) ?_
  refine wa_aload_n hX dJ7_fill_53178_2 rfl ?_
  refine wa_alen hX hsA dJ7_fill_53178_3 ?_
  refine wa_istore_n hX dJ7_fill_53178_4 (by decide) ?_
  rw [row_0 (I := I) (a := a) (g := fun _ => x)]
  exact lp n0 0 (by omega)

set_option maxHeartbeats 4000000 in
set_option maxRecDepth 100000 in
theorem tX2_walkFar {l : Launch} {D : va_G} {A : Nat → Prop} {N : Nat} {Sh : SM} {J : JM} (I : IM) {a : Nat} {v : Nat → Nat} (hs : shI Sh a 16) (hv : RV (I a) v) {j n0 : Nat} (hj : j ≤ 16) (hn0 : n0 < 2 ^ 31) : CtP l D A yX2_walkFar cX2_walkFar 5 FieldType.int 2 N Sh I J [.ref a, .int (nI j), .int (nI n0)] (fun r => r = nI (itr v n0 j)) := by
  refine ct_I (l0 := [(0, .ref a), (1, .int (nI j)), (2, .int (nI n0))]) (by decide +kernel) (Nat.le_of_ble_eq_true rfl) rfl (fun _ _ _ _ => rfl) ?_
  intro X hX hret _ _ _
  have hX : XK X RX2 cX2_walkFar 5 2 := hX
  refine wa_iload_n hX dX2_walkFar_0 rfl ?_
  refine wa_bipush (v := nI 16) hX dX2_walkFar_1 (by decide) ?_
  refine wa_icmp_gt (tgt := 13) hX dX2_walkFar_3 (by decide) (fun c_3 => ?_) (fun c_3 => ?_)
  · skip
    have hgt : 16 < n0 := by
      rcases Nat.lt_or_ge 16 n0 with h | h
      · exact h
      · exact absurd c_3 (nI_nlt h (by decide))
    refine wa_aload_n hX dX2_walkFar_13 rfl ?_
    refine wa_iload_n hX dX2_walkFar_14 rfl ?_
    refine wa_bipush (v := nI 16) hX dX2_walkFar_15 (by decide) ?_
    refine wa_sP hX (tX2_walk I hs hv hj (show 16 < 2 ^ 31 by decide)) bX2_walk mX2_21 (by decide) (by decide) rfl rfl (Nat.le_of_ble_eq_true rfl) dX2_walkFar_17 (fun r_17 q_17 => ?_)
    subst q_17
    refine wa_istore_n hX dX2_walkFar_20 (by decide) ?_
    refine wa_aload_n hX dX2_walkFar_21 rfl ?_
    refine wa_iload_n hX dX2_walkFar_22 rfl ?_
    refine wa_sP hX (tX2_cycleOf I hs hv (itr_le hv 16 hj)) bX2_cycleOf mX2_25 (by decide) (by decide) rfl rfl (Nat.le_of_ble_eq_true rfl) dX2_walkFar_23 (fun r_23 q_23 => ?_)
    subst q_23
    refine wa_istore hX dX2_walkFar_26 (by decide) ?_
    refine wa_iload hX dX2_walkFar_28 rfl ?_
    refine wa_if_gt (tgt := 38) hX dX2_walkFar_30 (by decide) (fun c_30 => ?_) (fun c_30 => ?_)
    · skip
      have c1 : cyc v (itr v 16 j) ≠ 0 := by
        intro h
        rw [h] at c_30
        exact absurd c_30 (by decide)
      refine wa_aload_n hX dX2_walkFar_38 rfl ?_
      refine wa_iload_n hX dX2_walkFar_39 rfl ?_
      refine wa_iload_n hX dX2_walkFar_40 rfl ?_
      refine wa_bipush (v := nI 16) hX dX2_walkFar_41 (by decide) ?_
      refine wa_isub hX dX2_walkFar_43 ?_
      refine wa_iload hX dX2_walkFar_44 rfl ?_
      refine wa_irem hX dX2_walkFar_46 (nI_ne0 (Nat.pos_of_ne_zero c1) cyc_lt) ?_
      rw [pk_sub (Nat.le_of_lt hgt), pk_rem (by omega) (Nat.pos_of_ne_zero c1) cyc_lt]
      refine wa_sP hX (tX2_walk I hs hv (itr_le hv 16 hj) (show (n0 - 16) % cyc v (itr v 16 j) < 2 ^ 31 by have := Nat.mod_le (n0 - 16) (cyc v (itr v 16 j)); omega)) bX2_walk mX2_21 (by decide) (by decide) rfl rfl (Nat.le_of_ble_eq_true rfl) dX2_walkFar_47 (fun r_47 q_47 => ?_)
      exact hret _ _ _ _ _ ⟨(by rw [q_47, ← far_1 (Nat.le_of_lt hgt) hv hj c1]), rfl, rfl⟩ dX2_walkFar_50
    · skip
      have c1 : cyc v (itr v 16 j) = 0 := by
        rcases Nat.eq_zero_or_pos (cyc v (itr v 16 j)) with h | h
        · exact h
        · exact absurd (nI_lt h cyc_lt) c_30
      refine wa_bipush (v := nI 16) hX dX2_walkFar_33 (by decide) ?_
      refine wa_goto (tgt := 50) hX dX2_walkFar_35 (by decide) ?_
      exact hret _ _ _ _ _ ⟨(by rw [far_0 (Nat.le_of_lt hgt) hv hj c1]), rfl, rfl⟩ dX2_walkFar_50
  · skip
    refine wa_aload_n hX dX2_walkFar_6 rfl ?_
    refine wa_iload_n hX dX2_walkFar_7 rfl ?_
    refine wa_iload_n hX dX2_walkFar_8 rfl ?_
    refine wa_sP hX (tX2_walk I hs hv hj hn0) bX2_walk mX2_21 (by decide) (by decide) rfl rfl (Nat.le_of_ble_eq_true rfl) dX2_walkFar_9 (fun r_9 q_9 => ?_)
    exact hret _ _ _ _ _ ⟨q_9, rfl, rfl⟩ dX2_walkFar_12

set_option maxHeartbeats 4000000 in
set_option maxRecDepth 100000 in
theorem tX2_overlay {l : Launch} {D : va_G} {A : Nat → Prop} {N : Nat} {Sh : SM} {J : JM} (I : IM) {a b : Nat} (hs : shI Sh a 16) (hs2 : shI Sh b 16) (hne : b ≠ a) : CtW l D A yX2_overlay cX2_overlay 3 0 N Sh I J [.ref a, .ref b] (fun I' => I' = uR I a (rowN 16 (fun k => if I a k = nI 16 then I b k else I a k) (I a))) := by
  refine ct_V (l0 := [(0, .ref a), (1, .ref b)]) (by decide +kernel) (Nat.le_of_ble_eq_true rfl) rfl ?_
  intro X hX hret _ _ _
  have hX : XK X RX2 cX2_overlay 3 0 := hX
  have lp : ∀ (n i : Nat), i + n = 16 → WX X 0 0 N Sh (uR I a (rowN i (fun k => if I a k = nI 16 then I b k else I a k) (I a))) J 2 [(0, .ref a), (1, .ref b), (2, .int (nI i))] [] := by
    intro n
    induction n with
    | zero =>
      intro i  hi
      obtain rfl : 16 = i := by omega
      refine wa_iload_n hX dX2_overlay_2 rfl ?_
      refine wa_bipush (v := nI 16) hX dX2_overlay_3 (by decide) ?_
      refine wa_icmp_ge (tgt := 28) hX dX2_overlay_5 (by decide) (fun c_5 => ?_) (fun c_5 => absurd (Int32.le_refl _) c_5)
      exact hret _ _ _ _ ⟨rfl, rfl⟩ dX2_overlay_28
    | succ n ih =>
      intro i  hi
      have hlt : i < 16 := by omega
      refine wa_iload_n hX dX2_overlay_2 rfl ?_
      refine wa_bipush (v := nI 16) hX dX2_overlay_3 (by decide) ?_
      refine wa_icmp_ge (tgt := 28) hX dX2_overlay_5 (by decide) (fun c_5 => absurd c_5 (nI_ge hlt (by decide))) (fun c_5 => ?_)
      refine wa_aload_n hX dX2_overlay_8 rfl ?_
      refine wa_iload_n hX dX2_overlay_9 rfl ?_
      refine wa_iald hX hs rfl (by first | assumption | omega) (by decide) dX2_overlay_10 ?_
      refine wa_bipush (v := nI 16) hX dX2_overlay_11 (by decide) ?_
      refine wa_icmp_ne (tgt := 22) hX dX2_overlay_13 (by decide) (fun c_13 => ?_) (fun c_13 => ?_)
      · skip
        refine wa_iinc hX dX2_overlay_22 rfl (inc1 _) (by decide) ?_
        refine wa_goto (tgt := 2) hX dX2_overlay_25 (by decide) ?_
        refine wx_sub (l' := [(0, _), (1, _), (2, _)]) ⟨rfl, rfl, rfl, trivial⟩ ?_
        rw [row_e (by rw [rd_s] at c_13; simp [c_13])]
        exact ih (i + 1) (by omega)
      · skip
        refine wa_aload_n hX dX2_overlay_16 rfl ?_
        refine wa_iload_n hX dX2_overlay_17 rfl ?_
        refine wa_aload_n hX dX2_overlay_18 rfl ?_
        refine wa_iload_n hX dX2_overlay_19 rfl ?_
        refine wa_iald hX hs2 rfl (by first | assumption | omega) (by decide) dX2_overlay_20 ?_
        refine wa_iast hX hs rfl (by first | assumption | omega) (by decide) dX2_overlay_21 ?_
        refine wa_iinc hX dX2_overlay_22 rfl (inc1 _) (by decide) ?_
        refine wa_goto (tgt := 2) hX dX2_overlay_25 (by decide) ?_
        refine wx_sub (l' := [(0, _), (1, _), (2, _)]) ⟨rfl, rfl, rfl, trivial⟩ ?_
        rw [u2_row (by rw [rd_s] at c_13; rw [uR_n hne]; simp [c_13])]
        exact ih (i + 1) (by omega)
  refine wa_iconst (v := nI 0) hX dX2_overlay_0 (by decide) ?_
  refine wa_istore_n hX dX2_overlay_1 (by decide) ?_
  rw [row_0 (I := I) (a := a) (g := fun k => if I a k = nI 16 then I b k else I a k)]
  exact lp 16 0 (by omega)

set_option maxHeartbeats 4000000 in
set_option maxRecDepth 100000 in
theorem tX2_compose {l : Launch} {D : va_G} {A : Nat → Prop} {N : Nat} {Sh : SM} {J : JM} (I : IM) {a : Nat} {v : Nat → Nat} (hs : shI Sh a 16) (hv : RV (I a) v) {b : Nat} {w : Nat → Nat} (hs2 : shI Sh b 16) (hw : RV (I b) w) (hne : b ≠ a) : CtW l D A yX2_compose cX2_compose 3 1 N Sh I J [.ref a, .ref b] (fun I' => I' = uR I a (rowN 16 (fun k => nI (stp w (v k))) (I a))) := by
  refine ct_V (l0 := [(0, .ref a), (1, .ref b)]) (by decide +kernel) (Nat.le_of_ble_eq_true rfl) rfl ?_
  intro X hX hret _ _ _
  have hX : XK X RX2 cX2_compose 3 1 := hX
  have lp : ∀ (n i : Nat), i + n = 16 → WX X 0 0 N Sh (uR I a (rowN i (fun k => nI (stp w (v k))) (I a))) J 2 [(0, .ref a), (1, .ref b), (2, .int (nI i))] [] := by
    intro n
    induction n with
    | zero =>
      intro i  hi
      obtain rfl : 16 = i := by omega
      refine wa_iload_n hX dX2_compose_2 rfl ?_
      refine wa_bipush (v := nI 16) hX dX2_compose_3 (by decide) ?_
      refine wa_icmp_ge (tgt := 24) hX dX2_compose_5 (by decide) (fun c_5 => ?_) (fun c_5 => absurd (Int32.le_refl _) c_5)
      exact hret _ _ _ _ ⟨rfl, rfl⟩ dX2_compose_24
    | succ n ih =>
      intro i  hi
      have hlt : i < 16 := by omega
      refine wa_iload_n hX dX2_compose_2 rfl ?_
      refine wa_bipush (v := nI 16) hX dX2_compose_3 (by decide) ?_
      refine wa_icmp_ge (tgt := 24) hX dX2_compose_5 (by decide) (fun c_5 => absurd c_5 (nI_ge hlt (by decide))) (fun c_5 => ?_)
      refine wa_aload_n hX dX2_compose_8 rfl ?_
      refine wa_iload_n hX dX2_compose_9 rfl ?_
      refine wa_aload_n hX dX2_compose_10 rfl ?_
      refine wa_aload_n hX dX2_compose_11 rfl ?_
      refine wa_iload_n hX dX2_compose_12 rfl ?_
      refine wa_iald hX hs rfl (by first | assumption | omega) (by decide) dX2_compose_13 ?_
      rw [rd_s, (hv i hlt).1]
      refine wa_sP hX (tX2_step _ hs2 (v := w) (by rw [uR_n hne]; exact hw) (hv i hlt).2) bX2_step mX2_15 (by decide) (by decide) rfl rfl (Nat.le_of_ble_eq_true rfl) dX2_compose_14 (fun r_14 q_14 => ?_)
      refine wa_iast hX hs rfl (by first | assumption | omega) (by decide) dX2_compose_17 ?_
      refine wa_iinc hX dX2_compose_18 rfl (inc1 _) (by decide) ?_
      refine wa_goto (tgt := 2) hX dX2_compose_21 (by decide) ?_
      refine wx_sub (l' := [(0, _), (1, _), (2, _)]) ⟨rfl, rfl, rfl, trivial⟩ ?_
      rw [u2_row (by exact q_14)]
      exact ih (i + 1) (by omega)
  refine wa_iconst (v := nI 0) hX dX2_compose_0 (by decide) ?_
  refine wa_istore_n hX dX2_compose_1 (by decide) ?_
  rw [row_0 (I := I) (a := a) (g := fun k => nI (stp w (v k)))]
  exact lp 16 0 (by omega)

set_option maxHeartbeats 4000000 in
set_option maxRecDepth 100000 in
theorem tX2_power {l : Launch} {D : va_G} {A : Nat → Prop} {N : Nat} {Sh : SM} {J : JM} (I : IM) {a : Nat} {v : Nat → Nat} (hs : shI Sh a 16) (hv : RV (I a) v) {b n0 : Nat} (hs2 : shI Sh b 16) (hne : a ≠ b) (hn0 : n0 < 2 ^ 31) : CtW l D A yX2_power cX2_power 4 2 N Sh I J [.ref a, .int (nI n0), .ref b] (fun I' => I' = uR I b (rowN 16 (fun k => nI (itr v n0 k)) (I b))) := by
  refine ct_V (l0 := [(0, .ref a), (1, .int (nI n0)), (2, .ref b)]) (by decide +kernel) (Nat.le_of_ble_eq_true rfl) rfl ?_
  intro X hX hret _ _ _
  have hX : XK X RX2 cX2_power 4 2 := hX
  have lp : ∀ (n i : Nat), i + n = 16 → WX X 0 0 N Sh (uR I b (rowN i (fun k => nI (itr v n0 k)) (I b))) J 2 [(0, .ref a), (1, .int (nI n0)), (2, .ref b), (3, .int (nI i))] [] := by
    intro n
    induction n with
    | zero =>
      intro i  hi
      obtain rfl : 16 = i := by omega
      refine wa_iload_n hX dX2_power_2 rfl ?_
      refine wa_bipush (v := nI 16) hX dX2_power_3 (by decide) ?_
      refine wa_icmp_ge (tgt := 23) hX dX2_power_5 (by decide) (fun c_5 => ?_) (fun c_5 => absurd (Int32.le_refl _) c_5)
      exact hret _ _ _ _ ⟨rfl, rfl⟩ dX2_power_23
    | succ n ih =>
      intro i  hi
      have hlt : i < 16 := by omega
      refine wa_iload_n hX dX2_power_2 rfl ?_
      refine wa_bipush (v := nI 16) hX dX2_power_3 (by decide) ?_
      refine wa_icmp_ge (tgt := 23) hX dX2_power_5 (by decide) (fun c_5 => absurd c_5 (nI_ge hlt (by decide))) (fun c_5 => ?_)
      refine wa_aload_n hX dX2_power_8 rfl ?_
      refine wa_iload_n hX dX2_power_9 rfl ?_
      refine wa_aload_n hX dX2_power_10 rfl ?_
      refine wa_iload_n hX dX2_power_11 rfl ?_
      refine wa_iload_n hX dX2_power_12 rfl ?_
      refine wa_sP hX (tX2_walk _ hs (v := v) (by rw [uR_n hne]; exact hv) (show i ≤ 16 by omega) hn0) bX2_walk mX2_21 (by decide) (by decide) rfl rfl (Nat.le_of_ble_eq_true rfl) dX2_power_13 (fun r_13 q_13 => ?_)
      refine wa_iast hX hs2 rfl (by first | assumption | omega) (by decide) dX2_power_16 ?_
      refine wa_iinc hX dX2_power_17 rfl (inc1 _) (by decide) ?_
      refine wa_goto (tgt := 2) hX dX2_power_20 (by decide) ?_
      refine wx_sub (l' := [(0, _), (1, _), (2, _), (3, _)]) ⟨rfl, rfl, rfl, rfl, trivial⟩ ?_
      rw [u2_row (by exact q_13)]
      exact ih (i + 1) (by omega)
  refine wa_iconst (v := nI 0) hX dX2_power_0 (by decide) ?_
  refine wa_istore_n hX dX2_power_1 (by decide) ?_
  rw [row_0 (I := I) (a := b) (g := fun k => nI (itr v n0 k))]
  exact lp 16 0 (by omega)

set_option maxHeartbeats 4000000 in
set_option maxRecDepth 100000 in
theorem tX2_restrict {l : Launch} {D : va_G} {A : Nat → Prop} {N : Nat} {Sh : SM} {J : JM} (I : IM) {a : Nat} {x : Int32} (hs : shI Sh a 16) : CtW l D A yX2_restrict cX2_restrict 3 0 N Sh I J [.ref a, .int x] (fun I' => I' = uR I a (rowN 16 (fun k => if bt x k = true then I a k else nI 16) (I a))) := by
  refine ct_V (l0 := [(0, .ref a), (1, .int x)]) (by decide +kernel) (Nat.le_of_ble_eq_true rfl) rfl ?_
  intro X hX hret _ _ _
  have hX : XK X RX2 cX2_restrict 3 0 := hX
  have lp : ∀ (n i : Nat), i + n = 16 → WX X 0 0 N Sh (uR I a (rowN i (fun k => if bt x k = true then I a k else nI 16) (I a))) J 2 [(0, .ref a), (1, .int x), (2, .int (nI i))] [] := by
    intro n
    induction n with
    | zero =>
      intro i  hi
      obtain rfl : 16 = i := by omega
      refine wa_iload_n hX dX2_restrict_2 rfl ?_
      refine wa_bipush (v := nI 16) hX dX2_restrict_3 (by decide) ?_
      refine wa_icmp_ge (tgt := 27) hX dX2_restrict_5 (by decide) (fun c_5 => ?_) (fun c_5 => absurd (Int32.le_refl _) c_5)
      exact hret _ _ _ _ ⟨rfl, rfl⟩ dX2_restrict_27
    | succ n ih =>
      intro i  hi
      have hlt : i < 16 := by omega
      refine wa_iload_n hX dX2_restrict_2 rfl ?_
      refine wa_bipush (v := nI 16) hX dX2_restrict_3 (by decide) ?_
      refine wa_icmp_ge (tgt := 27) hX dX2_restrict_5 (by decide) (fun c_5 => absurd c_5 (nI_ge hlt (by decide))) (fun c_5 => ?_)
      refine wa_iload_n hX dX2_restrict_8 rfl ?_
      refine wa_iload_n hX dX2_restrict_9 rfl ?_
      refine wa_ishr hX dX2_restrict_10 ?_
      refine wa_iconst (v := nI 1) hX dX2_restrict_11 (by decide) ?_
      refine wa_iand hX dX2_restrict_12 ?_
      refine wa_if_ne (tgt := 21) hX dX2_restrict_13 (by decide) (fun c_13 => ?_) (fun c_13 => ?_)
      · skip
        have c1 : bt x i = true := by
          cases h : bt x i with
          | true => rfl
          | false => exact absurd ((bt_t0 (by omega) x).mpr h) c_13
        refine wa_iinc hX dX2_restrict_21 rfl (inc1 _) (by decide) ?_
        refine wa_goto (tgt := 2) hX dX2_restrict_24 (by decide) ?_
        refine wx_sub (l' := [(0, _), (1, _), (2, _)]) ⟨rfl, rfl, rfl, trivial⟩ ?_
        rw [row_e (by simp [c1])]
        exact ih (i + 1) (by omega)
      · skip
        have c1 := (bt_t0 (by omega) x).mp c_13
        refine wa_aload_n hX dX2_restrict_16 rfl ?_
        refine wa_iload_n hX dX2_restrict_17 rfl ?_
        refine wa_bipush (v := nI 16) hX dX2_restrict_18 (by decide) ?_
        refine wa_iast hX hs rfl (by first | assumption | omega) (by decide) dX2_restrict_20 ?_
        refine wa_iinc hX dX2_restrict_21 rfl (inc1 _) (by decide) ?_
        refine wa_goto (tgt := 2) hX dX2_restrict_24 (by decide) ?_
        refine wx_sub (l' := [(0, _), (1, _), (2, _)]) ⟨rfl, rfl, rfl, trivial⟩ ?_
        rw [u2_row (by simp [c1])]
        exact ih (i + 1) (by omega)
  refine wa_iconst (v := nI 0) hX dX2_restrict_0 (by decide) ?_
  refine wa_istore_n hX dX2_restrict_1 (by decide) ?_
  rw [row_0 (I := I) (a := a) (g := fun k => if bt x k = true then I a k else nI 16)]
  exact lp 16 0 (by omega)

/-- the set of the values of the first n keys -/
def imgS (v : Nat → Nat) : Nat → Int32
  | 0 => nI 0
  | n + 1 => if v n = 16 then imgS v n else imgS v n ||| b1 (nI (v n))
set_option maxHeartbeats 4000000 in
set_option maxRecDepth 100000 in
theorem tX2_image {l : Launch} {D : va_G} {A : Nat → Prop} {N : Nat} {Sh : SM} {J : JM} (I : IM) {a : Nat} {v : Nat → Nat} (hs : shI Sh a 16) (hv : RV (I a) v) : CtP l D A yX2_image cX2_image 3 FieldType.int 0 N Sh I J [.ref a] (fun r => r = imgS v 16) := by
  refine ct_I (l0 := [(0, .ref a)]) (by decide +kernel) (Nat.le_of_ble_eq_true rfl) rfl (fun _ _ _ _ => rfl) ?_
  intro X hX hret _ _ _
  have hX : XK X RX2 cX2_image 3 0 := hX
  have lp : ∀ (n i : Nat) (x : Int32), i + n = 16 → (x = imgS v i) → WX X 0 0 N Sh I J 4 [(0, .ref a), (1, .int x), (2, .int (nI i))] [] := by
    intro n
    induction n with
    | zero =>
      intro i x hi ex
      obtain rfl : 16 = i := by omega
      refine wa_iload_n hX dX2_image_4 rfl ?_
      refine wa_bipush (v := nI 16) hX dX2_image_5 (by decide) ?_
      refine wa_icmp_ge (tgt := 32) hX dX2_image_7 (by decide) (fun c_7 => ?_) (fun c_7 => absurd (Int32.le_refl _) c_7)
      refine wa_iload_n hX dX2_image_32 rfl ?_
      exact hret _ _ _ _ _ ⟨ex, rfl, rfl⟩ dX2_image_33
    | succ n ih =>
      intro i x hi ex
      have hlt : i < 16 := by omega
      refine wa_iload_n hX dX2_image_4 rfl ?_
      refine wa_bipush (v := nI 16) hX dX2_image_5 (by decide) ?_
      refine wa_icmp_ge (tgt := 32) hX dX2_image_7 (by decide) (fun c_7 => absurd c_7 (nI_ge hlt (by decide))) (fun c_7 => ?_)
      refine wa_aload_n hX dX2_image_10 rfl ?_
      refine wa_iload_n hX dX2_image_11 rfl ?_
      refine wa_iald hX (by assumption) rfl (by first | assumption | omega) (by decide) dX2_image_12 ?_
      rw [(hv i hlt).1]
      refine wa_bipush (v := nI 16) hX dX2_image_13 (by decide) ?_
      refine wa_icmp_eq (tgt := 26) hX dX2_image_15 (by decide) (fun c_15 => ?_) (fun c_15 => ?_)
      · skip
        have c1 := eq_of_nI c_15 (by have := (hv i hlt).2; omega) (by decide)
        refine wa_iinc hX dX2_image_26 rfl (inc1 _) (by decide) ?_
        refine wa_goto (tgt := 4) hX dX2_image_29 (by decide) ?_
        refine wx_sub (l' := [(0, _), (1, _), (2, _)]) ⟨rfl, rfl, rfl, trivial⟩ ?_
        exact ih (i + 1) _ (by omega) (by rw [ex]; simp [imgS, c1])
      · skip
        have c1 := ne_of_nI c_15
        refine wa_iload_n hX dX2_image_18 rfl ?_
        refine wa_iconst (v := nI 1) hX dX2_image_19 (by decide) ?_
        refine wa_aload_n hX dX2_image_20 rfl ?_
        refine wa_iload_n hX dX2_image_21 rfl ?_
        refine wa_iald hX (by assumption) rfl (by first | assumption | omega) (by decide) dX2_image_22 ?_
        rw [(hv i hlt).1]
        refine wa_ishl hX dX2_image_23 ?_
        refine wa_ior hX dX2_image_24 ?_
        refine wa_istore_n hX dX2_image_25 (by decide) ?_
        refine wa_iinc hX dX2_image_26 rfl (inc1 _) (by decide) ?_
        refine wa_goto (tgt := 4) hX dX2_image_29 (by decide) ?_
        refine wx_sub (l' := [(0, _), (1, _), (2, _)]) ⟨rfl, rfl, rfl, trivial⟩ ?_
        exact ih (i + 1) _ (by omega) (by rw [ex]; simp [imgS, c1, b1])
  refine wa_iconst (v := nI 0) hX dX2_image_0 (by decide) ?_
  refine wa_istore_n hX dX2_image_1 (by decide) ?_
  refine wa_iconst (v := nI 0) hX dX2_image_2 (by decide) ?_
  refine wa_istore_n hX dX2_image_3 (by decide) ?_
  exact lp 16 0 _ (by omega) rfl

set_option maxHeartbeats 4000000 in
set_option maxRecDepth 100000 in
theorem tX2_isOneToOne {l : Launch} {D : va_G} {A : Nat → Prop} {N : Nat} {Sh : SM} {J : JM} (I : IM) {a : Nat} {v : Nat → Nat} (hs : shI Sh a 16) (hv : RV (I a) v) : CtP l D A yX2_isOneToOne cX2_isOneToOne 2 FieldType.boolean 1 N Sh I J [.ref a] (fun r => r = bI (decide (bcI (imgS v 16) = nI 16 - bcI (bset (fun k => decide (I a k = nI 16)) 16)))) := by
  refine ct_I (l0 := [(0, .ref a)]) (by decide +kernel) (Nat.le_of_ble_eq_true rfl) rfl (fun _ _ _ h => by obtain ⟨rfl, _⟩ := h; exact nar_B _) ?_
  intro X hX hret _ _ _
  have hX : XK X RX2 cX2_isOneToOne 2 1 := hX
  refine wa_bipush (v := nI 16) hX dX2_isOneToOne_0 (by decide) ?_
  refine wa_aload_n hX dX2_isOneToOne_2 rfl ?_
  refine wa_sP hX (tX2_holes I hs) bX2_holes mX2_28 (by decide) (by decide) rfl rfl (Nat.le_of_ble_eq_true rfl) dX2_isOneToOne_3 (fun r_3 q_3 => ?_)
  subst q_3
  refine wa_sP hX (tJ6_bitCount_0f7a4 I (bset (fun k => decide (I a k = nI 16)) 16)) bJ6_bitCount_0f7a4 mX2_32 (by decide) (by decide) rfl rfl (Nat.le_of_ble_eq_true rfl) dX2_isOneToOne_6 (fun r_6 q_6 => ?_)
  subst q_6
  refine wa_isub hX dX2_isOneToOne_9 ?_
  refine wa_istore_n hX dX2_isOneToOne_10 (by decide) ?_
  refine wa_aload_n hX dX2_isOneToOne_11 rfl ?_
  refine wa_sP hX (tX2_image I hs hv) bX2_image mX2_38 (by decide) (by decide) rfl rfl (Nat.le_of_ble_eq_true rfl) dX2_isOneToOne_12 (fun r_12 q_12 => ?_)
  subst q_12
  refine wa_sP hX (tJ6_bitCount_0f7a4 I (imgS v 16)) bJ6_bitCount_0f7a4 mX2_32 (by decide) (by decide) rfl rfl (Nat.le_of_ble_eq_true rfl) dX2_isOneToOne_15 (fun r_15 q_15 => ?_)
  subst q_15
  refine wa_iload_n hX dX2_isOneToOne_18 rfl ?_
  refine wa_icmp_ne (tgt := 26) hX dX2_isOneToOne_19 (by decide) (fun c_19 => ?_) (fun c_19 => ?_)
  · skip
    refine wa_iconst (v := nI 0) hX dX2_isOneToOne_26 (by decide) ?_
    exact hret _ _ _ _ _ ⟨(by simp [bI, c_19]), rfl, rfl⟩ dX2_isOneToOne_27
  · skip
    refine wa_iconst (v := nI 1) hX dX2_isOneToOne_22 (by decide) ?_
    refine wa_goto (tgt := 27) hX dX2_isOneToOne_23 (by decide) ?_
    exact hret _ _ _ _ _ ⟨(by simp [bI, c_19]), rfl, rfl⟩ dX2_isOneToOne_27

theorem invS_s (v : Nat → Nat) (r i k : Nat) : invS v r (i + 1) k = if v i = k then (if anyB v i k = false ∨ r = 2 then i else if r ≠ 1 then 16 else invS v r i k) else invS v r i k := rfl
theorem inv_a {v : Nat → Nat} {r i : Nat} (h : anyB v i (v i) = false ∨ r = 2) : ∀ k, k < 16 → (fun k => nI (invS v r (i + 1) k)) k = if k = v i then nI i else (fun k => nI (invS v r i k)) k := by
  intro k hk
  by_cases e : k = v i
  · subst e
    simp only [↓reduceIte, invS_s]
    rw [if_pos h]
  · simp only [if_neg e, invS_s]
    rw [if_neg (fun q => e q.symm)]
theorem inv_b {v : Nat → Nat} {r i : Nat} (h : anyB v i (v i) = true) (h2 : r ≠ 2) (h1 : r ≠ 1) : ∀ k, k < 16 → (fun k => nI (invS v r (i + 1) k)) k = if k = v i then nI 16 else (fun k => nI (invS v r i k)) k := by
  intro k hk
  by_cases e : k = v i
  · subst e
    simp only [↓reduceIte, invS_s]
    rw [if_neg (fun q => q.elim (fun q => by rw [h] at q; cases q) h2), if_pos h1]
  · simp only [if_neg e, invS_s]
    rw [if_neg (fun q => e q.symm)]
theorem inv_c {v : Nat → Nat} {r i : Nat} (h : anyB v i (v i) = true) (h2 : r ≠ 2) (h1 : r = 1) : ∀ k, k < 16 → (fun k => nI (invS v r i k)) k = (fun k => nI (invS v r (i + 1) k)) k := by
  intro k hk
  simp only [invS_s]
  by_cases e : v i = k
  · subst e
    rw [if_pos rfl, if_neg (fun q => q.elim (fun q => by rw [h] at q; cases q) h2), if_neg (by omega)]
  · rw [if_neg e]
theorem inv_d {v : Nat → Nat} {r i : Nat} (h : ¬ v i < 16) : ∀ k, k < 16 → (fun k => nI (invS v r i k)) k = (fun k => nI (invS v r (i + 1) k)) k := by
  intro k hk
  simp only [invS_s]
  rw [if_neg (by omega)]
set_option maxHeartbeats 4000000 in
set_option maxRecDepth 100000 in
theorem tX2_inverse {l : Launch} {D : va_G} {A : Nat → Prop} {N : Nat} {Sh : SM} {J : JM} (I : IM) {a : Nat} {v : Nat → Nat} (hs : shI Sh a 16) (hv : RV (I a) v) {b r0 : Nat} (hs2 : shI Sh b 16) (hne : a ≠ b) (hr0 : r0 ≤ 2) : CtW l D A yX2_inverse cX2_inverse 7 1 N Sh I J [.ref a, .int (nI r0), .ref b] (fun I' => I' = uR I b (rowN 16 (fun k => nI (invS v r0 16 k)) (I b))) := by
  refine ct_V (l0 := [(0, .ref a), (1, .int (nI r0)), (2, .ref b)]) (by decide +kernel) (Nat.le_of_ble_eq_true rfl) rfl ?_
  intro X hX hret _ _ _
  have hX : XK X RX2 cX2_inverse 7 1 := hX
  obtain ⟨cA, hsA⟩ := hs2
  have hs2 : shI Sh b 16 := ⟨cA, hsA⟩
  have lp : ∀ (n i : Nat) (x3 : Int32), i + n = 16 → (x3 = mtI v i) → WX X 0 0 N Sh (uR I b (rowN 16 (fun k => nI (invS v r0 i k)) (I b))) J 11 [(0, .ref a), (1, .int (nI r0)), (2, .ref b), (3, .int x3), (4, .int (nI i))] [] := by
    intro n
    induction n with
    | zero =>
      intro i x3 hi em
      obtain rfl : 16 = i := by omega
      refine wa_iload hX dX2_inverse_11 rfl ?_
      refine wa_bipush (v := nI 16) hX dX2_inverse_13 (by decide) ?_
      refine wa_icmp_ge (tgt := 94) hX dX2_inverse_15 (by decide) (fun c_15 => ?_) (fun c_15 => absurd (Int32.le_refl _) c_15)
      exact hret _ _ _ _ ⟨rfl, rfl⟩ dX2_inverse_94
    | succ n ih =>
      intro i x3 hi em
      have hlt : i < 16 := by omega
      refine wa_iload hX dX2_inverse_11 rfl ?_
      refine wa_bipush (v := nI 16) hX dX2_inverse_13 (by decide) ?_
      refine wa_icmp_ge (tgt := 94) hX dX2_inverse_15 (by decide) (fun c_15 => absurd c_15 (nI_ge hlt (by decide))) (fun c_15 => ?_)
      subst em
      refine wa_aload_n hX dX2_inverse_18 rfl ?_
      refine wa_iload hX dX2_inverse_19 rfl ?_
      refine wa_iald hX hs rfl (by first | assumption | omega) (by decide) dX2_inverse_21 ?_
      rw [uR_n hne, (hv i hlt).1]
      refine wa_istore hX dX2_inverse_22 (by decide) ?_
      refine wa_iload hX dX2_inverse_24 rfl ?_
      refine wa_nP hX (tX6_isKey _ (nI (v i))) bX6_isKey mX2_53 (by decide) (by decide) rfl rfl (Nat.le_of_ble_eq_true rfl) dX2_inverse_26 (fun r_26 q_26 => ?_)
      subst q_26
      rw [inB_nI (by have := (hv i hlt).2; omega) (by decide)]
      refine wa_if_ne (tgt := 35) hX dX2_inverse_29 (by decide) (fun c_29 => ?_) (fun c_29 => ?_)
      · skip
        have hw : v i < 16 := by
          rcases Nat.lt_or_ge (v i) 16 with h | h
          · exact h
          · rw [decide_eq_false (by omega)] at c_29
            exact absurd rfl c_29
        have c0 := bt_mtI v hw i
        refine wa_iload_n hX dX2_inverse_35 rfl ?_
        refine wa_iload hX dX2_inverse_36 rfl ?_
        refine wa_ishr hX dX2_inverse_38 ?_
        refine wa_iconst (v := nI 1) hX dX2_inverse_39 (by decide) ?_
        refine wa_iand hX dX2_inverse_40 ?_
        refine wa_if_ne (tgt := 48) hX dX2_inverse_41 (by decide) (fun c_41 => ?_) (fun c_41 => ?_)
        · skip
          have c2 : anyB v i (v i) = true := by
            rw [← c0]
            cases h : bt (mtI v i) (v i) with
            | true => rfl
            | false => exact absurd ((bt_t0 (by omega) _).mpr h) c_41
          refine wa_iconst (v := nI 0) hX dX2_inverse_48 (by decide) ?_
          refine wa_istore hX dX2_inverse_49 (by decide) ?_
          refine wa_iload hX dX2_inverse_51 rfl ?_
          refine wa_if_ne (tgt := 61) hX dX2_inverse_53 (by decide) (fun c_53 => absurd rfl c_53) (fun c_53 => ?_)
          refine wa_iload_n hX dX2_inverse_56 rfl ?_
          refine wa_iconst (v := nI 2) hX dX2_inverse_57 (by decide) ?_
          refine wa_icmp_ne (tgt := 70) hX dX2_inverse_58 (by decide) (fun c_58 => ?_) (fun c_58 => ?_)
          · skip
            have c3 := ne_of_nI c_58
            refine wa_iload_n hX dX2_inverse_70 rfl ?_
            refine wa_iconst (v := nI 1) hX dX2_inverse_71 (by decide) ?_
            refine wa_icmp_eq (tgt := 81) hX dX2_inverse_72 (by decide) (fun c_72 => ?_) (fun c_72 => ?_)
            · skip
              have c4 := eq_of_nI c_72 (by omega) (by decide)
              refine wa_iload_n hX dX2_inverse_81 rfl ?_
              refine wa_iconst (v := nI 1) hX dX2_inverse_82 (by decide) ?_
              refine wa_iload hX dX2_inverse_83 rfl ?_
              refine wa_ishl hX dX2_inverse_85 ?_
              refine wa_ior hX dX2_inverse_86 ?_
              refine wa_istore_n hX dX2_inverse_87 (by decide) ?_
              refine wa_iinc hX dX2_inverse_88 rfl (inc1 _) (by decide) ?_
              refine wa_goto (tgt := 11) hX dX2_inverse_91 (by decide) ?_
              refine wx_sub (l' := [(0, _), (1, _), (2, _), (3, _), (4, _)]) ⟨rfl, rfl, rfl, rfl, rfl, trivial⟩ ?_
              rw [row_cg (n := 16) (inv_c (r := r0) c2 c3 c4)]
              exact ih (i + 1) _ (by omega) (by simp [mtI, hw, b1])
            · skip
              have c4 := ne_of_nI c_72
              refine wa_aload_n hX dX2_inverse_75 rfl ?_
              refine wa_iload hX dX2_inverse_76 rfl ?_
              refine wa_bipush (v := nI 16) hX dX2_inverse_78 (by decide) ?_
              refine wa_iast hX hs2 rfl hw (by decide) dX2_inverse_80 ?_
              refine wa_iload_n hX dX2_inverse_81 rfl ?_
              refine wa_iconst (v := nI 1) hX dX2_inverse_82 (by decide) ?_
              refine wa_iload hX dX2_inverse_83 rfl ?_
              refine wa_ishl hX dX2_inverse_85 ?_
              refine wa_ior hX dX2_inverse_86 ?_
              refine wa_istore_n hX dX2_inverse_87 (by decide) ?_
              refine wa_iinc hX dX2_inverse_88 rfl (inc1 _) (by decide) ?_
              refine wa_goto (tgt := 11) hX dX2_inverse_91 (by decide) ?_
              refine wx_sub (l' := [(0, _), (1, _), (2, _), (3, _), (4, _)]) ⟨rfl, rfl, rfl, rfl, rfl, trivial⟩ ?_
              rw [row_up hw (inv_b (r := r0) c2 c3 c4)]
              exact ih (i + 1) _ (by omega) (by simp [mtI, hw, b1])
          · skip
            have c3 := eq_of_nI c_58 (by omega) (by decide)
            refine wa_aload_n hX dX2_inverse_61 rfl ?_
            refine wa_iload hX dX2_inverse_62 rfl ?_
            refine wa_iload hX dX2_inverse_64 rfl ?_
            refine wa_iast hX hs2 rfl hw (by decide) dX2_inverse_66 ?_
            refine wa_goto (tgt := 81) hX dX2_inverse_67 (by decide) ?_
            refine wa_iload_n hX dX2_inverse_81 rfl ?_
            refine wa_iconst (v := nI 1) hX dX2_inverse_82 (by decide) ?_
            refine wa_iload hX dX2_inverse_83 rfl ?_
            refine wa_ishl hX dX2_inverse_85 ?_
            refine wa_ior hX dX2_inverse_86 ?_
            refine wa_istore_n hX dX2_inverse_87 (by decide) ?_
            refine wa_iinc hX dX2_inverse_88 rfl (inc1 _) (by decide) ?_
            refine wa_goto (tgt := 11) hX dX2_inverse_91 (by decide) ?_
            refine wx_sub (l' := [(0, _), (1, _), (2, _), (3, _), (4, _)]) ⟨rfl, rfl, rfl, rfl, rfl, trivial⟩ ?_
            rw [row_up hw (inv_a (r := r0) (Or.inr c3))]
            exact ih (i + 1) _ (by omega) (by simp [mtI, hw, b1])
        · skip
          have c2 : anyB v i (v i) = false := by rw [← c0]; exact (bt_t0 (by omega) _).mp c_41
          refine wa_iconst (v := nI 1) hX dX2_inverse_44 (by decide) ?_
          refine wa_goto (tgt := 49) hX dX2_inverse_45 (by decide) ?_
          refine wa_istore hX dX2_inverse_49 (by decide) ?_
          refine wa_iload hX dX2_inverse_51 rfl ?_
          refine wa_if_ne (tgt := 61) hX dX2_inverse_53 (by decide) (fun c_53 => ?_) (fun c_53 => absurd c_53 (by decide))
          refine wa_aload_n hX dX2_inverse_61 rfl ?_
          refine wa_iload hX dX2_inverse_62 rfl ?_
          refine wa_iload hX dX2_inverse_64 rfl ?_
          refine wa_iast hX hs2 rfl hw (by decide) dX2_inverse_66 ?_
          refine wa_goto (tgt := 81) hX dX2_inverse_67 (by decide) ?_
          refine wa_iload_n hX dX2_inverse_81 rfl ?_
          refine wa_iconst (v := nI 1) hX dX2_inverse_82 (by decide) ?_
          refine wa_iload hX dX2_inverse_83 rfl ?_
          refine wa_ishl hX dX2_inverse_85 ?_
          refine wa_ior hX dX2_inverse_86 ?_
          refine wa_istore_n hX dX2_inverse_87 (by decide) ?_
          refine wa_iinc hX dX2_inverse_88 rfl (inc1 _) (by decide) ?_
          refine wa_goto (tgt := 11) hX dX2_inverse_91 (by decide) ?_
          refine wx_sub (l' := [(0, _), (1, _), (2, _), (3, _), (4, _)]) ⟨rfl, rfl, rfl, rfl, rfl, trivial⟩ ?_
          rw [row_up hw (inv_a (r := r0) (Or.inl c2))]
          exact ih (i + 1) _ (by omega) (by simp [mtI, hw, b1])
      · skip
        have hw : ¬ v i < 16 := by
          intro h
          rw [decide_eq_true h] at c_29
          exact absurd c_29 (by decide)
        refine wa_goto (tgt := 88) hX dX2_inverse_32 (by decide) ?_
        refine wa_iinc hX dX2_inverse_88 rfl (inc1 _) (by decide) ?_
        refine wa_goto (tgt := 11) hX dX2_inverse_91 (by decide) ?_
        refine wx_sub (l' := [(0, _), (1, _), (2, _), (3, _), (4, _)]) ⟨rfl, rfl, rfl, rfl, rfl, trivial⟩ ?_
        rw [row_cg (n := 16) (inv_d (r := r0) hw)]
        exact ih (i + 1) _ (by omega) (by simp [mtI, hw, b1])
  refine wa_aload_n hX dX2_inverse_0 rfl ?_
  refine wa_bipush (v := nI 16) hX dX2_inverse_1 (by decide) ?_
  refine wa_sW hX (tJ7_fill_53178 I (x := nI 16) hs2 (by decide)) bJ7_fill_53178 mX2_47 (by decide) (by decide) rfl rfl (Nat.le_of_ble_eq_true rfl) dX2_inverse_3 (fun I_3 q_3 => ?_)
  subst q_3
  refine wa_iconst (v := nI 0) hX dX2_inverse_6 (by decide) ?_
  refine wa_istore_n hX dX2_inverse_7 (by decide) ?_
  refine wa_iconst (v := nI 0) hX dX2_inverse_8 (by decide) ?_
  refine wa_istore hX dX2_inverse_9 (by decide) ?_
  exact lp 16 0 _ (by omega) rfl
end
section
/-! Pile in plain values: height hg, which are on, entries en (17 none, 16 nowhere) -/
def topN (p : Nat → Bool) : Nat → Nat
  | 0 => 0
  | n + 1 => if p n = true then n + 1 else topN p n
theorem top_N (p : Nat → Bool) : ∀ n, top p n = nI (topN p n) + Int32.ofInt (-1)
  | 0 => show (-1 : Int32) = nI 0 + Int32.ofInt (-1) by decide
  | n + 1 => by
    unfold top topN
    split
    · exact (dec1 n).symm
    · exact top_N p n
theorem topN_le (p : Nat → Bool) : ∀ n, topN p n ≤ n
  | 0 => Nat.le_refl 0
  | n + 1 => by
    have := topN_le p n
    unfold topN
    split <;> omega
theorem topN_congr {p q : Nat → Bool} : ∀ {n : Nat}, (∀ k, k < n → p k = q k) → topN p n = topN q n
  | 0, _ => rfl
  | n + 1, h => by
    unfold topN
    rw [topN_congr (n := n) (fun k hk => h k (by omega)), h n (by omega)]
theorem top_guard (p : Nat → Bool) {g : Nat} : ∀ {n : Nat}, g ≤ n → top (fun l => decide (l < g) && p l) n = top p g
  | 0, h => by rw [show g = 0 by omega]; rfl
  | n + 1, h => by
    by_cases e : g = n + 1
    · subst e
      exact top_congr (fun k hk => by simp [hk])
    · rw [top_f (by simp [show ¬ n < g by omega])]
      exact top_guard p (by omega)
/-- the layer that tells of k, plus one; 0 for none -/
def telV (hg : Nat) (on : Nat → Bool) (en : Nat → Nat → Nat) (k : Nat) : Nat := topN (fun l => on l && !decide (en l k = 17)) hg
def valV (hg : Nat) (on : Nat → Bool) (en : Nat → Nat → Nat) (k : Nat) : Nat := if telV hg on en k = 0 then 16 else en (telV hg on en k - 1) k
def PV (I : IM) (a hg : Nat) (on : Nat → Bool) (en : Nat → Nat → Nat) : Prop := (hg ≤ 4 ∧ I a 3 = nI hg) ∧ (∀ l, l < 4 → I (a + 6) l = bI (on l)) ∧ ∀ l, l < 4 → ∀ k, k < 16 → I (a + 2 + l) k = nI (en l k) ∧ en l k ≤ 17
/-- the values are worked out -/
def PS (I : IM) (a hg : Nat) (on : Nat → Bool) (en : Nat → Nat → Nat) : Prop := PV I a hg on en ∧ ∀ k, k < 16 → I (a + 7) k = nI (valV hg on en k)
/-- nothing changes outside of the n cells from a on -/
def Fr (a n : Nat) (I I' : IM) : Prop := ∀ b, b < a ∨ a + n ≤ b → I' b = I b
theorem Fr.rf {a n : Nat} {I : IM} : Fr a n I I := fun _ _ => rfl
theorem Fr.tr {a n : Nat} {I I1 I2 : IM} (h1 : Fr a n I I1) (h2 : Fr a n I1 I2) : Fr a n I I2 := fun b hb => (h2 b hb).trans (h1 b hb)
theorem Fr.in {a n c m : Nat} {I I1 : IM} (h : Fr c m I I1) (h1 : a ≤ c) (h2 : c + m ≤ a + n) : Fr a n I I1 := fun b hb => h b (by omega)
theorem Fr.u2 {a n c k : Nat} {v : Int32} {I : IM} (h1 : a ≤ c) (h2 : c < a + n) : Fr a n I (u2 I c k v) := fun b hb => u2_n (by omega)
theorem Fr.uR {a n c : Nat} {f : Nat → Int32} {I : IM} (h1 : a ≤ c) (h2 : c < a + n) : Fr a n I (uR I c f) := fun b hb => uR_n (by omega)
theorem PV.keep {I I' : IM} {a hg : Nat} {on : Nat → Bool} {en : Nat → Nat → Nat} (h : PV I a hg on en) (hk : ∀ b, a ≤ b → b < a + 7 → I' b = I b) : PV I' a hg on en :=
  ⟨⟨h.1.1, by rw [hk a (by omega) (by omega)]; exact h.1.2⟩, fun l hl => by rw [hk (a + 6) (by omega) (by omega)]; exact h.2.1 l hl, fun l hl k hk2 => by rw [hk (a + 2 + l) (by omega) (by omega)]; exact h.2.2 l hl k hk2⟩
theorem PS.keep {I I' : IM} {a hg : Nat} {on : Nat → Bool} {en : Nat → Nat → Nat} (h : PS I a hg on en) (hk : ∀ b, a ≤ b → b < a + 8 → I' b = I b) : PS I' a hg on en :=
  ⟨h.1.keep (fun b h1 h2 => hk b h1 (by omega)), fun k h2 => by rw [hk (a + 7) (by omega) (by omega)]; exact h.2 k h2⟩
theorem telC_V {I : IM} {a hg : Nat} {on : Nat → Bool} {en : Nat → Nat → Nat} (h : PV I a hg on en) {k : Nat} (hk : k < 16) : telC I a k = nI (telV hg on en k) + Int32.ofInt (-1) := by
  unfold telV
  rw [← top_N, ← top_guard _ h.1.1]
  unfold telC
  apply top_congr
  intro l hl
  have h1 := h.2.1 l hl
  have h2 := h.2.2 l hl k hk
  have h3 := h.1.1
  have e2 : decide (nI l < nI hg) = decide (l < hg) := by
    by_cases q : l < hg
    · simp [q, nI_lt q (by omega)]
    · simp [q, nI_nlt (Nat.le_of_not_lt q) (by omega)]
  have e3 : decide (nI (en l k) = nI 17) = decide (en l k = 17) := by
    by_cases q : en l k = 17
    · simp [q]
    · simp [q, nI_ne q (by omega) (by decide)]
  simp only [tlc, lon, h.1.2, h1, h2.1, e2, e3]
  cases on l <;> simp [bI_0]
theorem telV_le (hg : Nat) (on : Nat → Bool) (en : Nat → Nat → Nat) (k : Nat) : telV hg on en k ≤ hg := topN_le _ _
theorem telV_on {hg : Nat} {on : Nat → Bool} {en : Nat → Nat → Nat} {k t : Nat} (h : telV hg on en k = t + 1) : on t = true ∧ en t k ≠ 17 := by
  have : ∀ n, topN (fun l => on l && !decide (en l k = 17)) n = t + 1 → on t = true ∧ en t k ≠ 17 := by
    intro n
    induction n with
    | zero => intro h; cases h
    | succ n ih =>
      intro h
      unfold topN at h
      split at h
      · rename_i hp
        have e : n = t := by omega
        subst e
        simpa using hp
      · exact ih h
  exact this hg h
theorem valV_le {hg : Nat} {on : Nat → Bool} {en : Nat → Nat → Nat} (h4 : hg ≤ 4) {k : Nat} (he : ∀ l, l < 4 → en l k ≤ 17) : valV hg on en k ≤ 16 := by
  unfold valV
  split
  · omega
  · rename_i h
    have h1 := telV_le hg on en k
    have h2 := (telV_on (t := telV hg on en k - 1) (show telV hg on en k = telV hg on en k - 1 + 1 by omega)).2
    have := he (telV hg on en k - 1) (by omega)
    omega
theorem PV.val {I : IM} {a hg : Nat} {on : Nat → Bool} {en : Nat → Nat → Nat} (h : PV I a hg on en) {k : Nat} (hk : k < 16) : valV hg on en k ≤ 16 := valV_le h.1.1 (fun l hl => (h.2.2 l hl k hk).2)
theorem PS.rv {I : IM} {a hg : Nat} {on : Nat → Bool} {en : Nat → Nat → Nat} (h : PS I a hg on en) : RV (I (a + 7)) (valV hg on en) := fun k hk => ⟨h.2 k hk, h.1.val hk⟩
def sumN (f : Nat → Nat) : Nat → Nat
  | 0 => 0
  | n + 1 => sumN f n + f n
theorem sumN_congr {f g : Nat → Nat} : ∀ {n : Nat}, (∀ k, k < n → f k = g k) → sumN f n = sumN g n
  | 0, _ => rfl
  | n + 1, h => by
    unfold sumN
    rw [sumN_congr (n := n) (fun k hk => h k (by omega)), h n (by omega)]
def shV (hg : Nat) (on : Nat → Bool) (en : Nat → Nat → Nat) (la : Nat) : Nat := cnt (fun k => on la && !decide (en la k = 17) && decide (la + 1 < telV hg on en k)) 16
def enV (en : Nat → Nat → Nat) (la : Nat) : Nat := cnt (fun k => !decide (en la k = 17)) 16
def swF {α : Type} (f : Nat → α) (i : Nat) : Nat → α := fun l => if l = i then f (i + 1) else if l = i + 1 then f i else f l
def upF {α : Type} (f : Nat → α) (i : Nat) (x : α) : Nat → α := fun l => if l = i then x else f l
/-- n steps upwards from la, downwards from la + n -/
def mvU {α : Type} (f : Nat → α) (la : Nat) : Nat → Nat → α
  | 0 => f
  | n + 1 => swF (mvU f la n) (la + n)
def mvD {α : Type} (f : Nat → α) (la : Nat) : Nat → Nat → α
  | 0 => f
  | n + 1 => swF (mvD f la n) (la - n - 1)
theorem ct_re {l : Launch} {D : va_G} {A : Nat → Prop} {y : MethodName} {cc : ByteArray} {maxL : Nat} {ty : FieldType} {d N : Nat} {Sh : SM} {I : IM} {J : JM} {av : List Value} {q q' : Int32 → Prop} (h : CtP l D A y cc maxL ty d N Sh I J av q) (hq : ∀ r, q r → q' r) : CtP l D A y cc maxL ty d N Sh I J av q' := CtI.post h (fun r I' J' x => ⟨hq r x.1, x.2⟩)
theorem e17 {e : Nat} (h : e ≤ 17) (c : Nat) (hc : c < 2 ^ 31) : decide (nI e = nI c) = decide (e = c) := by
  by_cases q : e = c
  · simp [q]
  · simp [q, nI_ne q (by omega) hc]
theorem vX0_entriesIn {l : Launch} {D : va_G} {A : Nat → Prop} {N : Nat} {Sh : SM} {J : JM} (I : IM) {a : Nat} (hP : PL Sh J a) {hg : Nat} {on : Nat → Bool} {en : Nat → Nat → Nat} (hV : PV I a hg on en) {la : Nat} (hla : la < 4) : CtP l D A yX0_entriesIn cX0_entriesIn 4 FieldType.int 0 N Sh I J [.ref a, .int (nI la)] (fun r => r = nI (enV en la)) :=
  ct_re (tX0_entriesIn I hP hla) (fun r h => h.trans (congrArg nI (cnt_congr (fun k hk => by rw [(hV.2.2 la hla k hk).1, e17 (hV.2.2 la hla k hk).2 17 (by decide)]))))
theorem vX0_nowhereIn {l : Launch} {D : va_G} {A : Nat → Prop} {N : Nat} {Sh : SM} {J : JM} (I : IM) {a : Nat} (hP : PL Sh J a) {hg : Nat} {on : Nat → Bool} {en : Nat → Nat → Nat} (hV : PV I a hg on en) {la : Nat} (hla : la < 4) : CtP l D A yX0_nowhereIn cX0_nowhereIn 4 FieldType.int 0 N Sh I J [.ref a, .int (nI la)] (fun r => r = nI (cnt (fun k => decide (en la k = 16)) 16)) :=
  ct_re (tX0_nowhereIn I hP hla) (fun r h => h.trans (congrArg nI (cnt_congr (fun k hk => by rw [(hV.2.2 la hla k hk).1, e17 (hV.2.2 la hla k hk).2 16 (by decide)]))))
theorem vX0_tellingLayer {l : Launch} {D : va_G} {A : Nat → Prop} {N : Nat} {Sh : SM} {J : JM} (I : IM) {a : Nat} (hP : PL Sh J a) {hg : Nat} {on : Nat → Bool} {en : Nat → Nat → Nat} (hV : PV I a hg on en) {k : Nat} (hk : k < 16) : CtP l D A yX0_tellingLayer cX0_tellingLayer 3 FieldType.int 0 N Sh I J [.ref a, .int (nI k)] (fun r => r = nI (telV hg on en k) + Int32.ofInt (-1)) :=
  ct_re (tX0_tellingLayer I hP hk) (fun r h => h.trans (telC_V hV hk))
theorem m1_le {t la : Nat} (ht : t < 2 ^ 30) (hl : la < 2 ^ 30) : nI t + Int32.ofInt (-1) ≤ nI la ↔ t ≤ la + 1 := by
  cases t with
  | zero =>
    have h1 : (nI 0 + Int32.ofInt (-1) : Int32).toInt = -1 := by decide
    have h2 : (nI la).toInt = la := nI_toInt (by omega)
    constructor
    · intro _; omega
    · intro _; rw [Int32.le_iff_toInt_le, h1, h2]; omega
  | succ t =>
    rw [dec1]
    constructor
    · intro h
      rcases Nat.lt_or_ge la t with q | q
      · exact absurd h (nI_ge q (by omega))
      · omega
    · intro h
      exact nI_le (by omega) (by omega)
theorem nI_m1 {t : Nat} (h : t < 2 ^ 30) : nI t + Int32.ofInt (-1) = -1 ↔ t = 0 := by
  cases t with
  | zero => decide
  | succ t => rw [dec1]; constructor
              · intro e
                have := congrArg Int32.toInt e
                rw [nI_toInt (by omega)] at this
                have h2 : (-1 : Int32).toInt = -1 := by decide
                omega
              · intro e; cases e
set_option maxHeartbeats 4000000 in
set_option maxRecDepth 100000 in
theorem tX0_layersOn {l : Launch} {D : va_G} {A : Nat → Prop} {N : Nat} {Sh : SM} {J : JM} (I : IM) {a : Nat} (hP : PL Sh J a) {hg : Nat} {on : Nat → Bool} {en : Nat → Nat → Nat} (hV : PV I a hg on en) : CtP l D A yX0_layersOn cX0_layersOn 3 FieldType.int 0 N Sh I J [.ref a] (fun r => r = nI (cnt on hg)) := by
  refine ct_I (l0 := [(0, .ref a)]) (by decide +kernel) (Nat.le_of_ble_eq_true rfl) rfl (fun _ _ _ _ => rfl) ?_
  intro X hX hret _ _ _
  have hX : XK X RX0 cX0_layersOn 3 0 := hX
  obtain ⟨h0, hj0, hj1, hj2, hr, hrow, hz, hv7⟩ := id hP
  have hg4 := hV.1.1
  have lp : ∀ (n i : Nat) (x : Int32), i + n = hg → (x = nI (cnt on i)) → WX X 0 0 N Sh I J 4 [(0, .ref a), (1, .int x), (2, .int (nI i))] [] := by
    intro n
    induction n with
    | zero =>
      intro i x hi ex
      obtain rfl : hg = i := by omega
      refine wa_iload_n hX dX0_layersOn_4 rfl ?_
      refine wa_aload_n hX dX0_layersOn_5 rfl ?_
      refine wa_getI hX fX0_24 rfl (by assumption) dX0_layersOn_6 ?_
      rw [hV.1.2]
      refine wa_icmp_ge (tgt := 35) hX dX0_layersOn_9 (by decide) (fun c_9 => ?_) (fun c_9 => absurd (Int32.le_refl _) c_9)
      refine wa_iload_n hX dX0_layersOn_35 rfl ?_
      exact hret _ _ _ _ _ ⟨ex, rfl, rfl⟩ dX0_layersOn_36
    | succ n ih =>
      intro i x hi ex
      have hlt : i < hg := by omega
      refine wa_iload_n hX dX0_layersOn_4 rfl ?_
      refine wa_aload_n hX dX0_layersOn_5 rfl ?_
      refine wa_getI hX fX0_24 rfl (by assumption) dX0_layersOn_6 ?_
      rw [hV.1.2]
      refine wa_icmp_ge (tgt := 35) hX dX0_layersOn_9 (by decide) (fun c_9 => absurd c_9 (nI_ge hlt (by omega))) (fun c_9 => ?_)
      refine wa_iload_n hX dX0_layersOn_12 rfl ?_
      refine wa_iconst (v := nI 4) hX dX0_layersOn_13 (by decide) ?_
      refine wa_icmp_ge (tgt := 35) hX dX0_layersOn_14 (by decide) (fun c_14 => absurd c_14 (nI_ge (show i < 4 by omega) (by decide))) (fun c_14 => ?_)
      refine wa_aload_n hX dX0_layersOn_17 rfl ?_
      refine wa_getR hX fX0_16 rfl (by assumption) (by assumption) dX0_layersOn_18 ?_
      refine wa_iload_n hX dX0_layersOn_21 rfl ?_
      refine wa_zald hX (by assumption) rfl (show i < 4 by omega) (by decide) dX0_layersOn_22 ?_
      rw [hV.2.1 i (by omega)]
      refine wa_if_eq (tgt := 29) hX dX0_layersOn_23 (by decide) (fun c_23 => ?_) (fun c_23 => ?_)
      · skip
        have c1 := bI_0.mp c_23
        refine wa_iinc hX dX0_layersOn_29 rfl (inc1 _) (by decide) ?_
        refine wa_goto (tgt := 4) hX dX0_layersOn_32 (by decide) ?_
        refine wx_sub (l' := [(0, _), (1, _), (2, _)]) ⟨rfl, rfl, rfl, trivial⟩ ?_
        exact ih (i + 1) _ (by omega) (by rw [ex]; exact cnt_if c1)
      · skip
        have c1 := bI_n0.mp c_23
        refine wa_iinc hX dX0_layersOn_26 rfl rfl (by decide) ?_
        refine wa_iinc hX dX0_layersOn_29 rfl (inc1 _) (by decide) ?_
        refine wa_goto (tgt := 4) hX dX0_layersOn_32 (by decide) ?_
        refine wx_sub (l' := [(0, _), (1, _), (2, _)]) ⟨rfl, rfl, rfl, trivial⟩ ?_
        exact ih (i + 1) _ (by omega) (by rw [ex]; exact cnt_it c1)
  refine wa_iconst (v := nI 0) hX dX0_layersOn_0 (by decide) ?_
  refine wa_istore_n hX dX0_layersOn_1 (by decide) ?_
  refine wa_iconst (v := nI 0) hX dX0_layersOn_2 (by decide) ?_
  refine wa_istore_n hX dX0_layersOn_3 (by decide) ?_
  exact lp hg 0 _ (by omega) rfl

set_option maxHeartbeats 4000000 in
set_option maxRecDepth 100000 in
theorem tX0_allEntries {l : Launch} {D : va_G} {A : Nat → Prop} {N : Nat} {Sh : SM} {J : JM} (I : IM) {a : Nat} (hP : PL Sh J a) {hg : Nat} {on : Nat → Bool} {en : Nat → Nat → Nat} (hV : PV I a hg on en) : CtP l D A yX0_allEntries cX0_allEntries 3 FieldType.int 1 N Sh I J [.ref a] (fun r => r = nI (sumN (enV en) hg)) := by
  refine ct_I (l0 := [(0, .ref a)]) (by decide +kernel) (Nat.le_of_ble_eq_true rfl) rfl (fun _ _ _ _ => rfl) ?_
  intro X hX hret _ _ _
  have hX : XK X RX0 cX0_allEntries 3 1 := hX
  obtain ⟨h0, hj0, hj1, hj2, hr, hrow, hz, hv7⟩ := id hP
  have hg4 := hV.1.1
  have lp : ∀ (n i : Nat) (x : Int32), i + n = hg → (x = nI (sumN (enV en) i)) → WX X 0 0 N Sh I J 4 [(0, .ref a), (1, .int x), (2, .int (nI i))] [] := by
    intro n
    induction n with
    | zero =>
      intro i x hi ex
      obtain rfl : hg = i := by omega
      refine wa_iload_n hX dX0_allEntries_4 rfl ?_
      refine wa_aload_n hX dX0_allEntries_5 rfl ?_
      refine wa_getI hX fX0_24 rfl (by assumption) dX0_allEntries_6 ?_
      rw [hV.1.2]
      refine wa_icmp_ge (tgt := 31) hX dX0_allEntries_9 (by decide) (fun c_9 => ?_) (fun c_9 => absurd (Int32.le_refl _) c_9)
      refine wa_iload_n hX dX0_allEntries_31 rfl ?_
      exact hret _ _ _ _ _ ⟨ex, rfl, rfl⟩ dX0_allEntries_32
    | succ n ih =>
      intro i x hi ex
      have hlt : i < hg := by omega
      refine wa_iload_n hX dX0_allEntries_4 rfl ?_
      refine wa_aload_n hX dX0_allEntries_5 rfl ?_
      refine wa_getI hX fX0_24 rfl (by assumption) dX0_allEntries_6 ?_
      rw [hV.1.2]
      refine wa_icmp_ge (tgt := 31) hX dX0_allEntries_9 (by decide) (fun c_9 => absurd c_9 (nI_ge hlt (by omega))) (fun c_9 => ?_)
      refine wa_iload_n hX dX0_allEntries_12 rfl ?_
      refine wa_iconst (v := nI 4) hX dX0_allEntries_13 (by decide) ?_
      refine wa_icmp_ge (tgt := 31) hX dX0_allEntries_14 (by decide) (fun c_14 => absurd c_14 (nI_ge (show i < 4 by omega) (by decide))) (fun c_14 => ?_)
      refine wa_iload_n hX dX0_allEntries_17 rfl ?_
      refine wa_aload_n hX dX0_allEntries_18 rfl ?_
      refine wa_iload_n hX dX0_allEntries_19 rfl ?_
      refine wa_vP hX (vX0_entriesIn I hP hV (show i < 4 by omega)) bX0_entriesIn mX0_48 (by decide) (by decide) (ci := 0) ⟨by decide, rfl⟩ (by assumption) rfl rfl (Nat.le_of_ble_eq_true rfl) dX0_allEntries_20 (fun r_20 q_20 => ?_)
      refine wa_iadd hX dX0_allEntries_23 ?_
      refine wa_istore_n hX dX0_allEntries_24 (by decide) ?_
      refine wa_iinc hX dX0_allEntries_25 rfl (inc1 _) (by decide) ?_
      refine wa_goto (tgt := 4) hX dX0_allEntries_28 (by decide) ?_
      refine wx_sub (l' := [(0, _), (1, _), (2, _)]) ⟨rfl, rfl, rfl, trivial⟩ ?_
      exact ih (i + 1) _ (by omega) (by rw [ex, q_20, nI_add]; rfl)
  refine wa_iconst (v := nI 0) hX dX0_allEntries_0 (by decide) ?_
  refine wa_istore_n hX dX0_allEntries_1 (by decide) ?_
  refine wa_iconst (v := nI 0) hX dX0_allEntries_2 (by decide) ?_
  refine wa_istore_n hX dX0_allEntries_3 (by decide) ?_
  exact lp hg 0 _ (by omega) rfl

set_option maxHeartbeats 4000000 in
set_option maxRecDepth 100000 in
theorem tX0_shadowedIn {l : Launch} {D : va_G} {A : Nat → Prop} {N : Nat} {Sh : SM} {J : JM} (I : IM) {a : Nat} (hP : PL Sh J a) {hg : Nat} {on : Nat → Bool} {en : Nat → Nat → Nat} (hV : PV I a hg on en) {la : Nat} (hla : la < 4) : CtP l D A yX0_shadowedIn cX0_shadowedIn 4 FieldType.int 1 N Sh I J [.ref a, .int (nI la)] (fun r => r = nI (shV hg on en la)) := by
  refine ct_I (l0 := [(0, .ref a), (1, .int (nI la))]) (by decide +kernel) (Nat.le_of_ble_eq_true rfl) rfl (fun _ _ _ _ => rfl) ?_
  intro X hX hret _ _ _
  have hX : XK X RX0 cX0_shadowedIn 4 1 := hX
  obtain ⟨h0, hj0, hj1, hj2, hr, hrow, hz, hv7⟩ := id hP
  have hg4 := hV.1.1
  have lp : ∀ (n i : Nat) (x : Int32), i + n = 16 → (x = nI (cnt (fun k => on la && !decide (en la k = 17) && decide (la + 1 < telV hg on en k)) i)) → WX X 0 0 N Sh I J 4 [(0, .ref a), (1, .int (nI la)), (2, .int x), (3, .int (nI i))] [] := by
    intro n
    induction n with
    | zero =>
      intro i x hi ex
      obtain rfl : 16 = i := by omega
      refine wa_iload_n hX dX0_shadowedIn_4 rfl ?_
      refine wa_bipush (v := nI 16) hX dX0_shadowedIn_5 (by decide) ?_
      refine wa_icmp_ge (tgt := 50) hX dX0_shadowedIn_7 (by decide) (fun c_7 => ?_) (fun c_7 => absurd (Int32.le_refl _) c_7)
      refine wa_iload_n hX dX0_shadowedIn_50 rfl ?_
      exact hret _ _ _ _ _ ⟨ex, rfl, rfl⟩ dX0_shadowedIn_51
    | succ n ih =>
      intro i x hi ex
      have hlt : i < 16 := by omega
      refine wa_iload_n hX dX0_shadowedIn_4 rfl ?_
      refine wa_bipush (v := nI 16) hX dX0_shadowedIn_5 (by decide) ?_
      refine wa_icmp_ge (tgt := 50) hX dX0_shadowedIn_7 (by decide) (fun c_7 => absurd c_7 (nI_ge hlt (by decide))) (fun c_7 => ?_)
      refine wa_aload_n hX dX0_shadowedIn_10 rfl ?_
      refine wa_getR hX fX0_16 rfl (by assumption) (by assumption) dX0_shadowedIn_11 ?_
      refine wa_iload_n hX dX0_shadowedIn_14 rfl ?_
      refine wa_zald hX (by assumption) rfl hla (by decide) dX0_shadowedIn_15 ?_
      rw [hV.2.1 la hla]
      refine wa_if_eq (tgt := 44) hX dX0_shadowedIn_16 (by decide) (fun c_16 => ?_) (fun c_16 => ?_)
      · skip
        have c1 := bI_0.mp c_16
        refine wa_iinc hX dX0_shadowedIn_44 rfl (inc1 _) (by decide) ?_
        refine wa_goto (tgt := 4) hX dX0_shadowedIn_47 (by decide) ?_
        refine wx_sub (l' := [(0, _), (1, _), (2, _), (3, _)]) ⟨rfl, rfl, rfl, rfl, trivial⟩ ?_
        exact ih (i + 1) _ (by omega) (by rw [ex]; exact cnt_if (by simp [c1]))
      · skip
        have c1 := bI_n0.mp c_16
        refine wa_aload_n hX dX0_shadowedIn_19 rfl ?_
        refine wa_getR hX fX0_11 rfl (by assumption) (by assumption) dX0_shadowedIn_20 ?_
        refine wa_iload_n hX dX0_shadowedIn_23 rfl ?_
        refine wa_aald hX (by assumption) rfl hla (by decide) (hrow la hla).1 dX0_shadowedIn_24 ?_
        refine wa_iload_n hX dX0_shadowedIn_25 rfl ?_
        refine wa_iald hX (hrow la hla).2 rfl (by first | assumption | omega) (by decide) dX0_shadowedIn_26 ?_
        rw [(hV.2.2 la hla i hlt).1]
        refine wa_bipush (v := nI 17) hX dX0_shadowedIn_27 (by decide) ?_
        refine wa_icmp_eq (tgt := 44) hX dX0_shadowedIn_29 (by decide) (fun c_29 => ?_) (fun c_29 => ?_)
        · skip
          have c2 := eq_of_nI c_29 (by have := (hV.2.2 la hla i hlt).2; omega) (by decide)
          refine wa_iinc hX dX0_shadowedIn_44 rfl (inc1 _) (by decide) ?_
          refine wa_goto (tgt := 4) hX dX0_shadowedIn_47 (by decide) ?_
          refine wx_sub (l' := [(0, _), (1, _), (2, _), (3, _)]) ⟨rfl, rfl, rfl, rfl, trivial⟩ ?_
          exact ih (i + 1) _ (by omega) (by rw [ex]; exact cnt_if (by simp [c2]))
        · skip
          have c2 := ne_of_nI c_29
          refine wa_aload_n hX dX0_shadowedIn_32 rfl ?_
          refine wa_iload_n hX dX0_shadowedIn_33 rfl ?_
          refine wa_vP hX (vX0_tellingLayer I hP hV hlt) bX0_tellingLayer mX0_40 (by decide) (by decide) (ci := 0) ⟨by decide, rfl⟩ (by assumption) rfl rfl (Nat.le_of_ble_eq_true rfl) dX0_shadowedIn_34 (fun r_34 q_34 => ?_)
          have ht := telV_le hg on en i
          subst q_34
          refine wa_iload_n hX dX0_shadowedIn_37 rfl ?_
          refine wa_icmp_le (tgt := 44) hX dX0_shadowedIn_38 (by decide) (fun c_38 => ?_) (fun c_38 => ?_)
          · skip
            have c3 : ¬ la + 1 < telV hg on en i := by have := (m1_le (by omega) (by omega)).mp c_38; omega
            refine wa_iinc hX dX0_shadowedIn_44 rfl (inc1 _) (by decide) ?_
            refine wa_goto (tgt := 4) hX dX0_shadowedIn_47 (by decide) ?_
            refine wx_sub (l' := [(0, _), (1, _), (2, _), (3, _)]) ⟨rfl, rfl, rfl, rfl, trivial⟩ ?_
            exact ih (i + 1) _ (by omega) (by rw [ex]; exact cnt_if (by simp [c3]))
          · skip
            have c3 : la + 1 < telV hg on en i := by
              rcases Nat.lt_or_ge (la + 1) (telV hg on en i) with q | q
              · exact q
              · exact absurd ((m1_le (by omega) (by omega)).mpr q) c_38
            refine wa_iinc hX dX0_shadowedIn_41 rfl rfl (by decide) ?_
            refine wa_iinc hX dX0_shadowedIn_44 rfl (inc1 _) (by decide) ?_
            refine wa_goto (tgt := 4) hX dX0_shadowedIn_47 (by decide) ?_
            refine wx_sub (l' := [(0, _), (1, _), (2, _), (3, _)]) ⟨rfl, rfl, rfl, rfl, trivial⟩ ?_
            exact ih (i + 1) _ (by omega) (by rw [ex]; exact cnt_it (by simp [c1, c2, c3]))
  refine wa_iconst (v := nI 0) hX dX0_shadowedIn_0 (by decide) ?_
  refine wa_istore_n hX dX0_shadowedIn_1 (by decide) ?_
  refine wa_iconst (v := nI 0) hX dX0_shadowedIn_2 (by decide) ?_
  refine wa_istore_n hX dX0_shadowedIn_3 (by decide) ?_
  exact lp 16 0 _ (by omega) rfl

set_option maxHeartbeats 4000000 in
set_option maxRecDepth 100000 in
theorem tX0_shadowed {l : Launch} {D : va_G} {A : Nat → Prop} {N : Nat} {Sh : SM} {J : JM} (I : IM) {a : Nat} (hP : PL Sh J a) {hg : Nat} {on : Nat → Bool} {en : Nat → Nat → Nat} (hV : PV I a hg on en) : CtP l D A yX0_shadowed cX0_shadowed 3 FieldType.int 2 N Sh I J [.ref a] (fun r => r = nI (sumN (shV hg on en) hg)) := by
  refine ct_I (l0 := [(0, .ref a)]) (by decide +kernel) (Nat.le_of_ble_eq_true rfl) rfl (fun _ _ _ _ => rfl) ?_
  intro X hX hret _ _ _
  have hX : XK X RX0 cX0_shadowed 3 2 := hX
  obtain ⟨h0, hj0, hj1, hj2, hr, hrow, hz, hv7⟩ := id hP
  have hg4 := hV.1.1
  have lp : ∀ (n i : Nat) (x : Int32), i + n = hg → (x = nI (sumN (shV hg on en) i)) → WX X 0 0 N Sh I J 4 [(0, .ref a), (1, .int x), (2, .int (nI i))] [] := by
    intro n
    induction n with
    | zero =>
      intro i x hi ex
      obtain rfl : hg = i := by omega
      refine wa_iload_n hX dX0_shadowed_4 rfl ?_
      refine wa_aload_n hX dX0_shadowed_5 rfl ?_
      refine wa_getI hX fX0_24 rfl (by assumption) dX0_shadowed_6 ?_
      rw [hV.1.2]
      refine wa_icmp_ge (tgt := 31) hX dX0_shadowed_9 (by decide) (fun c_9 => ?_) (fun c_9 => absurd (Int32.le_refl _) c_9)
      refine wa_iload_n hX dX0_shadowed_31 rfl ?_
      exact hret _ _ _ _ _ ⟨ex, rfl, rfl⟩ dX0_shadowed_32
    | succ n ih =>
      intro i x hi ex
      have hlt : i < hg := by omega
      refine wa_iload_n hX dX0_shadowed_4 rfl ?_
      refine wa_aload_n hX dX0_shadowed_5 rfl ?_
      refine wa_getI hX fX0_24 rfl (by assumption) dX0_shadowed_6 ?_
      rw [hV.1.2]
      refine wa_icmp_ge (tgt := 31) hX dX0_shadowed_9 (by decide) (fun c_9 => absurd c_9 (nI_ge hlt (by omega))) (fun c_9 => ?_)
      refine wa_iload_n hX dX0_shadowed_12 rfl ?_
      refine wa_iconst (v := nI 4) hX dX0_shadowed_13 (by decide) ?_
      refine wa_icmp_ge (tgt := 31) hX dX0_shadowed_14 (by decide) (fun c_14 => absurd c_14 (nI_ge (show i < 4 by omega) (by decide))) (fun c_14 => ?_)
      refine wa_iload_n hX dX0_shadowed_17 rfl ?_
      refine wa_aload_n hX dX0_shadowed_18 rfl ?_
      refine wa_iload_n hX dX0_shadowed_19 rfl ?_
      refine wa_vP hX (tX0_shadowedIn I hP hV (show i < 4 by omega)) bX0_shadowedIn mX0_58 (by decide) (by decide) (ci := 0) ⟨by decide, rfl⟩ (by assumption) rfl rfl (Nat.le_of_ble_eq_true rfl) dX0_shadowed_20 (fun r_20 q_20 => ?_)
      refine wa_iadd hX dX0_shadowed_23 ?_
      refine wa_istore_n hX dX0_shadowed_24 (by decide) ?_
      refine wa_iinc hX dX0_shadowed_25 rfl (inc1 _) (by decide) ?_
      refine wa_goto (tgt := 4) hX dX0_shadowed_28 (by decide) ?_
      refine wx_sub (l' := [(0, _), (1, _), (2, _)]) ⟨rfl, rfl, rfl, trivial⟩ ?_
      exact ih (i + 1) _ (by omega) (by rw [ex, q_20, nI_add]; rfl)
  refine wa_iconst (v := nI 0) hX dX0_shadowed_0 (by decide) ?_
  refine wa_istore_n hX dX0_shadowed_1 (by decide) ?_
  refine wa_iconst (v := nI 0) hX dX0_shadowed_2 (by decide) ?_
  refine wa_istore_n hX dX0_shadowed_3 (by decide) ?_
  exact lp hg 0 _ (by omega) rfl

def flatV (hg : Nat) (on : Nat → Bool) (en : Nat → Nat → Nat) : Bool := decide (hg = 0) || (decide (hg = 1) && on 0 && decide (cnt (fun k => decide (en 0 k = 16)) 16 = 0))
set_option maxHeartbeats 4000000 in
set_option maxRecDepth 100000 in
theorem tX0_isFlat {l : Launch} {D : va_G} {A : Nat → Prop} {N : Nat} {Sh : SM} {J : JM} (I : IM) {a : Nat} (hP : PL Sh J a) {hg : Nat} {on : Nat → Bool} {en : Nat → Nat → Nat} (hV : PV I a hg on en) : CtP l D A yX0_isFlat cX0_isFlat 1 FieldType.boolean 1 N Sh I J [.ref a] (fun r => r = bI (flatV hg on en)) := by
  refine ct_I (l0 := [(0, .ref a)]) (by decide +kernel) (Nat.le_of_ble_eq_true rfl) rfl (fun _ _ _ h => by obtain ⟨rfl, _⟩ := h; exact nar_B _) ?_
  intro X hX hret _ _ _
  have hX : XK X RX0 cX0_isFlat 1 1 := hX
  obtain ⟨h0, hj0, hj1, hj2, hr, hrow, hz, hv7⟩ := id hP
  have hg4 := hV.1.1
  refine wa_aload_n hX dX0_isFlat_0 rfl ?_
  refine wa_getI hX fX0_24 rfl (by assumption) dX0_isFlat_1 ?_
  rw [hV.1.2]
  refine wa_if_eq (tgt := 32) hX dX0_isFlat_4 (by decide) (fun c_4 => ?_) (fun c_4 => ?_)
  · skip
    have c1 : hg = 0 := eq_of_nI c_4 (by omega) (by decide)
    refine wa_iconst (v := nI 1) hX dX0_isFlat_32 (by decide) ?_
    refine wa_goto (tgt := 37) hX dX0_isFlat_33 (by decide) ?_
    exact hret _ _ _ _ _ ⟨(by simp [flatV, c1, bI]), rfl, rfl⟩ dX0_isFlat_37
  · skip
    have c1 : hg ≠ 0 := fun e => c_4 (by rw [e]; rfl)
    refine wa_aload_n hX dX0_isFlat_7 rfl ?_
    refine wa_getI hX fX0_24 rfl (by assumption) dX0_isFlat_8 ?_
    rw [hV.1.2]
    refine wa_iconst (v := nI 1) hX dX0_isFlat_11 (by decide) ?_
    refine wa_icmp_ne (tgt := 36) hX dX0_isFlat_12 (by decide) (fun c_12 => ?_) (fun c_12 => ?_)
    · skip
      have c2 := ne_of_nI c_12
      refine wa_iconst (v := nI 0) hX dX0_isFlat_36 (by decide) ?_
      exact hret _ _ _ _ _ ⟨(by simp [flatV, c1, c2, bI]), rfl, rfl⟩ dX0_isFlat_37
    · skip
      have c2 := eq_of_nI c_12 (by omega) (by decide)
      refine wa_aload_n hX dX0_isFlat_15 rfl ?_
      refine wa_getR hX fX0_16 rfl (by assumption) (by assumption) dX0_isFlat_16 ?_
      refine wa_iconst (v := nI 0) hX dX0_isFlat_19 (by decide) ?_
      refine wa_zald hX (by assumption) rfl (show 0 < 4 by decide) (by decide) dX0_isFlat_20 ?_
      rw [hV.2.1 0 (by decide)]
      refine wa_if_eq (tgt := 36) hX dX0_isFlat_21 (by decide) (fun c_21 => ?_) (fun c_21 => ?_)
      · skip
        have c3 := bI_0.mp c_21
        refine wa_iconst (v := nI 0) hX dX0_isFlat_36 (by decide) ?_
        exact hret _ _ _ _ _ ⟨(by simp [flatV, c1, c3, bI]), rfl, rfl⟩ dX0_isFlat_37
      · skip
        have c3 := bI_n0.mp c_21
        refine wa_aload_n hX dX0_isFlat_24 rfl ?_
        refine wa_iconst (v := nI 0) hX dX0_isFlat_25 (by decide) ?_
        refine wa_vP hX (vX0_nowhereIn I hP hV (show 0 < 4 by decide)) bX0_nowhereIn mX0_55 (by decide) (by decide) (ci := 0) ⟨by decide, rfl⟩ (by assumption) rfl rfl (Nat.le_of_ble_eq_true rfl) dX0_isFlat_26 (fun r_26 q_26 => ?_)
        subst q_26
        refine wa_if_ne (tgt := 36) hX dX0_isFlat_29 (by decide) (fun c_29 => ?_) (fun c_29 => ?_)
        · skip
          have c4 : cnt (fun k => decide (en 0 k = 16)) 16 ≠ 0 := fun e => c_29 (by rw [e]; rfl)
          refine wa_iconst (v := nI 0) hX dX0_isFlat_36 (by decide) ?_
          exact hret _ _ _ _ _ ⟨(by simp [flatV, c1, c4, bI]), rfl, rfl⟩ dX0_isFlat_37
        · skip
          have c4 : cnt (fun k => decide (en 0 k = 16)) 16 = 0 := eq_of_nI c_29 (by have := cnt_le (fun k => decide (en 0 k = 16)) 16; omega) (by decide)
          refine wa_iconst (v := nI 1) hX dX0_isFlat_32 (by decide) ?_
          refine wa_goto (tgt := 37) hX dX0_isFlat_33 (by decide) ?_
          exact hret _ _ _ _ _ ⟨(by simp [flatV, c2, c3, c4, bI]), rfl, rfl⟩ dX0_isFlat_37
end
section
/-! Pile: the methods that change it -/
theorem nar_b (b : Bool) : vp_nar .boolean (bI b) = bI b := by cases b <;> rfl
theorem nar_1 : vp_nar .boolean (nI 1) = bI true := rfl
theorem Fr.n {c : Nat} {I I' : IM} {a n : Nat} (h : Fr a n I I') (hc : c < a ∨ a + n ≤ c) : I' c = I c := h c hc
theorem swap_row {I : IM} {r1 r2 i : Nat} {f1 f2 : Nat → Int32} (hne : r1 ≠ r2) : u2 (u2 (uR (uR I r1 (rowN i f2 f1)) r2 (rowN i f1 f2)) r1 i (f2 i)) r2 i (f1 i) = uR (uR I r1 (rowN (i + 1) f2 f1)) r2 (rowN (i + 1) f1 f2) := by
  funext b
  by_cases e2 : b = r2
  · subst e2
    rw [u2_a, u2_n (Ne.symm hne), uR_s, uR_s, rowN_s]
  · rw [u2_n e2, uR_n e2]
    by_cases e1 : b = r1
    · subst e1
      rw [u2_a, uR_n e2, uR_s, uR_s, rowN_s]
    · rw [u2_n e1, uR_n e2, uR_n e1, uR_n e1]
theorem settled {I : IM} {a hg : Nat} {on : Nat → Bool} {en : Nat → Nat → Nat} (hV : PV I a hg on en) : PS (uR I (a + 7) (rowN 16 (fun k => nI (valV hg on en k)) (I (a + 7)))) a hg on en :=
  ⟨hV.keep (fun b h1 h2 => uR_n (by omega)), fun k hk => by rw [uR_s, rowN_in hk]⟩
set_option maxHeartbeats 4000000 in
set_option maxRecDepth 100000 in
theorem tX0_settle {l : Launch} {D : va_G} {A : Nat → Prop} {N : Nat} {Sh : SM} {J : JM} (I : IM) {a : Nat} (hP : PL Sh J a) {hg : Nat} {on : Nat → Bool} {en : Nat → Nat → Nat} (hV : PV I a hg on en) : CtM l D A yX0_settle cX0_settle 5 FieldType.int 1 N Sh I J [.ref a] (fun r I' => r = nI (cnt (fun k => !decide (I (a + 7) k = nI (valV hg on en k))) 16) ∧ I' = (uR I (a + 7) (rowN 16 (fun k => nI (valV hg on en k)) (I (a + 7))))) := by
  refine ct_I (l0 := [(0, .ref a)]) (by decide +kernel) (Nat.le_of_ble_eq_true rfl) rfl (fun _ _ _ _ => rfl) ?_
  intro X hX hret _ _ _
  have hX : XK X RX0 cX0_settle 5 1 := hX
  obtain ⟨h0, hj0, hj1, hj2, hr, hrow, hz, hv7⟩ := id hP
  have hg4 := hV.1.1
  have lp : ∀ (n i : Nat) (x : Int32), i + n = 16 → (x = nI (cnt (fun k => !decide (I (a + 7) k = nI (valV hg on en k))) i)) → WX X 0 0 N Sh (uR I (a + 7) (rowN i (fun k => nI (valV hg on en k)) (I (a + 7)))) J 4 [(0, .ref a), (1, .int x), (2, .int (nI i))] [] := by
    intro n
    induction n with
    | zero =>
      intro i x hi ex
      obtain rfl : 16 = i := by omega
      refine wa_iload_n hX dX0_settle_4 rfl ?_
      refine wa_bipush (v := nI 16) hX dX0_settle_5 (by decide) ?_
      refine wa_icmp_ge (tgt := 64) hX dX0_settle_7 (by decide) (fun c_7 => ?_) (fun c_7 => absurd (Int32.le_refl _) c_7)
      refine wa_iload_n hX dX0_settle_64 rfl ?_
      exact hret _ _ _ _ _ ⟨⟨ex, rfl⟩, rfl⟩ dX0_settle_65
    | succ n ih =>
      intro i x hi ex
      have hlt : i < 16 := by omega
      refine wa_iload_n hX dX0_settle_4 rfl ?_
      refine wa_bipush (v := nI 16) hX dX0_settle_5 (by decide) ?_
      refine wa_icmp_ge (tgt := 64) hX dX0_settle_7 (by decide) (fun c_7 => absurd c_7 (nI_ge hlt (by decide))) (fun c_7 => ?_)
      refine wa_aload_n hX dX0_settle_10 rfl ?_
      refine wa_iload_n hX dX0_settle_11 rfl ?_
      refine wa_vP hX (vX0_tellingLayer _ hP (hV.keep (fun b h1 h2 => uR_n (by omega))) hlt) bX0_tellingLayer mX0_40 (by decide) (by decide) (ci := 0) ⟨by decide, rfl⟩ (by assumption) rfl rfl (Nat.le_of_ble_eq_true rfl) dX0_settle_12 (fun r_12 q_12 => ?_)
      have ht := telV_le hg on en i
      subst q_12
      refine wa_istore_n hX dX0_settle_15 (by decide) ?_
      refine wa_iload_n hX dX0_settle_16 rfl ?_
      refine wa_iconst (v := -1) hX dX0_settle_17 (by decide) ?_
      refine wa_icmp_ne (tgt := 26) hX dX0_settle_18 (by decide) (fun c_18 => ?_) (fun c_18 => ?_)
      · skip
        have c1 : telV hg on en i ≠ 0 := fun e => c_18 ((nI_m1 (by omega)).mpr e)
        have e3 : nI (telV hg on en i) + Int32.ofInt (-1) = nI (telV hg on en i - 1) := by
          obtain ⟨t, e⟩ : ∃ t, telV hg on en i = t + 1 := ⟨telV hg on en i - 1, by omega⟩
          rw [e, dec1, Nat.add_sub_cancel]
        refine wa_aload_n hX dX0_settle_26 rfl ?_
        refine wa_getR hX fX0_11 rfl (by assumption) (by assumption) dX0_settle_27 ?_
        refine wa_iload_n hX dX0_settle_30 rfl ?_
        refine wa_aald hX (by assumption) e3 (show telV hg on en i - 1 < 4 by omega) (by decide) (hrow _ (by omega)).1 dX0_settle_31 ?_
        refine wa_iload_n hX dX0_settle_32 rfl ?_
        refine wa_iald hX (hrow _ (by omega)).2 rfl (by first | assumption | omega) (by decide) dX0_settle_33 ?_
        rw [uR_n (by omega), (hV.2.2 _ (by omega) i hlt).1, show en (telV hg on en i - 1) i = valV hg on en i by simp [valV, c1]]
        refine wa_istore hX dX0_settle_34 (by decide) ?_
        refine wa_aload_n hX dX0_settle_36 rfl ?_
        refine wa_getR hX fX0_20 rfl (by assumption) (by assumption) dX0_settle_37 ?_
        refine wa_iload_n hX dX0_settle_40 rfl ?_
        refine wa_iald hX (by assumption) rfl (by first | assumption | omega) (by decide) dX0_settle_41 ?_
        rw [rd_s]
        refine wa_iload hX dX0_settle_42 rfl ?_
        refine wa_icmp_eq (tgt := 50) hX dX0_settle_44 (by decide) (fun c_44 => ?_) (fun c_44 => ?_)
        · skip
          refine wa_aload_n hX dX0_settle_50 rfl ?_
          refine wa_getR hX fX0_20 rfl (by assumption) (by assumption) dX0_settle_51 ?_
          refine wa_iload_n hX dX0_settle_54 rfl ?_
          refine wa_iload hX dX0_settle_55 rfl ?_
          refine wa_iast hX (by assumption) rfl (by first | assumption | omega) (by decide) dX0_settle_57 ?_
          refine wa_iinc hX dX0_settle_58 rfl (inc1 _) (by decide) ?_
          refine wa_goto (tgt := 4) hX dX0_settle_61 (by decide) ?_
          refine wx_sub (l' := [(0, _), (1, _), (2, _)]) ⟨rfl, rfl, rfl, trivial⟩ ?_
          rw [u2_row rfl]
          exact ih (i + 1) _ (by omega) (by rw [ex]; exact cnt_if (by simp [c_44]))
        · skip
          refine wa_iinc hX dX0_settle_47 rfl rfl (by decide) ?_
          refine wa_aload_n hX dX0_settle_50 rfl ?_
          refine wa_getR hX fX0_20 rfl (by assumption) (by assumption) dX0_settle_51 ?_
          refine wa_iload_n hX dX0_settle_54 rfl ?_
          refine wa_iload hX dX0_settle_55 rfl ?_
          refine wa_iast hX (by assumption) rfl (by first | assumption | omega) (by decide) dX0_settle_57 ?_
          refine wa_iinc hX dX0_settle_58 rfl (inc1 _) (by decide) ?_
          refine wa_goto (tgt := 4) hX dX0_settle_61 (by decide) ?_
          refine wx_sub (l' := [(0, _), (1, _), (2, _)]) ⟨rfl, rfl, rfl, trivial⟩ ?_
          rw [u2_row rfl]
          exact ih (i + 1) _ (by omega) (by rw [ex]; exact cnt_it (by simp [c_44]))
      · skip
        have c1 : telV hg on en i = 0 := (nI_m1 (by omega)).mp c_18
        refine wa_bipush (v := nI 16) hX dX0_settle_21 (by decide) ?_
        refine wa_goto (tgt := 34) hX dX0_settle_23 (by decide) ?_
        rw [show nI 16 = nI (valV hg on en i) by simp [valV, c1]]
        refine wa_istore hX dX0_settle_34 (by decide) ?_
        refine wa_aload_n hX dX0_settle_36 rfl ?_
        refine wa_getR hX fX0_20 rfl (by assumption) (by assumption) dX0_settle_37 ?_
        refine wa_iload_n hX dX0_settle_40 rfl ?_
        refine wa_iald hX (by assumption) rfl (by first | assumption | omega) (by decide) dX0_settle_41 ?_
        rw [rd_s]
        refine wa_iload hX dX0_settle_42 rfl ?_
        refine wa_icmp_eq (tgt := 50) hX dX0_settle_44 (by decide) (fun c_44 => ?_) (fun c_44 => ?_)
        · skip
          refine wa_aload_n hX dX0_settle_50 rfl ?_
          refine wa_getR hX fX0_20 rfl (by assumption) (by assumption) dX0_settle_51 ?_
          refine wa_iload_n hX dX0_settle_54 rfl ?_
          refine wa_iload hX dX0_settle_55 rfl ?_
          refine wa_iast hX (by assumption) rfl (by first | assumption | omega) (by decide) dX0_settle_57 ?_
          refine wa_iinc hX dX0_settle_58 rfl (inc1 _) (by decide) ?_
          refine wa_goto (tgt := 4) hX dX0_settle_61 (by decide) ?_
          refine wx_sub (l' := [(0, _), (1, _), (2, _)]) ⟨rfl, rfl, rfl, trivial⟩ ?_
          rw [u2_row rfl]
          exact ih (i + 1) _ (by omega) (by rw [ex]; exact cnt_if (by simp [c_44]))
        · skip
          refine wa_iinc hX dX0_settle_47 rfl rfl (by decide) ?_
          refine wa_aload_n hX dX0_settle_50 rfl ?_
          refine wa_getR hX fX0_20 rfl (by assumption) (by assumption) dX0_settle_51 ?_
          refine wa_iload_n hX dX0_settle_54 rfl ?_
          refine wa_iload hX dX0_settle_55 rfl ?_
          refine wa_iast hX (by assumption) rfl (by first | assumption | omega) (by decide) dX0_settle_57 ?_
          refine wa_iinc hX dX0_settle_58 rfl (inc1 _) (by decide) ?_
          refine wa_goto (tgt := 4) hX dX0_settle_61 (by decide) ?_
          refine wx_sub (l' := [(0, _), (1, _), (2, _)]) ⟨rfl, rfl, rfl, trivial⟩ ?_
          rw [u2_row rfl]
          exact ih (i + 1) _ (by omega) (by rw [ex]; exact cnt_it (by simp [c_44]))
  refine wa_iconst (v := nI 0) hX dX0_settle_0 (by decide) ?_
  refine wa_istore_n hX dX0_settle_1 (by decide) ?_
  refine wa_iconst (v := nI 0) hX dX0_settle_2 (by decide) ?_
  refine wa_istore_n hX dX0_settle_3 (by decide) ?_
  rw [row_0 (I := I) (a := a + 7) (g := fun k => nI (valV hg on en k))]
  exact lp 16 0 _ (by omega) rfl

set_option maxHeartbeats 4000000 in
set_option maxRecDepth 100000 in
theorem tX0_removeTop {l : Launch} {D : va_G} {A : Nat → Prop} {N : Nat} {Sh : SM} {J : JM} (I : IM) {a : Nat} (hP : PL Sh J a) {hg : Nat} {on : Nat → Bool} {en : Nat → Nat → Nat} (hV : PV I a (hg + 1) on en) : CtM l D A yX0_removeTop cX0_removeTop 1 FieldType.int 2 N Sh I J [.ref a] (fun r I' => r = nI (enV en hg) ∧ PS I' a hg on en ∧ Fr a 8 I I') := by
  refine ct_I (l0 := [(0, .ref a)]) (by decide +kernel) (Nat.le_of_ble_eq_true rfl) rfl (fun _ _ _ _ => rfl) ?_
  intro X hX hret _ _ _
  have hX : XK X RX0 cX0_removeTop 1 2 := hX
  obtain ⟨h0, hj0, hj1, hj2, hr, hrow, hz, hv7⟩ := id hP
  have hg4 := hV.1.1
  refine wa_aload_n hX dX0_removeTop_0 rfl ?_
  refine wa_getI hX fX0_24 rfl (by assumption) dX0_removeTop_1 ?_
  rw [hV.1.2]
  refine wa_if_gt (tgt := 9) hX dX0_removeTop_4 (by decide) (fun c_4 => ?_) (fun c_4 => absurd (nI_lt (show 0 < hg + 1 by omega) (by omega)) c_4)
  refine wa_aload_n hX dX0_removeTop_9 rfl ?_
  refine wa_dup hX dX0_removeTop_10 rfl ?_
  refine wa_getI hX fX0_24 rfl (by assumption) dX0_removeTop_11 ?_
  rw [hV.1.2]
  refine wa_iconst (v := nI 1) hX dX0_removeTop_14 (by decide) ?_
  refine wa_isub hX dX0_removeTop_15 ?_
  rw [show nI (hg + 1) - nI 1 = nI hg from nI_pred hg]
  refine wa_putI hX fX0_24 rfl rfl ⟨rfl, rfl⟩ (by assumption) dX0_removeTop_16 ?_
  have hV1 : PV (u2 I a 3 (nI hg)) a hg on en := ⟨⟨by omega, u2_s⟩, fun l hl => by rw [u2_n (by omega)]; exact hV.2.1 l hl, fun l hl k hk => by rw [u2_n (by omega)]; exact hV.2.2 l hl k hk⟩
  have hs1 := settled hV1
  refine wa_aload_n hX dX0_removeTop_19 rfl ?_
  refine wa_vM hX (tX0_settle _ hP hV1) bX0_settle mX0_44 (by decide) (by decide) (ci := 0) ⟨by decide, rfl⟩ (by assumption) rfl rfl (Nat.le_of_ble_eq_true rfl) dX0_removeTop_20 (fun r_20 I_20 q_20 => ?_)
  obtain ⟨-, hI⟩ := q_20
  rw [← hI] at hs1
  refine wa_pop hX dX0_removeTop_23 rfl ?_
  refine wa_aload_n hX dX0_removeTop_24 rfl ?_
  refine wa_aload_n hX dX0_removeTop_25 rfl ?_
  refine wa_getI hX fX0_24 rfl (by assumption) dX0_removeTop_26 ?_
  rw [hs1.1.1.2]
  refine wa_vP hX (vX0_entriesIn _ hP hs1.1 (show hg < 4 by omega)) bX0_entriesIn mX0_48 (by decide) (by decide) (ci := 0) ⟨by decide, rfl⟩ (by assumption) rfl rfl (Nat.le_of_ble_eq_true rfl) dX0_removeTop_29 (fun r_29 q_29 => ?_)
  exact hret _ _ _ _ _ ⟨⟨q_29, hs1, by rw [hI]; exact Fr.tr (Fr.u2 (Nat.le_refl _) (by omega)) (Fr.uR (by omega) (by omega))⟩, rfl⟩ dX0_removeTop_32

set_option maxHeartbeats 4000000 in
set_option maxRecDepth 100000 in
theorem tX0_addLayer {l : Launch} {D : va_G} {A : Nat → Prop} {N : Nat} {Sh : SM} {J : JM} (I : IM) {a : Nat} (hP : PL Sh J a) {hg : Nat} {on : Nat → Bool} {en : Nat → Nat → Nat} (hV : PV I a hg on en) (hh : hg < 4) {b : Nat} {w : Nat → Nat} (hs : shI Sh b 16) (hb : b < a ∨ a + 7 ≤ b) (hw : ∀ k, k < 16 → I b k = nI (w k) ∧ w k ≤ 17) : CtW l D A yX0_addLayer cX0_addLayer 2 2 N Sh I J [.ref a, .ref b] (fun I' => PS I' a (hg + 1) (upF on hg true) (upF en hg w) ∧ Fr a 8 I I') := by
  refine ct_V (l0 := [(0, .ref a), (1, .ref b)]) (by decide +kernel) (Nat.le_of_ble_eq_true rfl) rfl ?_
  intro X hX hret _ _ _
  have hX : XK X RX0 cX0_addLayer 2 2 := hX
  obtain ⟨h0, hj0, hj1, hj2, hr, hrow, hz, hv7⟩ := id hP
  have hg4 := hV.1.1
  refine wa_aload_n hX dX0_addLayer_0 rfl ?_
  refine wa_getI hX fX0_24 rfl (by assumption) dX0_addLayer_1 ?_
  refine wa_iconst (v := nI 4) hX dX0_addLayer_4 (by decide) ?_
  rw [hV.1.2]
  refine wa_icmp_lt (tgt := 9) hX dX0_addLayer_5 (by decide) (fun c_5 => ?_) (fun c_5 => absurd (nI_lt hh (by decide)) c_5)
  refine wa_aload_n hX dX0_addLayer_9 rfl ?_
  refine wa_aload_n hX dX0_addLayer_10 rfl ?_
  refine wa_getR hX fX0_11 rfl (by assumption) (by assumption) dX0_addLayer_11 ?_
  refine wa_aload_n hX dX0_addLayer_14 rfl ?_
  refine wa_getI hX fX0_24 rfl (by assumption) dX0_addLayer_15 ?_
  rw [hV.1.2]
  refine wa_aald hX (by assumption) rfl hh (by decide) (hrow hg hh).1 dX0_addLayer_18 ?_
  refine wa_sW hX (tX2_copy I hs (hrow hg hh).2) bX2_copy mX0_34 (by decide) (by decide) rfl rfl (Nat.le_of_ble_eq_true rfl) dX0_addLayer_19 (fun I_19 q_19 => ?_)
  subst q_19
  refine wa_aload_n hX dX0_addLayer_22 rfl ?_
  refine wa_getR hX fX0_16 rfl (by assumption) (by assumption) dX0_addLayer_23 ?_
  refine wa_aload_n hX dX0_addLayer_26 rfl ?_
  refine wa_getI hX fX0_24 rfl (by assumption) dX0_addLayer_27 ?_
  rw [uR_n (by omega), hV.1.2]
  refine wa_iconst (v := nI 1) hX dX0_addLayer_30 (by decide) ?_
  refine wa_zast hX (by assumption) rfl hh (by decide) dX0_addLayer_31 ?_
  refine wa_aload_n hX dX0_addLayer_32 rfl ?_
  refine wa_dup hX dX0_addLayer_33 rfl ?_
  refine wa_getI hX fX0_24 rfl (by assumption) dX0_addLayer_34 ?_
  rw [u2_n (by omega), uR_n (by omega), hV.1.2]
  refine wa_iconst (v := nI 1) hX dX0_addLayer_37 (by decide) ?_
  refine wa_iadd hX dX0_addLayer_38 ?_
  rw [show nI hg + nI 1 = nI (hg + 1) from nI_add hg 1]
  refine wa_putI hX fX0_24 rfl rfl ⟨rfl, rfl⟩ (by assumption) dX0_addLayer_39 ?_
  have hV1 : PV (u2 (u2 (uR I (a + 2 + hg) (I b)) (a + 6) hg (vp_nar .boolean (nI 1))) a 3 (nI (hg + 1))) a (hg + 1) (upF on hg true) (upF en hg w) := by
    refine ⟨⟨by omega, u2_s⟩, fun l hl => ?_, fun l hl k hk => ?_⟩
    · rw [u2_n (by omega)]
      by_cases e : l = hg
      · subst e; rw [u2_s]; simp [upF, nar_1]
      · rw [u2_k e, uR_n (by omega), hV.2.1 l hl]; simp [upF, e]
    · rw [u2_n (by omega), u2_n (by omega)]
      by_cases e : l = hg
      · subst e; rw [uR_s]; simp only [upF, ↓reduceIte]; exact hw k hk
      · rw [uR_n (by omega)]; simp only [upF, if_neg e]; exact hV.2.2 l hl k hk
  have hs1 := settled hV1
  refine wa_aload_n hX dX0_addLayer_42 rfl ?_
  refine wa_vM hX (tX0_settle _ hP hV1) bX0_settle mX0_44 (by decide) (by decide) (ci := 0) ⟨by decide, rfl⟩ (by assumption) rfl rfl (Nat.le_of_ble_eq_true rfl) dX0_addLayer_43 (fun r_43 I_43 q_43 => ?_)
  obtain ⟨-, hI⟩ := q_43
  rw [← hI] at hs1
  refine wa_pop hX dX0_addLayer_46 rfl ?_
  exact hret _ _ _ _ ⟨⟨hs1, by rw [hI]; exact Fr.tr (Fr.tr (Fr.tr (Fr.uR (by omega) (by omega)) (Fr.u2 (by omega) (by omega))) (Fr.u2 (Nat.le_refl _) (by omega))) (Fr.uR (by omega) (by omega))⟩, rfl⟩ dX0_addLayer_47

theorem rd_1 {I : IM} {r1 r2 i j : Nat} {f g : Nat → Int32} (hne : r1 ≠ r2) : uR (uR I r1 (rowN i g f)) r2 (rowN j f g) r1 i = f i := by rw [uR_n hne, uR_s, rowN_out (Nat.le_refl i)]
theorem rd_2 {I : IM} {r1 r2 i : Nat} {f g h : Nat → Int32} {v : Int32} {i1 : Nat} (hne : r1 ≠ r2) : u2 (uR (uR I r1 h) r2 (rowN i f g)) r1 i1 v r2 i = g i := by rw [u2_n (Ne.symm hne), uR_s, rowN_out (Nat.le_refl i)]
theorem rd_3 {I : IM} {r2 i : Nat} {f g : Nat → Int32} : uR I r2 (rowN i f g) r2 i = g i := by rw [uR_s, rowN_out (Nat.le_refl i)]
set_option maxHeartbeats 4000000 in
set_option maxRecDepth 100000 in
theorem tX0_swapWithNext {l : Launch} {D : va_G} {A : Nat → Prop} {N : Nat} {Sh : SM} {J : JM} (I : IM) {a : Nat} (hP : PL Sh J a) {hg : Nat} {on : Nat → Bool} {en : Nat → Nat → Nat} (hV : PV I a hg on en) {la : Nat} (hla : la + 1 < 4) : CtW l D A yX0_swapWithNext cX0_swapWithNext 4 0 N Sh I J [.ref a, .int (nI la)] (fun I' => PV I' a hg (swF on la) (swF en la) ∧ Fr a 7 I I') := by
  refine ct_V (l0 := [(0, .ref a), (1, .int (nI la))]) (by decide +kernel) (Nat.le_of_ble_eq_true rfl) rfl ?_
  intro X hX hret _ _ _
  have hX : XK X RX0 cX0_swapWithNext 4 0 := hX
  obtain ⟨h0, hj0, hj1, hj2, hr, hrow, hz, hv7⟩ := id hP
  have hg4 := hV.1.1
  have lp : ∀ (n i : Nat), i + n = 16 → WX X 0 0 N Sh (uR (uR I (a + 2 + la) (rowN i (I (a + 2 + (la + 1))) (I (a + 2 + la)))) (a + 2 + (la + 1)) (rowN i (I (a + 2 + la)) (I (a + 2 + (la + 1))))) J 14 [(0, .ref a), (1, .int (nI la)), (2, .int (nI i))] [] := by
    intro n
    induction n with
    | zero =>
      intro i  hi
      obtain rfl : 16 = i := by omega
      refine wa_iload_n hX dX0_swapWithNext_14 rfl ?_
      refine wa_bipush (v := nI 16) hX dX0_swapWithNext_15 (by decide) ?_
      refine wa_icmp_ge (tgt := 64) hX dX0_swapWithNext_17 (by decide) (fun c_17 => ?_) (fun c_17 => absurd (Int32.le_refl _) c_17)
      refine wa_aload_n hX dX0_swapWithNext_64 rfl ?_
      refine wa_getR hX fX0_16 rfl (by assumption) (by assumption) dX0_swapWithNext_65 ?_
      refine wa_iload_n hX dX0_swapWithNext_68 rfl ?_
      refine wa_zald hX (by assumption) rfl (show la < 4 by omega) (by decide) dX0_swapWithNext_69 ?_
      rw [uR_n (by omega), uR_n (by omega), hV.2.1 la (by omega)]
      refine wa_istore_n hX dX0_swapWithNext_70 (by decide) ?_
      refine wa_aload_n hX dX0_swapWithNext_71 rfl ?_
      refine wa_getR hX fX0_16 rfl (by assumption) (by assumption) dX0_swapWithNext_72 ?_
      refine wa_iload_n hX dX0_swapWithNext_75 rfl ?_
      refine wa_aload_n hX dX0_swapWithNext_76 rfl ?_
      refine wa_getR hX fX0_16 rfl (by assumption) (by assumption) dX0_swapWithNext_77 ?_
      refine wa_iload_n hX dX0_swapWithNext_80 rfl ?_
      refine wa_iconst (v := nI 1) hX dX0_swapWithNext_81 (by decide) ?_
      refine wa_iadd hX dX0_swapWithNext_82 ?_
      refine wa_zald hX (by assumption) (nI_add la 1) hla (by decide) dX0_swapWithNext_83 ?_
      rw [uR_n (by omega), uR_n (by omega), hV.2.1 (la + 1) hla]
      refine wa_zast hX (by assumption) rfl (show la < 4 by omega) (by decide) dX0_swapWithNext_84 ?_
      refine wa_aload_n hX dX0_swapWithNext_85 rfl ?_
      refine wa_getR hX fX0_16 rfl (by assumption) (by assumption) dX0_swapWithNext_86 ?_
      refine wa_iload_n hX dX0_swapWithNext_89 rfl ?_
      refine wa_iconst (v := nI 1) hX dX0_swapWithNext_90 (by decide) ?_
      refine wa_iadd hX dX0_swapWithNext_91 ?_
      refine wa_iload_n hX dX0_swapWithNext_92 rfl ?_
      refine wa_zast hX (by assumption) (nI_add la 1) hla (by decide) dX0_swapWithNext_93 ?_
      rw [nar_b, nar_b]
      refine hret _ _ _ _ ⟨⟨⟨⟨hV.1.1, ?_⟩, fun l hl => ?_, fun l hl k hk => ?_⟩, ?_⟩, rfl⟩ dX0_swapWithNext_94
      · rw [u2_n (by omega), u2_n (by omega), uR_n (by omega), uR_n (by omega)]; exact hV.1.2
      · by_cases e1 : l = la + 1
        · subst e1; rw [u2_s]; simp [swF]
        · rw [u2_k e1]
          by_cases e2 : l = la
          · subst e2; rw [u2_s]; simp [swF]
          · rw [u2_k e2, uR_n (by omega), uR_n (by omega), hV.2.1 l hl]; simp [swF, e1, e2]
      · rw [u2_n (by omega), u2_n (by omega)]
        by_cases e1 : l = la + 1
        · subst e1; rw [uR_s, rowN_in hk]; simp only [swF, Nat.succ_ne_self, ↓reduceIte]; exact hV.2.2 la (by omega) k hk
        · rw [uR_n (by omega)]
          by_cases e2 : l = la
          · subst e2; rw [uR_s, rowN_in hk]; simp only [swF, ↓reduceIte]; exact hV.2.2 (l + 1) hla k hk
          · rw [uR_n (by omega)]; simp only [swF, if_neg e1, if_neg e2]; exact hV.2.2 l hl k hk
      · exact Fr.tr (Fr.tr (Fr.uR (by omega) (by omega)) (Fr.uR (by omega) (by omega))) (Fr.tr (Fr.u2 (by omega) (by omega)) (Fr.u2 (by omega) (by omega)))
    | succ n ih =>
      intro i  hi
      have hlt : i < 16 := by omega
      refine wa_iload_n hX dX0_swapWithNext_14 rfl ?_
      refine wa_bipush (v := nI 16) hX dX0_swapWithNext_15 (by decide) ?_
      refine wa_icmp_ge (tgt := 64) hX dX0_swapWithNext_17 (by decide) (fun c_17 => absurd c_17 (nI_ge hlt (by decide))) (fun c_17 => ?_)
      refine wa_aload_n hX dX0_swapWithNext_20 rfl ?_
      refine wa_getR hX fX0_11 rfl (by assumption) (by assumption) dX0_swapWithNext_21 ?_
      refine wa_iload_n hX dX0_swapWithNext_24 rfl ?_
      refine wa_aald hX (by assumption) rfl (show la < 4 by omega) (by decide) (hrow la (by omega)).1 dX0_swapWithNext_25 ?_
      refine wa_iload_n hX dX0_swapWithNext_26 rfl ?_
      refine wa_iald hX (hrow la (by omega)).2 rfl (by first | assumption | omega) (by decide) dX0_swapWithNext_27 ?_
      rw [rd_1 (by omega)]
      refine wa_istore_n hX dX0_swapWithNext_28 (by decide) ?_
      refine wa_aload_n hX dX0_swapWithNext_29 rfl ?_
      refine wa_getR hX fX0_11 rfl (by assumption) (by assumption) dX0_swapWithNext_30 ?_
      refine wa_iload_n hX dX0_swapWithNext_33 rfl ?_
      refine wa_aald hX (by assumption) rfl (show la < 4 by omega) (by decide) (hrow la (by omega)).1 dX0_swapWithNext_34 ?_
      refine wa_iload_n hX dX0_swapWithNext_35 rfl ?_
      refine wa_aload_n hX dX0_swapWithNext_36 rfl ?_
      refine wa_getR hX fX0_11 rfl (by assumption) (by assumption) dX0_swapWithNext_37 ?_
      refine wa_iload_n hX dX0_swapWithNext_40 rfl ?_
      refine wa_iconst (v := nI 1) hX dX0_swapWithNext_41 (by decide) ?_
      refine wa_iadd hX dX0_swapWithNext_42 ?_
      refine wa_aald hX (by assumption) (nI_add la 1) hla (by decide) (hrow (la + 1) hla).1 dX0_swapWithNext_43 ?_
      refine wa_iload_n hX dX0_swapWithNext_44 rfl ?_
      refine wa_iald hX (hrow (la + 1) hla).2 rfl (by first | assumption | omega) (by decide) dX0_swapWithNext_45 ?_
      rw [rd_3]
      refine wa_iast hX (hrow la (by omega)).2 rfl (by first | assumption | omega) (by decide) dX0_swapWithNext_46 ?_
      refine wa_aload_n hX dX0_swapWithNext_47 rfl ?_
      refine wa_getR hX fX0_11 rfl (by assumption) (by assumption) dX0_swapWithNext_48 ?_
      refine wa_iload_n hX dX0_swapWithNext_51 rfl ?_
      refine wa_iconst (v := nI 1) hX dX0_swapWithNext_52 (by decide) ?_
      refine wa_iadd hX dX0_swapWithNext_53 ?_
      refine wa_aald hX (by assumption) (nI_add la 1) hla (by decide) (hrow (la + 1) hla).1 dX0_swapWithNext_54 ?_
      refine wa_iload_n hX dX0_swapWithNext_55 rfl ?_
      refine wa_iload_n hX dX0_swapWithNext_56 rfl ?_
      refine wa_iast hX (hrow (la + 1) hla).2 rfl (by first | assumption | omega) (by decide) dX0_swapWithNext_57 ?_
      refine wa_iinc hX dX0_swapWithNext_58 rfl (inc1 _) (by decide) ?_
      refine wa_goto (tgt := 14) hX dX0_swapWithNext_61 (by decide) ?_
      refine wx_sub (l' := [(0, _), (1, _), (2, _)]) ⟨rfl, rfl, rfl, trivial⟩ ?_
      rw [swap_row (by omega)]
      exact ih (i + 1) (by omega)
  refine wa_iload_n hX dX0_swapWithNext_0 rfl ?_
  refine wa_if_lt (tgt := 11) hX dX0_swapWithNext_1 (by decide) (fun c_1 => absurd c_1 (nI_pos (by omega))) (fun c_1 => ?_)
  refine wa_iload_n hX dX0_swapWithNext_4 rfl ?_
  refine wa_iconst (v := nI 1) hX dX0_swapWithNext_5 (by decide) ?_
  refine wa_iadd hX dX0_swapWithNext_6 ?_
  refine wa_iconst (v := nI 4) hX dX0_swapWithNext_7 (by decide) ?_
  refine wa_icmp_lt (tgt := 12) hX dX0_swapWithNext_8 (by decide) (fun c_8 => ?_) (fun c_8 => absurd (show nI la + nI 1 < nI 4 by rw [nI_add]; exact nI_lt hla (by decide)) c_8)
  refine wa_iconst (v := nI 0) hX dX0_swapWithNext_12 (by decide) ?_
  refine wa_istore_n hX dX0_swapWithNext_13 (by decide) ?_
  have e0 : I = (uR (uR I (a + 2 + la) (rowN 0 (I (a + 2 + (la + 1))) (I (a + 2 + la)))) (a + 2 + (la + 1)) (rowN 0 (I (a + 2 + la)) (I (a + 2 + (la + 1))))) := by rw [rowN_0, rowN_0, uR_self, uR_self]
  rw [e0]
  exact lp 16 0 (by omega)
end
section
/-! Pile: moveLayer, becomeOneLayer, copyFrom -/
def mvF {α : Type} (f : Nat → α) (la pl : Nat) : Nat → α := if la ≤ pl then mvU f la (pl - la) else mvD f la (la - pl)
theorem mvF_u {α : Type} {f : Nat → α} {la pl : Nat} (h : la ≤ pl) : mvF f la pl = mvU f la (pl - la) := if_pos h
theorem mvF_d {α : Type} {f : Nat → α} {la pl : Nat} (h : pl ≤ la) : mvF f la pl = mvD f la (la - pl) := by
  by_cases e : la ≤ pl
  · rw [mvF_u e, show pl - la = 0 by omega, show la - pl = 0 by omega]; rfl
  · exact if_neg e
theorem nI_nle2 {a b : Nat} (h : a < b) (hb : b < 2 ^ 31) : ¬ nI b ≤ nI a := nI_ge h hb
set_option maxHeartbeats 4000000 in
set_option maxRecDepth 100000 in
theorem tX0_moveLayer {l : Launch} {D : va_G} {A : Nat → Prop} {N : Nat} {Sh : SM} {J : JM} (I : IM) {a : Nat} (hP : PL Sh J a) {hg : Nat} {on : Nat → Bool} {en : Nat → Nat → Nat} (hV : PV I a hg on en) {la pl : Nat} (hla : la < 4) (hpl : pl < 4) : CtW l D A yX0_moveLayer cX0_moveLayer 4 1 N Sh I J [.ref a, .int (nI la), .int (nI pl)] (fun I' => PV I' a hg (mvF on la pl) (mvF en la pl) ∧ Fr a 7 I I') := by
  refine ct_V (l0 := [(0, .ref a), (1, .int (nI la)), (2, .int (nI pl))]) (by decide +kernel) (Nat.le_of_ble_eq_true rfl) rfl ?_
  intro X hX hret _ _ _
  have hX : XK X RX0 cX0_moveLayer 4 1 := hX
  obtain ⟨h0, hj0, hj1, hj2, hr, hrow, hz, hv7⟩ := id hP
  have hg4 := hV.1.1
  rcases Nat.lt_or_ge la pl with hlt | hge
  · have lpu : ∀ (n k : Nat), la + k + n = pl → ∀ (I1 : IM), PV I1 a hg (mvU on la k) (mvU en la k) → Fr a 7 I I1 → WX X 0 0 N Sh I1 J 2 [(0, .ref a), (1, .int (nI la)), (2, .int (nI pl)), (3, .int (nI (la + k)))] [] := by
      intro n
      induction n with
      | zero =>
        intro k hk I1 h1 h2
        refine wa_iload_n hX dX0_moveLayer_2 rfl ?_
        refine wa_iload_n hX dX0_moveLayer_3 rfl ?_
        refine wa_icmp_ge (tgt := 18) hX dX0_moveLayer_4 (by decide) (fun c_4 => ?_) (fun c_4 => absurd (by rw [show la + k = pl by omega]; exact Int32.le_refl _) c_4)
        refine wa_iload_n hX dX0_moveLayer_18 rfl ?_
        refine wa_istore_n hX dX0_moveLayer_19 (by decide) ?_
        refine wa_iload_n hX dX0_moveLayer_20 rfl ?_
        refine wa_iload_n hX dX0_moveLayer_21 rfl ?_
        refine wa_icmp_le (tgt := 38) hX dX0_moveLayer_22 (by decide) (fun c_22 => ?_) (fun c_22 => absurd (nI_le (by omega) (by omega)) c_22)
        exact hret _ _ _ _ ⟨by rw [mvF_u (Nat.le_of_lt hlt), mvF_u (Nat.le_of_lt hlt), show pl - la = k by omega]; exact ⟨h1, h2⟩, rfl⟩ dX0_moveLayer_38
      | succ n ih =>
        intro k hk I1 h1 h2
        refine wa_iload_n hX dX0_moveLayer_2 rfl ?_
        refine wa_iload_n hX dX0_moveLayer_3 rfl ?_
        refine wa_icmp_ge (tgt := 18) hX dX0_moveLayer_4 (by decide) (fun c_4 => absurd c_4 (nI_ge (show la + k < pl by omega) (by omega))) (fun c_4 => ?_)
        refine wa_aload_n hX dX0_moveLayer_7 rfl ?_
        refine wa_iload_n hX dX0_moveLayer_8 rfl ?_
        refine wa_vW hX (tX0_swapWithNext _ hP h1 (la := la + k) (by omega)) bX0_swapWithNext mX0_51 (by decide) (by decide) (ci := 0) ⟨by decide, rfl⟩ (by assumption) rfl rfl (Nat.le_of_ble_eq_true rfl) dX0_moveLayer_9 (fun I_9 q_9 => ?_)
        refine wa_iinc hX dX0_moveLayer_12 rfl (inc1 _) (by decide) ?_
        refine wa_goto (tgt := 2) hX dX0_moveLayer_15 (by decide) ?_
        refine wx_sub (l' := [(0, _), (1, _), (2, _), (3, _)]) ⟨rfl, rfl, rfl, rfl, trivial⟩ ?_
        exact ih (k + 1) (by omega) _ q_9.1 (h2.tr q_9.2)
    refine wa_iload_n hX dX0_moveLayer_0 rfl ?_
    refine wa_istore_n hX dX0_moveLayer_1 (by decide) ?_
    refine wx_sub (l' := [(0, _), (1, _), (2, _), (3, _)]) ⟨rfl, rfl, rfl, rfl, trivial⟩ ?_
    exact lpu (pl - la) 0 (by omega) _ hV Fr.rf
  · have lpd : ∀ (n t : Nat), pl + n + t = la → ∀ (I1 : IM), PV I1 a hg (mvD on la t) (mvD en la t) → Fr a 7 I I1 → WX X 0 0 N Sh I1 J 20 [(0, .ref a), (1, .int (nI la)), (2, .int (nI pl)), (3, .int (nI (la - t)))] [] := by
      intro n
      induction n with
      | zero =>
        intro t ht I1 h1 h2
        refine wa_iload_n hX dX0_moveLayer_20 rfl ?_
        refine wa_iload_n hX dX0_moveLayer_21 rfl ?_
        refine wa_icmp_le (tgt := 38) hX dX0_moveLayer_22 (by decide) (fun c_22 => ?_) (fun c_22 => absurd (by rw [show la - t = pl by omega]; exact Int32.le_refl _) c_22)
        exact hret _ _ _ _ ⟨by rw [mvF_d hge, mvF_d hge, show la - pl = t by omega]; exact ⟨h1, h2⟩, rfl⟩ dX0_moveLayer_38
      | succ n ih =>
        intro t ht I1 h1 h2
        refine wa_iload_n hX dX0_moveLayer_20 rfl ?_
        refine wa_iload_n hX dX0_moveLayer_21 rfl ?_
        refine wa_icmp_le (tgt := 38) hX dX0_moveLayer_22 (by decide) (fun c_22 => absurd c_22 (nI_nle2 (show pl < la - t by omega) (by omega))) (fun c_22 => ?_)
        refine wa_aload_n hX dX0_moveLayer_25 rfl ?_
        refine wa_iload_n hX dX0_moveLayer_26 rfl ?_
        refine wa_iconst (v := nI 1) hX dX0_moveLayer_27 (by decide) ?_
        refine wa_isub hX dX0_moveLayer_28 ?_
        have e5 : nI (la - t) - nI 1 = nI (la - t - 1) := pk_sub (show 1 ≤ la - t by omega)
        rw [e5]
        refine wa_vW hX (tX0_swapWithNext _ hP h1 (la := la - t - 1) (by omega)) bX0_swapWithNext mX0_51 (by decide) (by decide) (ci := 0) ⟨by decide, rfl⟩ (by assumption) rfl rfl (Nat.le_of_ble_eq_true rfl) dX0_moveLayer_29 (fun I_29 q_29 => ?_)
        refine wa_iinc hX dX0_moveLayer_32 rfl (show nI (la - t) + Int32.ofInt (-1) = nI (la - (t + 1)) by rw [show la - t = la - (t + 1) + 1 by omega]; exact dec1 _) (by decide) ?_
        refine wa_goto (tgt := 20) hX dX0_moveLayer_35 (by decide) ?_
        refine wx_sub (l' := [(0, _), (1, _), (2, _), (3, _)]) ⟨rfl, rfl, rfl, rfl, trivial⟩ ?_
        exact ih (t + 1) (by omega) _ q_29.1 (h2.tr q_29.2)
    refine wa_iload_n hX dX0_moveLayer_0 rfl ?_
    refine wa_istore_n hX dX0_moveLayer_1 (by decide) ?_
    refine wa_iload_n hX dX0_moveLayer_2 rfl ?_
    refine wa_iload_n hX dX0_moveLayer_3 rfl ?_
    refine wa_icmp_ge (tgt := 18) hX dX0_moveLayer_4 (by decide) (fun c_4 => ?_) (fun c_4 => absurd (nI_le hge (by omega)) c_4)
    refine wa_iload_n hX dX0_moveLayer_18 rfl ?_
    refine wa_istore_n hX dX0_moveLayer_19 (by decide) ?_
    refine wx_sub (l' := [(0, _), (1, _), (2, _), (3, _)]) ⟨rfl, rfl, rfl, rfl, trivial⟩ ?_
    exact lpd (la - pl) 0 (by omega) _ hV Fr.rf

theorem one_en {w : Nat → Nat} : ∀ {n : Nat}, (∀ k, k < n → w k ≤ 16) → cnt (fun k => !decide ((if w k = 16 then 17 else w k) = 17)) n = cnt (fun k => !decide (w k = 16)) n := fun h => cnt_congr (fun k hk => by
  have := h k hk
  by_cases e : w k = 16
  · simp [e]
  · simp [e, show ¬ w k = 17 by omega])
set_option maxHeartbeats 4000000 in
set_option maxRecDepth 100000 in
theorem tX0_becomeOneLayer {l : Launch} {D : va_G} {A : Nat → Prop} {N : Nat} {Sh : SM} {J : JM} (I : IM) {a : Nat} (hP : PL Sh J a) {hg : Nat} {on : Nat → Bool} {en : Nat → Nat → Nat} (hV : PV I a hg on en) {b : Nat} {w : Nat → Nat} (hs : shI Sh b 16) (hb : b < a ∨ a + 7 ≤ b) (hw : ∀ k, k < 16 → I b k = nI (w k) ∧ w k ≤ 16) : CtM l D A yX0_becomeOneLayer cX0_becomeOneLayer 3 FieldType.int 2 N Sh I J [.ref a, .ref b] (fun r I' => r = nI (cnt (fun k => !decide (w k = 16)) 16) ∧ PS I' a 1 (upF on 0 true) (upF en 0 (fun k => if w k = 16 then 17 else w k)) ∧ Fr a 8 I I') := by
  refine ct_I (l0 := [(0, .ref a), (1, .ref b)]) (by decide +kernel) (Nat.le_of_ble_eq_true rfl) rfl (fun _ _ _ _ => rfl) ?_
  intro X hX hret _ _ _
  have hX : XK X RX0 cX0_becomeOneLayer 3 2 := hX
  obtain ⟨h0, hj0, hj1, hj2, hr, hrow, hz, hv7⟩ := id hP
  have hg4 := hV.1.1
  have lp : ∀ (n i : Nat), i + n = 16 → WX X 0 0 N Sh (uR I (a + 2 + 0) (rowN i (fun k => nI (if w k = 16 then 17 else w k)) (I (a + 2 + 0)))) J 2 [(0, .ref a), (1, .ref b), (2, .int (nI i))] [] := by
    intro n
    induction n with
    | zero =>
      intro i  hi
      obtain rfl : 16 = i := by omega
      refine wa_iload_n hX dX0_becomeOneLayer_2 rfl ?_
      refine wa_bipush (v := nI 16) hX dX0_becomeOneLayer_3 (by decide) ?_
      refine wa_icmp_ge (tgt := 38) hX dX0_becomeOneLayer_5 (by decide) (fun c_5 => ?_) (fun c_5 => absurd (Int32.le_refl _) c_5)
      refine wa_aload_n hX dX0_becomeOneLayer_38 rfl ?_
      refine wa_getR hX fX0_16 rfl (by assumption) (by assumption) dX0_becomeOneLayer_39 ?_
      refine wa_iconst (v := nI 0) hX dX0_becomeOneLayer_42 (by decide) ?_
      refine wa_iconst (v := nI 1) hX dX0_becomeOneLayer_43 (by decide) ?_
      refine wa_zast hX (by assumption) rfl (show 0 < 4 by decide) (by decide) dX0_becomeOneLayer_44 ?_
      refine wa_aload_n hX dX0_becomeOneLayer_45 rfl ?_
      refine wa_iconst (v := nI 1) hX dX0_becomeOneLayer_46 (by decide) ?_
      refine wa_putI hX fX0_24 rfl rfl ⟨rfl, rfl⟩ (by assumption) dX0_becomeOneLayer_47 ?_
      have hV1 : PV (u2 (u2 (uR I (a + 2 + 0) (rowN 16 (fun k => nI (if w k = 16 then 17 else w k)) (I (a + 2 + 0)))) (a + 6) 0 (vp_nar .boolean (nI 1))) a 3 (nI 1)) a 1 (upF on 0 true) (upF en 0 (fun k => if w k = 16 then 17 else w k)) := by
        refine ⟨⟨by omega, u2_s⟩, fun l hl => ?_, fun l hl k hk => ?_⟩
        · rw [u2_n (by omega)]
          by_cases e : l = 0
          · subst e; rw [u2_s]; simp [upF, nar_1]
          · rw [u2_k e, uR_n (by omega), hV.2.1 l hl]; simp [upF, e]
        · rw [u2_n (by omega), u2_n (by omega)]
          by_cases e : l = 0
          · subst e; rw [uR_s, rowN_in hk]; exact ⟨by simp [upF], by have := (hw k hk).2; simp only [upF, ↓reduceIte]; split <;> omega⟩
          · rw [uR_n (by omega)]; simp only [upF, if_neg e]; exact hV.2.2 l hl k hk
      have hs1 := settled hV1
      refine wa_aload_n hX dX0_becomeOneLayer_50 rfl ?_
      refine wa_vM hX (tX0_settle _ hP hV1) bX0_settle mX0_44 (by decide) (by decide) (ci := 0) ⟨by decide, rfl⟩ (by assumption) rfl rfl (Nat.le_of_ble_eq_true rfl) dX0_becomeOneLayer_51 (fun r_51 I_51 q_51 => ?_)
      obtain ⟨-, hI⟩ := q_51
      rw [← hI] at hs1
      refine wa_pop hX dX0_becomeOneLayer_54 rfl ?_
      refine wa_aload_n hX dX0_becomeOneLayer_55 rfl ?_
      refine wa_iconst (v := nI 0) hX dX0_becomeOneLayer_56 (by decide) ?_
      refine wa_vP hX (vX0_entriesIn _ hP hs1.1 (show 0 < 4 by decide)) bX0_entriesIn mX0_48 (by decide) (by decide) (ci := 0) ⟨by decide, rfl⟩ (by assumption) rfl rfl (Nat.le_of_ble_eq_true rfl) dX0_becomeOneLayer_57 (fun r_57 q_57 => ?_)
      exact hret _ _ _ _ _ ⟨⟨by rw [q_57, ← one_en (fun k hk => (hw k hk).2)]; simp only [enV, upF, ↓reduceIte], hs1, by rw [hI]; exact Fr.tr (Fr.tr (Fr.tr (Fr.uR (by omega) (by omega)) (Fr.u2 (by omega) (by omega))) (Fr.u2 (Nat.le_refl _) (by omega))) (Fr.uR (by omega) (by omega))⟩, rfl⟩ dX0_becomeOneLayer_60
    | succ n ih =>
      intro i  hi
      have hlt : i < 16 := by omega
      refine wa_iload_n hX dX0_becomeOneLayer_2 rfl ?_
      refine wa_bipush (v := nI 16) hX dX0_becomeOneLayer_3 (by decide) ?_
      refine wa_icmp_ge (tgt := 38) hX dX0_becomeOneLayer_5 (by decide) (fun c_5 => absurd c_5 (nI_ge hlt (by decide))) (fun c_5 => ?_)
      refine wa_aload_n hX dX0_becomeOneLayer_8 rfl ?_
      refine wa_getR hX fX0_11 rfl (by assumption) (by assumption) dX0_becomeOneLayer_9 ?_
      refine wa_iconst (v := nI 0) hX dX0_becomeOneLayer_12 (by decide) ?_
      refine wa_aald hX (by assumption) rfl (show 0 < 4 by decide) (by decide) (hrow 0 (by decide)).1 dX0_becomeOneLayer_13 ?_
      refine wa_iload_n hX dX0_becomeOneLayer_14 rfl ?_
      refine wa_aload_n hX dX0_becomeOneLayer_15 rfl ?_
      refine wa_iload_n hX dX0_becomeOneLayer_16 rfl ?_
      refine wa_iald hX hs rfl (by first | assumption | omega) (by decide) dX0_becomeOneLayer_17 ?_
      rw [uR_n (by omega), (hw i hlt).1]
      refine wa_bipush (v := nI 16) hX dX0_becomeOneLayer_18 (by decide) ?_
      refine wa_icmp_ne (tgt := 28) hX dX0_becomeOneLayer_20 (by decide) (fun c_20 => ?_) (fun c_20 => ?_)
      · skip
        have c1 := ne_of_nI c_20
        refine wa_aload_n hX dX0_becomeOneLayer_28 rfl ?_
        refine wa_iload_n hX dX0_becomeOneLayer_29 rfl ?_
        refine wa_iald hX hs rfl (by first | assumption | omega) (by decide) dX0_becomeOneLayer_30 ?_
        rw [uR_n (by omega), (hw i hlt).1]
        refine wa_iast hX (hrow 0 (by decide)).2 rfl (by first | assumption | omega) (by decide) dX0_becomeOneLayer_31 ?_
        refine wa_iinc hX dX0_becomeOneLayer_32 rfl (inc1 _) (by decide) ?_
        refine wa_goto (tgt := 2) hX dX0_becomeOneLayer_35 (by decide) ?_
        refine wx_sub (l' := [(0, _), (1, _), (2, _)]) ⟨rfl, rfl, rfl, trivial⟩ ?_
        rw [u2_row (by simp [c1])]
        exact ih (i + 1) (by omega)
      · skip
        have c1 := eq_of_nI c_20 (by have := (hw i hlt).2; omega) (by decide)
        refine wa_bipush (v := nI 17) hX dX0_becomeOneLayer_23 (by decide) ?_
        refine wa_goto (tgt := 31) hX dX0_becomeOneLayer_25 (by decide) ?_
        refine wa_iast hX (hrow 0 (by decide)).2 rfl (by first | assumption | omega) (by decide) dX0_becomeOneLayer_31 ?_
        refine wa_iinc hX dX0_becomeOneLayer_32 rfl (inc1 _) (by decide) ?_
        refine wa_goto (tgt := 2) hX dX0_becomeOneLayer_35 (by decide) ?_
        refine wx_sub (l' := [(0, _), (1, _), (2, _)]) ⟨rfl, rfl, rfl, trivial⟩ ?_
        rw [u2_row (by simp [c1])]
        exact ih (i + 1) (by omega)
  refine wa_iconst (v := nI 0) hX dX0_becomeOneLayer_0 (by decide) ?_
  refine wa_istore_n hX dX0_becomeOneLayer_1 (by decide) ?_
  rw [row_0 (I := I) (a := a + 2 + 0) (g := (fun k => nI (if w k = 16 then 17 else w k)))]
  exact lp 16 0 (by omega)

set_option maxHeartbeats 4000000 in
set_option maxRecDepth 100000 in
theorem tX0_copyFrom {l : Launch} {D : va_G} {A : Nat → Prop} {N : Nat} {Sh : SM} {J : JM} (I : IM) {a b : Nat} (hP : PL Sh J a) (hP2 : PL Sh J b) (hd : b + 8 ≤ a ∨ a + 8 ≤ b) {hg : Nat} {on : Nat → Bool} {en : Nat → Nat → Nat} (hV : PS I b hg on en) : CtW l D A yX0_copyFrom cX0_copyFrom 3 2 N Sh I J [.ref a, .ref b] (fun I' => PS I' a hg on en ∧ Fr a 8 I I') := by
  refine ct_V (l0 := [(0, .ref a), (1, .ref b)]) (by decide +kernel) (Nat.le_of_ble_eq_true rfl) rfl ?_
  intro X hX hret _ _ _
  have hX : XK X RX0 cX0_copyFrom 3 2 := hX
  obtain ⟨h0, hj0, hj1, hj2, hr, hrow, hz, hv7⟩ := id hP
  obtain ⟨g0, gj0, gj1, gj2, gr, grow, gz, gv7⟩ := id hP2
  have lp : ∀ (n i : Nat) (I1 : IM), i + n = 4 → (Fr a 8 I I1) → (∀ l, l < i → I1 (a + 6) l = bI (on l)) → (∀ l, l < i → ∀ k, k < 16 → I1 (a + 2 + l) k = nI (en l k) ∧ en l k ≤ 17) → WX X 0 0 N Sh I1 J 2 [(0, .ref a), (1, .ref b), (2, .int (nI i))] [] := by
    intro n
    induction n with
    | zero =>
      intro i I1 hi hF h1 h2
      obtain rfl : 4 = i := by omega
      refine wa_iload_n hX dX0_copyFrom_2 rfl ?_
      refine wa_iconst (v := nI 4) hX dX0_copyFrom_3 (by decide) ?_
      refine wa_icmp_ge (tgt := 40) hX dX0_copyFrom_4 (by decide) (fun c_4 => ?_) (fun c_4 => absurd (Int32.le_refl _) c_4)
      refine wa_aload_n hX dX0_copyFrom_40 rfl ?_
      refine wa_getR hX fX0_20 rfl g0 gj2 dX0_copyFrom_41 ?_
      refine wa_aload_n hX dX0_copyFrom_44 rfl ?_
      refine wa_getR hX fX0_20 rfl h0 hj2 dX0_copyFrom_45 ?_
      refine wa_sW hX (tX2_copy _ gv7 hv7) bX2_copy mX0_34 (by decide) (by decide) rfl rfl (Nat.le_of_ble_eq_true rfl) dX0_copyFrom_48 (fun I_48 q_48 => ?_)
      subst q_48
      refine wa_aload_n hX dX0_copyFrom_51 rfl ?_
      refine wa_aload_n hX dX0_copyFrom_52 rfl ?_
      refine wa_getI hX fX0_24 rfl g0 dX0_copyFrom_53 ?_
      rw [uR_n (b := b) (by omega), hF.n (c := b) (by omega), hV.1.1.2]
      refine wa_putI hX fX0_24 rfl rfl ⟨rfl, rfl⟩ h0 dX0_copyFrom_56 ?_
      refine hret _ _ _ _ ⟨⟨⟨⟨⟨hV.1.1.1, u2_s⟩, fun l hl => ?_, fun l hl k hk => ?_⟩, fun k hk => ?_⟩, ?_⟩, rfl⟩ dX0_copyFrom_59
      · rw [u2_n (by omega), uR_n (by omega)]; exact h1 l hl
      · rw [u2_n (by omega), uR_n (by omega)]; exact h2 l hl k hk
      · rw [u2_n (by omega), uR_s, hF.n (by omega)]; exact hV.2 k hk
      · exact hF.tr (Fr.tr (Fr.uR (by omega) (by omega)) (Fr.u2 (Nat.le_refl _) (by omega)))
    | succ n ih =>
      intro i I1 hi hF h1 h2
      have hlt : i < 4 := by omega
      refine wa_iload_n hX dX0_copyFrom_2 rfl ?_
      refine wa_iconst (v := nI 4) hX dX0_copyFrom_3 (by decide) ?_
      refine wa_icmp_ge (tgt := 40) hX dX0_copyFrom_4 (by decide) (fun c_4 => absurd c_4 (nI_ge hlt (by decide))) (fun c_4 => ?_)
      refine wa_aload_n hX dX0_copyFrom_7 rfl ?_
      refine wa_getR hX fX0_11 rfl g0 gj0 dX0_copyFrom_8 ?_
      refine wa_iload_n hX dX0_copyFrom_11 rfl ?_
      refine wa_aald hX gr rfl (by first | assumption | omega) (by decide) (grow i hlt).1 dX0_copyFrom_12 ?_
      refine wa_aload_n hX dX0_copyFrom_13 rfl ?_
      refine wa_getR hX fX0_11 rfl h0 hj0 dX0_copyFrom_14 ?_
      refine wa_iload_n hX dX0_copyFrom_17 rfl ?_
      refine wa_aald hX hr rfl (by first | assumption | omega) (by decide) (hrow i hlt).1 dX0_copyFrom_18 ?_
      refine wa_sW hX (tX2_copy _ (grow i hlt).2 (hrow i hlt).2) bX2_copy mX0_34 (by decide) (by decide) rfl rfl (Nat.le_of_ble_eq_true rfl) dX0_copyFrom_19 (fun I_19 q_19 => ?_)
      subst q_19
      refine wa_aload_n hX dX0_copyFrom_22 rfl ?_
      refine wa_getR hX fX0_16 rfl h0 hj1 dX0_copyFrom_23 ?_
      refine wa_iload_n hX dX0_copyFrom_26 rfl ?_
      refine wa_aload_n hX dX0_copyFrom_27 rfl ?_
      refine wa_getR hX fX0_16 rfl g0 gj1 dX0_copyFrom_28 ?_
      refine wa_iload_n hX dX0_copyFrom_31 rfl ?_
      refine wa_zald hX gz rfl (by first | assumption | omega) (by decide) dX0_copyFrom_32 ?_
      rw [uR_n (b := b + 6) (by omega), hF.n (c := b + 6) (by omega), hV.1.2.1 i hlt]
      refine wa_zast hX hz rfl (by first | assumption | omega) (by decide) dX0_copyFrom_33 ?_
      refine wa_iinc hX dX0_copyFrom_34 rfl (inc1 _) (by decide) ?_
      refine wa_goto (tgt := 2) hX dX0_copyFrom_37 (by decide) ?_
      refine wx_sub (l' := [(0, _), (1, _), (2, _)]) ⟨rfl, rfl, rfl, trivial⟩ ?_
      rw [nar_b]
      refine ih (i + 1) _ (by omega) (hF.tr (Fr.tr (Fr.uR (by omega) (by omega)) (Fr.u2 (by omega) (by omega)))) (fun l hl => ?_) (fun l hl k hk => ?_)
      · by_cases e : l = i
        · subst e; rw [u2_s]
        · rw [u2_k e, uR_n (by omega)]; exact h1 l (by omega)
      · rw [u2_n (by omega)]
        by_cases e : l = i
        · subst e; rw [uR_s, hF.n (by omega)]; exact hV.1.2.2 l hlt k hk
        · rw [uR_n (by omega)]; exact h2 l (by omega) k hk
  refine wa_iconst (v := nI 0) hX dX0_copyFrom_0 (by decide) ?_
  refine wa_istore_n hX dX0_copyFrom_1 (by decide) ?_
  exact lp 4 0 _ (by omega) Fr.rf (fun l hl => absurd hl (by omega)) (fun l hl => absurd hl (by omega))
end
