-- ===== PART A: goes FIRST, ahead of the names: the tables' words, and 'selects' of the private methods out of them =====
/-- a private method of a class that the tables say can be made, by its rows of tables_1 -/
def lw_okq (q : MethodName × Nat) : Prop := (q.1.cls ≠ "java/lang/invoke/MethodHandle" ∧ q.1.cls ≠ "java/lang/invoke/VarHandle") ∧ Cond.instantiable q.1.cls q.2 ∈ tables_1 ∧ Cond.privateMethod q.1 ∈ tables_1 ∧ Cond.instanceMethod q.1 ∈ tables_1
theorem lw_p0 : lw_okq (⟨"HatRoom$State", "seeThese", "(II)V"⟩, 12) := ⟨⟨by decide +kernel, by decide +kernel⟩, List.mem_of_getElem? (i := 404) (by decide +kernel), List.mem_of_getElem? (i := 481) (by decide +kernel), List.mem_of_getElem? (i := 482) (by decide +kernel)⟩
theorem lw_p1 : lw_okq (⟨"HatRoom$State", "fill", "(LHatRoom$Text;)V"⟩, 12) := ⟨⟨by decide +kernel, by decide +kernel⟩, List.mem_of_getElem? (i := 404) (by decide +kernel), List.mem_of_getElem? (i := 492) (by decide +kernel), List.mem_of_getElem? (i := 493) (by decide +kernel)⟩
theorem lw_p2 : lw_okq (⟨"HatRoom", "put", "(I)V"⟩, 16) := ⟨⟨by decide +kernel, by decide +kernel⟩, List.mem_of_getElem? (i := 26) (by decide +kernel), List.mem_of_getElem? (i := 554) (by decide +kernel), List.mem_of_getElem? (i := 555) (by decide +kernel)⟩
theorem lw_p3 : lw_okq (⟨"HatRoom$Tokens", "addLetter", "(IIZ)V"⟩, 9) := ⟨⟨by decide +kernel, by decide +kernel⟩, List.mem_of_getElem? (i := 34) (by decide +kernel), List.mem_of_getElem? (i := 566) (by decide +kernel), List.mem_of_getElem? (i := 567) (by decide +kernel)⟩
theorem lw_p4 : lw_okq (⟨"HatRoom$Tokens", "begin", "(II)V"⟩, 9) := ⟨⟨by decide +kernel, by decide +kernel⟩, List.mem_of_getElem? (i := 34) (by decide +kernel), List.mem_of_getElem? (i := 570) (by decide +kernel), List.mem_of_getElem? (i := 571) (by decide +kernel)⟩
theorem lw_p5 : lw_okq (⟨"HatRoom$Tokens", "addDigit", "(IIZ)V"⟩, 9) := ⟨⟨by decide +kernel, by decide +kernel⟩, List.mem_of_getElem? (i := 34) (by decide +kernel), List.mem_of_getElem? (i := 574) (by decide +kernel), List.mem_of_getElem? (i := 575) (by decide +kernel)⟩
theorem lw_p6 : lw_okq (⟨"HatRoom$Tokens", "addSign", "(II)V"⟩, 9) := ⟨⟨by decide +kernel, by decide +kernel⟩, List.mem_of_getElem? (i := 34) (by decide +kernel), List.mem_of_getElem? (i := 582) (by decide +kernel), List.mem_of_getElem? (i := 583) (by decide +kernel)⟩
theorem lw_p7 : lw_okq (⟨"HatRoom$Tokens", "nameWords", "()V"⟩, 9) := ⟨⟨by decide +kernel, by decide +kernel⟩, List.mem_of_getElem? (i := 34) (by decide +kernel), List.mem_of_getElem? (i := 589) (by decide +kernel), List.mem_of_getElem? (i := 590) (by decide +kernel)⟩
theorem lw_p8 : lw_okq (⟨"HatRoom$Reader", "factLine", "(LHatRoom$Text;)Z"⟩, 2) := ⟨⟨by decide +kernel, by decide +kernel⟩, List.mem_of_getElem? (i := 121) (by decide +kernel), List.mem_of_getElem? (i := 605) (by decide +kernel), List.mem_of_getElem? (i := 606) (by decide +kernel)⟩
theorem lw_p9 : lw_okq (⟨"HatRoom$Formula", "tieDownTo", "(I)V"⟩, 9) := ⟨⟨by decide +kernel, by decide +kernel⟩, List.mem_of_getElem? (i := 127) (by decide +kernel), List.mem_of_getElem? (i := 641) (by decide +kernel), List.mem_of_getElem? (i := 642) (by decide +kernel)⟩
theorem lw_p10 : lw_okq (⟨"HatRoom$Formula", "pop", "()I"⟩, 9) := ⟨⟨by decide +kernel, by decide +kernel⟩, List.mem_of_getElem? (i := 127) (by decide +kernel), List.mem_of_getElem? (i := 648) (by decide +kernel), List.mem_of_getElem? (i := 649) (by decide +kernel)⟩
theorem lw_p11 : lw_okq (⟨"HatRoom$Formula", "push", "(I)V"⟩, 9) := ⟨⟨by decide +kernel, by decide +kernel⟩, List.mem_of_getElem? (i := 127) (by decide +kernel), List.mem_of_getElem? (i := 656) (by decide +kernel), List.mem_of_getElem? (i := 657) (by decide +kernel)⟩
theorem lw_p12 : lw_okq (⟨"HatRoom$Formula", "readSign", "(Z)I"⟩, 9) := ⟨⟨by decide +kernel, by decide +kernel⟩, List.mem_of_getElem? (i := 127) (by decide +kernel), List.mem_of_getElem? (i := 660) (by decide +kernel), List.mem_of_getElem? (i := 661) (by decide +kernel)⟩
theorem lw_p13 : lw_okq (⟨"HatRoom$Formula", "wrong", "(I)I"⟩, 9) := ⟨⟨by decide +kernel, by decide +kernel⟩, List.mem_of_getElem? (i := 127) (by decide +kernel), List.mem_of_getElem? (i := 665) (by decide +kernel), List.mem_of_getElem? (i := 666) (by decide +kernel)⟩
theorem lw_p14 : lw_okq (⟨"HatRoom$Formula", "mayBegin", "()Z"⟩, 9) := ⟨⟨by decide +kernel, by decide +kernel⟩, List.mem_of_getElem? (i := 127) (by decide +kernel), List.mem_of_getElem? (i := 670) (by decide +kernel), List.mem_of_getElem? (i := 671) (by decide +kernel)⟩
theorem lw_p15 : lw_okq (⟨"HatRoom$Formula", "hold", "(III)I"⟩, 9) := ⟨⟨by decide +kernel, by decide +kernel⟩, List.mem_of_getElem? (i := 127) (by decide +kernel), List.mem_of_getElem? (i := 674) (by decide +kernel), List.mem_of_getElem? (i := 675) (by decide +kernel)⟩
def lw_privs_1 : List (MethodName × Nat) := [(⟨"HatRoom$State", "seeThese", "(II)V"⟩, 12), (⟨"HatRoom$State", "fill", "(LHatRoom$Text;)V"⟩, 12), (⟨"HatRoom", "put", "(I)V"⟩, 16), (⟨"HatRoom$Tokens", "addLetter", "(IIZ)V"⟩, 9), (⟨"HatRoom$Tokens", "begin", "(II)V"⟩, 9), (⟨"HatRoom$Tokens", "addDigit", "(IIZ)V"⟩, 9), (⟨"HatRoom$Tokens", "addSign", "(II)V"⟩, 9), (⟨"HatRoom$Tokens", "nameWords", "()V"⟩, 9), (⟨"HatRoom$Reader", "factLine", "(LHatRoom$Text;)Z"⟩, 2), (⟨"HatRoom$Formula", "tieDownTo", "(I)V"⟩, 9), (⟨"HatRoom$Formula", "pop", "()I"⟩, 9), (⟨"HatRoom$Formula", "push", "(I)V"⟩, 9), (⟨"HatRoom$Formula", "readSign", "(Z)I"⟩, 9), (⟨"HatRoom$Formula", "wrong", "(I)I"⟩, 9), (⟨"HatRoom$Formula", "mayBegin", "()Z"⟩, 9), (⟨"HatRoom$Formula", "hold", "(III)I"⟩, 9)]
theorem lw_r1 : ∀ q ∈ lw_privs_1, lw_okq q := List.forall_mem_cons.mpr ⟨lw_p0, List.forall_mem_cons.mpr ⟨lw_p1, List.forall_mem_cons.mpr ⟨lw_p2, List.forall_mem_cons.mpr ⟨lw_p3, List.forall_mem_cons.mpr ⟨lw_p4, List.forall_mem_cons.mpr ⟨lw_p5, List.forall_mem_cons.mpr ⟨lw_p6, List.forall_mem_cons.mpr ⟨lw_p7, List.forall_mem_cons.mpr ⟨lw_p8, List.forall_mem_cons.mpr ⟨lw_p9, List.forall_mem_cons.mpr ⟨lw_p10, List.forall_mem_cons.mpr ⟨lw_p11, List.forall_mem_cons.mpr ⟨lw_p12, List.forall_mem_cons.mpr ⟨lw_p13, List.forall_mem_cons.mpr ⟨lw_p14, List.forall_mem_cons.mpr ⟨lw_p15, fun _ h => absurd h List.not_mem_nil⟩⟩⟩⟩⟩⟩⟩⟩⟩⟩⟩⟩⟩⟩⟩⟩
theorem lw_p16 : lw_okq (⟨"HatRoom$Formula", "readFact", "(LHatRoom$Text;I)I"⟩, 9) := ⟨⟨by decide +kernel, by decide +kernel⟩, List.mem_of_getElem? (i := 127) (by decide +kernel), List.mem_of_getElem? (i := 678) (by decide +kernel), List.mem_of_getElem? (i := 679) (by decide +kernel)⟩
theorem lw_p17 : lw_okq (⟨"HatRoom$Formula", "readLeaf", "(LHatRoom$Text;I)I"⟩, 9) := ⟨⟨by decide +kernel, by decide +kernel⟩, List.mem_of_getElem? (i := 127) (by decide +kernel), List.mem_of_getElem? (i := 682) (by decide +kernel), List.mem_of_getElem? (i := 683) (by decide +kernel)⟩
theorem lw_p18 : lw_okq (⟨"HatRoom$Formula", "readKnows", "(LHatRoom$Text;)I"⟩, 9) := ⟨⟨by decide +kernel, by decide +kernel⟩, List.mem_of_getElem? (i := 127) (by decide +kernel), List.mem_of_getElem? (i := 695) (by decide +kernel), List.mem_of_getElem? (i := 696) (by decide +kernel)⟩
theorem lw_p19 : lw_okq (⟨"HatRoom$Formula", "readEither", "(II)I"⟩, 9) := ⟨⟨by decide +kernel, by decide +kernel⟩, List.mem_of_getElem? (i := 127) (by decide +kernel), List.mem_of_getElem? (i := 699) (by decide +kernel), List.mem_of_getElem? (i := 700) (by decide +kernel)⟩
theorem lw_p20 : lw_okq (⟨"HatRoom$Formula", "readValue", "(I)I"⟩, 9) := ⟨⟨by decide +kernel, by decide +kernel⟩, List.mem_of_getElem? (i := 127) (by decide +kernel), List.mem_of_getElem? (i := 703) (by decide +kernel), List.mem_of_getElem? (i := 704) (by decide +kernel)⟩
theorem lw_p21 : lw_okq (⟨"HatRoom$Reader", "lawLine", "(LHatRoom$Text;)Z"⟩, 2) := ⟨⟨by decide +kernel, by decide +kernel⟩, List.mem_of_getElem? (i := 121) (by decide +kernel), List.mem_of_getElem? (i := 712) (by decide +kernel), List.mem_of_getElem? (i := 713) (by decide +kernel)⟩
theorem lw_p22 : lw_okq (⟨"HatRoom$Reader", "plainLine", "(LHatRoom$Text;I)Z"⟩, 2) := ⟨⟨by decide +kernel, by decide +kernel⟩, List.mem_of_getElem? (i := 121) (by decide +kernel), List.mem_of_getElem? (i := 716) (by decide +kernel), List.mem_of_getElem? (i := 717) (by decide +kernel)⟩
theorem lw_p23 : lw_okq (⟨"HatRoom$Reader", "colourLine", "(LHatRoom$Text;)Z"⟩, 2) := ⟨⟨by decide +kernel, by decide +kernel⟩, List.mem_of_getElem? (i := 121) (by decide +kernel), List.mem_of_getElem? (i := 720) (by decide +kernel), List.mem_of_getElem? (i := 721) (by decide +kernel)⟩
theorem lw_p24 : lw_okq (⟨"HatRoom$Reader", "personLine", "(LHatRoom$Text;)Z"⟩, 2) := ⟨⟨by decide +kernel, by decide +kernel⟩, List.mem_of_getElem? (i := 121) (by decide +kernel), List.mem_of_getElem? (i := 725) (by decide +kernel), List.mem_of_getElem? (i := 726) (by decide +kernel)⟩
theorem lw_p25 : lw_okq (⟨"HatRoom$Reader", "seesLine", "(LHatRoom$Text;)Z"⟩, 2) := ⟨⟨by decide +kernel, by decide +kernel⟩, List.mem_of_getElem? (i := 121) (by decide +kernel), List.mem_of_getElem? (i := 735) (by decide +kernel), List.mem_of_getElem? (i := 736) (by decide +kernel)⟩
theorem lw_p26 : lw_okq (⟨"HatRoom$Reader", "tellLine", "(LHatRoom$Text;)Z"⟩, 2) := ⟨⟨by decide +kernel, by decide +kernel⟩, List.mem_of_getElem? (i := 121) (by decide +kernel), List.mem_of_getElem? (i := 739) (by decide +kernel), List.mem_of_getElem? (i := 740) (by decide +kernel)⟩
theorem lw_p27 : lw_okq (⟨"HatRoom$Reader", "askLine", "(LHatRoom$Text;)Z"⟩, 2) := ⟨⟨by decide +kernel, by decide +kernel⟩, List.mem_of_getElem? (i := 121) (by decide +kernel), List.mem_of_getElem? (i := 743) (by decide +kernel), List.mem_of_getElem? (i := 744) (by decide +kernel)⟩
theorem lw_p28 : lw_okq (⟨"HatRoom$Reader", "shyLine", "(LHatRoom$Text;)Z"⟩, 2) := ⟨⟨by decide +kernel, by decide +kernel⟩, List.mem_of_getElem? (i := 121) (by decide +kernel), List.mem_of_getElem? (i := 747) (by decide +kernel), List.mem_of_getElem? (i := 748) (by decide +kernel)⟩
theorem lw_p29 : lw_okq (⟨"HatRoom$Reader", "seedLine", "(LHatRoom$Text;)Z"⟩, 2) := ⟨⟨by decide +kernel, by decide +kernel⟩, List.mem_of_getElem? (i := 121) (by decide +kernel), List.mem_of_getElem? (i := 751) (by decide +kernel), List.mem_of_getElem? (i := 752) (by decide +kernel)⟩
theorem lw_p30 : lw_okq (⟨"HatRoom", "isPerson", "(I)Z"⟩, 16) := ⟨⟨by decide +kernel, by decide +kernel⟩, List.mem_of_getElem? (i := 26) (by decide +kernel), List.mem_of_getElem? (i := 773) (by decide +kernel), List.mem_of_getElem? (i := 774) (by decide +kernel)⟩
theorem lw_p31 : lw_okq (⟨"HatRoom", "isFact", "(I)Z"⟩, 16) := ⟨⟨by decide +kernel, by decide +kernel⟩, List.mem_of_getElem? (i := 26) (by decide +kernel), List.mem_of_getElem? (i := 816) (by decide +kernel), List.mem_of_getElem? (i := 817) (by decide +kernel)⟩
def lw_privs_2 : List (MethodName × Nat) := [(⟨"HatRoom$Formula", "readFact", "(LHatRoom$Text;I)I"⟩, 9), (⟨"HatRoom$Formula", "readLeaf", "(LHatRoom$Text;I)I"⟩, 9), (⟨"HatRoom$Formula", "readKnows", "(LHatRoom$Text;)I"⟩, 9), (⟨"HatRoom$Formula", "readEither", "(II)I"⟩, 9), (⟨"HatRoom$Formula", "readValue", "(I)I"⟩, 9), (⟨"HatRoom$Reader", "lawLine", "(LHatRoom$Text;)Z"⟩, 2), (⟨"HatRoom$Reader", "plainLine", "(LHatRoom$Text;I)Z"⟩, 2), (⟨"HatRoom$Reader", "colourLine", "(LHatRoom$Text;)Z"⟩, 2), (⟨"HatRoom$Reader", "personLine", "(LHatRoom$Text;)Z"⟩, 2), (⟨"HatRoom$Reader", "seesLine", "(LHatRoom$Text;)Z"⟩, 2), (⟨"HatRoom$Reader", "tellLine", "(LHatRoom$Text;)Z"⟩, 2), (⟨"HatRoom$Reader", "askLine", "(LHatRoom$Text;)Z"⟩, 2), (⟨"HatRoom$Reader", "shyLine", "(LHatRoom$Text;)Z"⟩, 2), (⟨"HatRoom$Reader", "seedLine", "(LHatRoom$Text;)Z"⟩, 2), (⟨"HatRoom", "isPerson", "(I)Z"⟩, 16), (⟨"HatRoom", "isFact", "(I)Z"⟩, 16)]
theorem lw_r2 : ∀ q ∈ lw_privs_2, lw_okq q := List.forall_mem_cons.mpr ⟨lw_p16, List.forall_mem_cons.mpr ⟨lw_p17, List.forall_mem_cons.mpr ⟨lw_p18, List.forall_mem_cons.mpr ⟨lw_p19, List.forall_mem_cons.mpr ⟨lw_p20, List.forall_mem_cons.mpr ⟨lw_p21, List.forall_mem_cons.mpr ⟨lw_p22, List.forall_mem_cons.mpr ⟨lw_p23, List.forall_mem_cons.mpr ⟨lw_p24, List.forall_mem_cons.mpr ⟨lw_p25, List.forall_mem_cons.mpr ⟨lw_p26, List.forall_mem_cons.mpr ⟨lw_p27, List.forall_mem_cons.mpr ⟨lw_p28, List.forall_mem_cons.mpr ⟨lw_p29, List.forall_mem_cons.mpr ⟨lw_p30, List.forall_mem_cons.mpr ⟨lw_p31, fun _ h => absurd h List.not_mem_nil⟩⟩⟩⟩⟩⟩⟩⟩⟩⟩⟩⟩⟩⟩⟩⟩
theorem lw_p32 : lw_okq (⟨"HatRoom$Mind", "wears", "(LHatRoom$State;III)V"⟩, 7) := ⟨⟨by decide +kernel, by decide +kernel⟩, List.mem_of_getElem? (i := 201) (by decide +kernel), List.mem_of_getElem? (i := 824) (by decide +kernel), List.mem_of_getElem? (i := 825) (by decide +kernel)⟩
theorem lw_p33 : lw_okq (⟨"HatRoom$Mind", "set", "(IIZ)V"⟩, 7) := ⟨⟨by decide +kernel, by decide +kernel⟩, List.mem_of_getElem? (i := 201) (by decide +kernel), List.mem_of_getElem? (i := 829) (by decide +kernel), List.mem_of_getElem? (i := 830) (by decide +kernel)⟩
theorem lw_p34 : lw_okq (⟨"HatRoom$Mind", "hasMany", "(LHatRoom$State;III)V"⟩, 7) := ⟨⟨by decide +kernel, by decide +kernel⟩, List.mem_of_getElem? (i := 201) (by decide +kernel), List.mem_of_getElem? (i := 838) (by decide +kernel), List.mem_of_getElem? (i := 839) (by decide +kernel)⟩
theorem lw_p35 : lw_okq (⟨"HatRoom$Mind", "both", "(LHatRoom$State;III)V"⟩, 7) := ⟨⟨by decide +kernel, by decide +kernel⟩, List.mem_of_getElem? (i := 201) (by decide +kernel), List.mem_of_getElem? (i := 842) (by decide +kernel), List.mem_of_getElem? (i := 843) (by decide +kernel)⟩
theorem lw_p36 : lw_okq (⟨"HatRoom$Mind", "either", "(LHatRoom$State;III)V"⟩, 7) := ⟨⟨by decide +kernel, by decide +kernel⟩, List.mem_of_getElem? (i := 201) (by decide +kernel), List.mem_of_getElem? (i := 846) (by decide +kernel), List.mem_of_getElem? (i := 847) (by decide +kernel)⟩
theorem lw_p37 : lw_okq (⟨"HatRoom$Mind", "isNot", "(LHatRoom$State;II)V"⟩, 7) := ⟨⟨by decide +kernel, by decide +kernel⟩, List.mem_of_getElem? (i := 201) (by decide +kernel), List.mem_of_getElem? (i := 850) (by decide +kernel), List.mem_of_getElem? (i := 851) (by decide +kernel)⟩
theorem lw_p38 : lw_okq (⟨"HatRoom$Mind", "knowsThat", "(LHatRoom$State;III)V"⟩, 7) := ⟨⟨by decide +kernel, by decide +kernel⟩, List.mem_of_getElem? (i := 201) (by decide +kernel), List.mem_of_getElem? (i := 854) (by decide +kernel), List.mem_of_getElem? (i := 855) (by decide +kernel)⟩
theorem lw_p39 : lw_okq (⟨"HatRoom$Mind", "stampFalse", "(LHatRoom$State;II)V"⟩, 7) := ⟨⟨by decide +kernel, by decide +kernel⟩, List.mem_of_getElem? (i := 201) (by decide +kernel), List.mem_of_getElem? (i := 858) (by decide +kernel), List.mem_of_getElem? (i := 859) (by decide +kernel)⟩
theorem lw_p40 : lw_okq (⟨"HatRoom$Mind", "headOf", "(I)I"⟩, 7) := ⟨⟨by decide +kernel, by decide +kernel⟩, List.mem_of_getElem? (i := 201) (by decide +kernel), List.mem_of_getElem? (i := 874) (by decide +kernel), List.mem_of_getElem? (i := 875) (by decide +kernel)⟩
theorem lw_p41 : lw_okq (⟨"HatRoom", "remember", "(LHatRoom$State;)V"⟩, 16) := ⟨⟨by decide +kernel, by decide +kernel⟩, List.mem_of_getElem? (i := 26) (by decide +kernel), List.mem_of_getElem? (i := 970) (by decide +kernel), List.mem_of_getElem? (i := 971) (by decide +kernel)⟩
theorem lw_p42 : lw_okq (⟨"HatRoom$Course", "hushOf", "(LHatRoom$State;II)I"⟩, 6) := ⟨⟨by decide +kernel, by decide +kernel⟩, List.mem_of_getElem? (i := 379) (by decide +kernel), List.mem_of_getElem? (i := 988) (by decide +kernel), List.mem_of_getElem? (i := 989) (by decide +kernel)⟩
theorem lw_p43 : lw_okq (⟨"HatRoom$Course", "speaks", "(LHatRoom$State;I)Z"⟩, 6) := ⟨⟨by decide +kernel, by decide +kernel⟩, List.mem_of_getElem? (i := 379) (by decide +kernel), List.mem_of_getElem? (i := 1002) (by decide +kernel), List.mem_of_getElem? (i := 1003) (by decide +kernel)⟩
theorem lw_p44 : lw_okq (⟨"HatRoom$Course", "reward", "(LHatRoom$State;II)V"⟩, 6) := ⟨⟨by decide +kernel, by decide +kernel⟩, List.mem_of_getElem? (i := 379) (by decide +kernel), List.mem_of_getElem? (i := 1014) (by decide +kernel), List.mem_of_getElem? (i := 1015) (by decide +kernel)⟩
theorem lw_p45 : lw_okq (⟨"HatRoom", "areTwo", "(II)Z"⟩, 16) := ⟨⟨by decide +kernel, by decide +kernel⟩, List.mem_of_getElem? (i := 26) (by decide +kernel), List.mem_of_getElem? (i := 1023) (by decide +kernel), List.mem_of_getElem? (i := 1024) (by decide +kernel)⟩
theorem lw_p46 : lw_okq (⟨"HatRoom$Course", "passOne", "(LHatRoom$State;)V"⟩, 6) := ⟨⟨by decide +kernel, by decide +kernel⟩, List.mem_of_getElem? (i := 379) (by decide +kernel), List.mem_of_getElem? (i := 1037) (by decide +kernel), List.mem_of_getElem? (i := 1038) (by decide +kernel)⟩
theorem lw_p47 : lw_okq (⟨"HatRoom$Mind", "barRivals", "(LHatRoom$Text;LHatRoom$State;I)V"⟩, 7) := ⟨⟨by decide +kernel, by decide +kernel⟩, List.mem_of_getElem? (i := 201) (by decide +kernel), List.mem_of_getElem? (i := 1069) (by decide +kernel), List.mem_of_getElem? (i := 1070) (by decide +kernel)⟩
def lw_privs_3 : List (MethodName × Nat) := [(⟨"HatRoom$Mind", "wears", "(LHatRoom$State;III)V"⟩, 7), (⟨"HatRoom$Mind", "set", "(IIZ)V"⟩, 7), (⟨"HatRoom$Mind", "hasMany", "(LHatRoom$State;III)V"⟩, 7), (⟨"HatRoom$Mind", "both", "(LHatRoom$State;III)V"⟩, 7), (⟨"HatRoom$Mind", "either", "(LHatRoom$State;III)V"⟩, 7), (⟨"HatRoom$Mind", "isNot", "(LHatRoom$State;II)V"⟩, 7), (⟨"HatRoom$Mind", "knowsThat", "(LHatRoom$State;III)V"⟩, 7), (⟨"HatRoom$Mind", "stampFalse", "(LHatRoom$State;II)V"⟩, 7), (⟨"HatRoom$Mind", "headOf", "(I)I"⟩, 7), (⟨"HatRoom", "remember", "(LHatRoom$State;)V"⟩, 16), (⟨"HatRoom$Course", "hushOf", "(LHatRoom$State;II)I"⟩, 6), (⟨"HatRoom$Course", "speaks", "(LHatRoom$State;I)Z"⟩, 6), (⟨"HatRoom$Course", "reward", "(LHatRoom$State;II)V"⟩, 6), (⟨"HatRoom", "areTwo", "(II)Z"⟩, 16), (⟨"HatRoom$Course", "passOne", "(LHatRoom$State;)V"⟩, 6), (⟨"HatRoom$Mind", "barRivals", "(LHatRoom$Text;LHatRoom$State;I)V"⟩, 7)]
theorem lw_r3 : ∀ q ∈ lw_privs_3, lw_okq q := List.forall_mem_cons.mpr ⟨lw_p32, List.forall_mem_cons.mpr ⟨lw_p33, List.forall_mem_cons.mpr ⟨lw_p34, List.forall_mem_cons.mpr ⟨lw_p35, List.forall_mem_cons.mpr ⟨lw_p36, List.forall_mem_cons.mpr ⟨lw_p37, List.forall_mem_cons.mpr ⟨lw_p38, List.forall_mem_cons.mpr ⟨lw_p39, List.forall_mem_cons.mpr ⟨lw_p40, List.forall_mem_cons.mpr ⟨lw_p41, List.forall_mem_cons.mpr ⟨lw_p42, List.forall_mem_cons.mpr ⟨lw_p43, List.forall_mem_cons.mpr ⟨lw_p44, List.forall_mem_cons.mpr ⟨lw_p45, List.forall_mem_cons.mpr ⟨lw_p46, List.forall_mem_cons.mpr ⟨lw_p47, fun _ h => absurd h List.not_mem_nil⟩⟩⟩⟩⟩⟩⟩⟩⟩⟩⟩⟩⟩⟩⟩⟩
theorem lw_p48 : lw_okq (⟨"HatRoom$Mind", "factsSo", "(LHatRoom$Text;I)I"⟩, 7) := ⟨⟨by decide +kernel, by decide +kernel⟩, List.mem_of_getElem? (i := 201) (by decide +kernel), List.mem_of_getElem? (i := 1076) (by decide +kernel), List.mem_of_getElem? (i := 1077) (by decide +kernel)⟩
theorem lw_p49 : lw_okq (⟨"HatRoom", "isRest", "(III)Z"⟩, 16) := ⟨⟨by decide +kernel, by decide +kernel⟩, List.mem_of_getElem? (i := 26) (by decide +kernel), List.mem_of_getElem? (i := 1122) (by decide +kernel), List.mem_of_getElem? (i := 1123) (by decide +kernel)⟩
theorem lw_p50 : lw_okq (⟨"HatRoom", "share", "(III)I"⟩, 16) := ⟨⟨by decide +kernel, by decide +kernel⟩, List.mem_of_getElem? (i := 26) (by decide +kernel), List.mem_of_getElem? (i := 1126) (by decide +kernel), List.mem_of_getElem? (i := 1127) (by decide +kernel)⟩
theorem lw_p51 : lw_okq (⟨"java/lang/Throwable", "fillInStackTrace", "(I)Ljava/lang/Throwable;"⟩, 6) := ⟨⟨by decide +kernel, by decide +kernel⟩, List.mem_of_getElem? (i := 1213) (by decide +kernel), List.mem_of_getElem? (i := 1211) (by decide +kernel), List.mem_of_getElem? (i := 1212) (by decide +kernel)⟩
theorem lw_p52 : lw_okq (⟨"HatRoomModel", "begins", "()V"⟩, 59) := ⟨⟨by decide +kernel, by decide +kernel⟩, List.mem_of_getElem? (i := 1254) (by decide +kernel), List.mem_of_getElem? (i := 1261) (by decide +kernel), List.mem_of_getElem? (i := 1262) (by decide +kernel)⟩
theorem lw_p53 : lw_okq (⟨"HatRoomModel", "laysWorlds", "()V"⟩, 59) := ⟨⟨by decide +kernel, by decide +kernel⟩, List.mem_of_getElem? (i := 1254) (by decide +kernel), List.mem_of_getElem? (i := 1265) (by decide +kernel), List.mem_of_getElem? (i := 1266) (by decide +kernel)⟩
theorem lw_p54 : lw_okq (⟨"HatRoomModel", "isInStock", "(I)Z"⟩, 59) := ⟨⟨by decide +kernel, by decide +kernel⟩, List.mem_of_getElem? (i := 1254) (by decide +kernel), List.mem_of_getElem? (i := 1269) (by decide +kernel), List.mem_of_getElem? (i := 1270) (by decide +kernel)⟩
theorem lw_p55 : lw_okq (⟨"HatRoomModel", "manyOf", "(II)I"⟩, 59) := ⟨⟨by decide +kernel, by decide +kernel⟩, List.mem_of_getElem? (i := 1254) (by decide +kernel), List.mem_of_getElem? (i := 1273) (by decide +kernel), List.mem_of_getElem? (i := 1274) (by decide +kernel)⟩
theorem lw_p56 : lw_okq (⟨"HatRoomModel", "reads", "(II)V"⟩, 59) := ⟨⟨by decide +kernel, by decide +kernel⟩, List.mem_of_getElem? (i := 1254) (by decide +kernel), List.mem_of_getElem? (i := 1467) (by decide +kernel), List.mem_of_getElem? (i := 1468) (by decide +kernel)⟩
theorem lw_p57 : lw_okq (⟨"HatRoomModel", "token", "()V"⟩, 59) := ⟨⟨by decide +kernel, by decide +kernel⟩, List.mem_of_getElem? (i := 1254) (by decide +kernel), List.mem_of_getElem? (i := 1471) (by decide +kernel), List.mem_of_getElem? (i := 1472) (by decide +kernel)⟩
theorem lw_p58 : lw_okq (⟨"HatRoomModel", "here", "()I"⟩, 59) := ⟨⟨by decide +kernel, by decide +kernel⟩, List.mem_of_getElem? (i := 1254) (by decide +kernel), List.mem_of_getElem? (i := 1475) (by decide +kernel), List.mem_of_getElem? (i := 1476) (by decide +kernel)⟩
theorem lw_p59 : lw_okq (⟨"HatRoomModel", "word", "()I"⟩, 59) := ⟨⟨by decide +kernel, by decide +kernel⟩, List.mem_of_getElem? (i := 1254) (by decide +kernel), List.mem_of_getElem? (i := 1482) (by decide +kernel), List.mem_of_getElem? (i := 1483) (by decide +kernel)⟩
theorem lw_p60 : lw_okq (⟨"HatRoomModel", "name", "()V"⟩, 59) := ⟨⟨by decide +kernel, by decide +kernel⟩, List.mem_of_getElem? (i := 1254) (by decide +kernel), List.mem_of_getElem? (i := 1489) (by decide +kernel), List.mem_of_getElem? (i := 1490) (by decide +kernel)⟩
theorem lw_p61 : lw_okq (⟨"HatRoomModel", "sign", "(I)V"⟩, 59) := ⟨⟨by decide +kernel, by decide +kernel⟩, List.mem_of_getElem? (i := 1254) (by decide +kernel), List.mem_of_getElem? (i := 1497) (by decide +kernel), List.mem_of_getElem? (i := 1498) (by decide +kernel)⟩
theorem lw_p62 : lw_okq (⟨"HatRoomModel", "line", "()V"⟩, 59) := ⟨⟨by decide +kernel, by decide +kernel⟩, List.mem_of_getElem? (i := 1254) (by decide +kernel), List.mem_of_getElem? (i := 1501) (by decide +kernel), List.mem_of_getElem? (i := 1502) (by decide +kernel)⟩
theorem lw_p63 : lw_okq (⟨"HatRoomModel", "wrong", "(I)V"⟩, 59) := ⟨⟨by decide +kernel, by decide +kernel⟩, List.mem_of_getElem? (i := 1254) (by decide +kernel), List.mem_of_getElem? (i := 1505) (by decide +kernel), List.mem_of_getElem? (i := 1506) (by decide +kernel)⟩
def lw_privs_4 : List (MethodName × Nat) := [(⟨"HatRoom$Mind", "factsSo", "(LHatRoom$Text;I)I"⟩, 7), (⟨"HatRoom", "isRest", "(III)Z"⟩, 16), (⟨"HatRoom", "share", "(III)I"⟩, 16), (⟨"java/lang/Throwable", "fillInStackTrace", "(I)Ljava/lang/Throwable;"⟩, 6), (⟨"HatRoomModel", "begins", "()V"⟩, 59), (⟨"HatRoomModel", "laysWorlds", "()V"⟩, 59), (⟨"HatRoomModel", "isInStock", "(I)Z"⟩, 59), (⟨"HatRoomModel", "manyOf", "(II)I"⟩, 59), (⟨"HatRoomModel", "reads", "(II)V"⟩, 59), (⟨"HatRoomModel", "token", "()V"⟩, 59), (⟨"HatRoomModel", "here", "()I"⟩, 59), (⟨"HatRoomModel", "word", "()I"⟩, 59), (⟨"HatRoomModel", "name", "()V"⟩, 59), (⟨"HatRoomModel", "sign", "(I)V"⟩, 59), (⟨"HatRoomModel", "line", "()V"⟩, 59), (⟨"HatRoomModel", "wrong", "(I)V"⟩, 59)]
theorem lw_r4 : ∀ q ∈ lw_privs_4, lw_okq q := List.forall_mem_cons.mpr ⟨lw_p48, List.forall_mem_cons.mpr ⟨lw_p49, List.forall_mem_cons.mpr ⟨lw_p50, List.forall_mem_cons.mpr ⟨lw_p51, List.forall_mem_cons.mpr ⟨lw_p52, List.forall_mem_cons.mpr ⟨lw_p53, List.forall_mem_cons.mpr ⟨lw_p54, List.forall_mem_cons.mpr ⟨lw_p55, List.forall_mem_cons.mpr ⟨lw_p56, List.forall_mem_cons.mpr ⟨lw_p57, List.forall_mem_cons.mpr ⟨lw_p58, List.forall_mem_cons.mpr ⟨lw_p59, List.forall_mem_cons.mpr ⟨lw_p60, List.forall_mem_cons.mpr ⟨lw_p61, List.forall_mem_cons.mpr ⟨lw_p62, List.forall_mem_cons.mpr ⟨lw_p63, fun _ h => absurd h List.not_mem_nil⟩⟩⟩⟩⟩⟩⟩⟩⟩⟩⟩⟩⟩⟩⟩⟩
theorem lw_p64 : lw_okq (⟨"HatRoomModel", "isFull", "(I)Z"⟩, 59) := ⟨⟨by decide +kernel, by decide +kernel⟩, List.mem_of_getElem? (i := 1254) (by decide +kernel), List.mem_of_getElem? (i := 1509) (by decide +kernel), List.mem_of_getElem? (i := 1510) (by decide +kernel)⟩
theorem lw_p65 : lw_okq (⟨"HatRoomModel", "fresher", "(I)I"⟩, 59) := ⟨⟨by decide +kernel, by decide +kernel⟩, List.mem_of_getElem? (i := 1254) (by decide +kernel), List.mem_of_getElem? (i := 1513) (by decide +kernel), List.mem_of_getElem? (i := 1514) (by decide +kernel)⟩
theorem lw_p66 : lw_okq (⟨"HatRoomModel", "fresh", "([III)I"⟩, 59) := ⟨⟨by decide +kernel, by decide +kernel⟩, List.mem_of_getElem? (i := 1254) (by decide +kernel), List.mem_of_getElem? (i := 1517) (by decide +kernel), List.mem_of_getElem? (i := 1518) (by decide +kernel)⟩
theorem lw_p67 : lw_okq (⟨"HatRoomModel", "numeral", "(II)I"⟩, 59) := ⟨⟨by decide +kernel, by decide +kernel⟩, List.mem_of_getElem? (i := 1254) (by decide +kernel), List.mem_of_getElem? (i := 1524) (by decide +kernel), List.mem_of_getElem? (i := 1525) (by decide +kernel)⟩
theorem lw_p68 : lw_okq (⟨"HatRoomModel", "personLine", "()V"⟩, 59) := ⟨⟨by decide +kernel, by decide +kernel⟩, List.mem_of_getElem? (i := 1254) (by decide +kernel), List.mem_of_getElem? (i := 1528) (by decide +kernel), List.mem_of_getElem? (i := 1529) (by decide +kernel)⟩
theorem lw_p69 : lw_okq (⟨"HatRoomModel", "colourAtHand", "()I"⟩, 59) := ⟨⟨by decide +kernel, by decide +kernel⟩, List.mem_of_getElem? (i := 1254) (by decide +kernel), List.mem_of_getElem? (i := 1532) (by decide +kernel), List.mem_of_getElem? (i := 1533) (by decide +kernel)⟩
theorem lw_p70 : lw_okq (⟨"HatRoomModel", "atHand", "([III)I"⟩, 59) := ⟨⟨by decide +kernel, by decide +kernel⟩, List.mem_of_getElem? (i := 1254) (by decide +kernel), List.mem_of_getElem? (i := 1536) (by decide +kernel), List.mem_of_getElem? (i := 1537) (by decide +kernel)⟩
theorem lw_p71 : lw_okq (⟨"HatRoomModel", "goOn", "()V"⟩, 59) := ⟨⟨by decide +kernel, by decide +kernel⟩, List.mem_of_getElem? (i := 1254) (by decide +kernel), List.mem_of_getElem? (i := 1540) (by decide +kernel), List.mem_of_getElem? (i := 1541) (by decide +kernel)⟩
theorem lw_p72 : lw_okq (⟨"HatRoomModel", "seesLine", "()V"⟩, 59) := ⟨⟨by decide +kernel, by decide +kernel⟩, List.mem_of_getElem? (i := 1254) (by decide +kernel), List.mem_of_getElem? (i := 1544) (by decide +kernel), List.mem_of_getElem? (i := 1545) (by decide +kernel)⟩
theorem lw_p73 : lw_okq (⟨"HatRoomModel", "personAtHand", "()I"⟩, 59) := ⟨⟨by decide +kernel, by decide +kernel⟩, List.mem_of_getElem? (i := 1254) (by decide +kernel), List.mem_of_getElem? (i := 1548) (by decide +kernel), List.mem_of_getElem? (i := 1549) (by decide +kernel)⟩
theorem lw_p74 : lw_okq (⟨"HatRoomModel", "eithers", "()V"⟩, 59) := ⟨⟨by decide +kernel, by decide +kernel⟩, List.mem_of_getElem? (i := 1254) (by decide +kernel), List.mem_of_getElem? (i := 1552) (by decide +kernel), List.mem_of_getElem? (i := 1553) (by decide +kernel)⟩
theorem lw_p75 : lw_okq (⟨"HatRoomModel", "boths", "()V"⟩, 59) := ⟨⟨by decide +kernel, by decide +kernel⟩, List.mem_of_getElem? (i := 1254) (by decide +kernel), List.mem_of_getElem? (i := 1556) (by decide +kernel), List.mem_of_getElem? (i := 1557) (by decide +kernel)⟩
theorem lw_p76 : lw_okq (⟨"HatRoomModel", "unless", "()V"⟩, 59) := ⟨⟨by decide +kernel, by decide +kernel⟩, List.mem_of_getElem? (i := 1254) (by decide +kernel), List.mem_of_getElem? (i := 1560) (by decide +kernel), List.mem_of_getElem? (i := 1561) (by decide +kernel)⟩
theorem lw_p77 : lw_okq (⟨"HatRoomModel", "isWord", "(I)Z"⟩, 59) := ⟨⟨by decide +kernel, by decide +kernel⟩, List.mem_of_getElem? (i := 1254) (by decide +kernel), List.mem_of_getElem? (i := 1564) (by decide +kernel), List.mem_of_getElem? (i := 1565) (by decide +kernel)⟩
theorem lw_p78 : lw_okq (⟨"HatRoomModel", "plain", "()V"⟩, 59) := ⟨⟨by decide +kernel, by decide +kernel⟩, List.mem_of_getElem? (i := 1254) (by decide +kernel), List.mem_of_getElem? (i := 1568) (by decide +kernel), List.mem_of_getElem? (i := 1569) (by decide +kernel)⟩
theorem lw_p79 : lw_okq (⟨"HatRoomModel", "isSign", "(I)Z"⟩, 59) := ⟨⟨by decide +kernel, by decide +kernel⟩, List.mem_of_getElem? (i := 1254) (by decide +kernel), List.mem_of_getElem? (i := 1572) (by decide +kernel), List.mem_of_getElem? (i := 1573) (by decide +kernel)⟩
def lw_privs_5 : List (MethodName × Nat) := [(⟨"HatRoomModel", "isFull", "(I)Z"⟩, 59), (⟨"HatRoomModel", "fresher", "(I)I"⟩, 59), (⟨"HatRoomModel", "fresh", "([III)I"⟩, 59), (⟨"HatRoomModel", "numeral", "(II)I"⟩, 59), (⟨"HatRoomModel", "personLine", "()V"⟩, 59), (⟨"HatRoomModel", "colourAtHand", "()I"⟩, 59), (⟨"HatRoomModel", "atHand", "([III)I"⟩, 59), (⟨"HatRoomModel", "goOn", "()V"⟩, 59), (⟨"HatRoomModel", "seesLine", "()V"⟩, 59), (⟨"HatRoomModel", "personAtHand", "()I"⟩, 59), (⟨"HatRoomModel", "eithers", "()V"⟩, 59), (⟨"HatRoomModel", "boths", "()V"⟩, 59), (⟨"HatRoomModel", "unless", "()V"⟩, 59), (⟨"HatRoomModel", "isWord", "(I)Z"⟩, 59), (⟨"HatRoomModel", "plain", "()V"⟩, 59), (⟨"HatRoomModel", "isSign", "(I)Z"⟩, 59)]
theorem lw_r5 : ∀ q ∈ lw_privs_5, lw_okq q := List.forall_mem_cons.mpr ⟨lw_p64, List.forall_mem_cons.mpr ⟨lw_p65, List.forall_mem_cons.mpr ⟨lw_p66, List.forall_mem_cons.mpr ⟨lw_p67, List.forall_mem_cons.mpr ⟨lw_p68, List.forall_mem_cons.mpr ⟨lw_p69, List.forall_mem_cons.mpr ⟨lw_p70, List.forall_mem_cons.mpr ⟨lw_p71, List.forall_mem_cons.mpr ⟨lw_p72, List.forall_mem_cons.mpr ⟨lw_p73, List.forall_mem_cons.mpr ⟨lw_p74, List.forall_mem_cons.mpr ⟨lw_p75, List.forall_mem_cons.mpr ⟨lw_p76, List.forall_mem_cons.mpr ⟨lw_p77, List.forall_mem_cons.mpr ⟨lw_p78, List.forall_mem_cons.mpr ⟨lw_p79, fun _ h => absurd h List.not_mem_nil⟩⟩⟩⟩⟩⟩⟩⟩⟩⟩⟩⟩⟩⟩⟩⟩
theorem lw_p80 : lw_okq (⟨"HatRoomModel", "bracket", "()V"⟩, 59) := ⟨⟨by decide +kernel, by decide +kernel⟩, List.mem_of_getElem? (i := 1254) (by decide +kernel), List.mem_of_getElem? (i := 1576) (by decide +kernel), List.mem_of_getElem? (i := 1577) (by decide +kernel)⟩
theorem lw_p81 : lw_okq (⟨"HatRoomModel", "knot", "()V"⟩, 59) := ⟨⟨by decide +kernel, by decide +kernel⟩, List.mem_of_getElem? (i := 1254) (by decide +kernel), List.mem_of_getElem? (i := 1580) (by decide +kernel), List.mem_of_getElem? (i := 1581) (by decide +kernel)⟩
theorem lw_p82 : lw_okq (⟨"HatRoomModel", "factAtHand", "()I"⟩, 59) := ⟨⟨by decide +kernel, by decide +kernel⟩, List.mem_of_getElem? (i := 1254) (by decide +kernel), List.mem_of_getElem? (i := 1584) (by decide +kernel), List.mem_of_getElem? (i := 1585) (by decide +kernel)⟩
theorem lw_p83 : lw_okq (⟨"HatRoomModel", "puts", "(II)V"⟩, 59) := ⟨⟨by decide +kernel, by decide +kernel⟩, List.mem_of_getElem? (i := 1254) (by decide +kernel), List.mem_of_getElem? (i := 1588) (by decide +kernel), List.mem_of_getElem? (i := 1589) (by decide +kernel)⟩
theorem lw_p84 : lw_okq (⟨"HatRoomModel", "lawLine", "()V"⟩, 59) := ⟨⟨by decide +kernel, by decide +kernel⟩, List.mem_of_getElem? (i := 1254) (by decide +kernel), List.mem_of_getElem? (i := 1592) (by decide +kernel), List.mem_of_getElem? (i := 1593) (by decide +kernel)⟩
theorem lw_p85 : lw_okq (⟨"HatRoomModel", "expression", "()V"⟩, 59) := ⟨⟨by decide +kernel, by decide +kernel⟩, List.mem_of_getElem? (i := 1254) (by decide +kernel), List.mem_of_getElem? (i := 1596) (by decide +kernel), List.mem_of_getElem? (i := 1597) (by decide +kernel)⟩
theorem lw_p86 : lw_okq (⟨"HatRoomModel", "conjunction", "()V"⟩, 59) := ⟨⟨by decide +kernel, by decide +kernel⟩, List.mem_of_getElem? (i := 1254) (by decide +kernel), List.mem_of_getElem? (i := 1600) (by decide +kernel), List.mem_of_getElem? (i := 1601) (by decide +kernel)⟩
theorem lw_p87 : lw_okq (⟨"HatRoomModel", "negation", "()V"⟩, 59) := ⟨⟨by decide +kernel, by decide +kernel⟩, List.mem_of_getElem? (i := 1254) (by decide +kernel), List.mem_of_getElem? (i := 1604) (by decide +kernel), List.mem_of_getElem? (i := 1605) (by decide +kernel)⟩
theorem lw_p88 : lw_okq (⟨"HatRoomModel", "sum", "()V"⟩, 59) := ⟨⟨by decide +kernel, by decide +kernel⟩, List.mem_of_getElem? (i := 1254) (by decide +kernel), List.mem_of_getElem? (i := 1608) (by decide +kernel), List.mem_of_getElem? (i := 1609) (by decide +kernel)⟩
theorem lw_p89 : lw_okq (⟨"HatRoomModel", "product", "()V"⟩, 59) := ⟨⟨by decide +kernel, by decide +kernel⟩, List.mem_of_getElem? (i := 1254) (by decide +kernel), List.mem_of_getElem? (i := 1612) (by decide +kernel), List.mem_of_getElem? (i := 1613) (by decide +kernel)⟩
theorem lw_p90 : lw_okq (⟨"HatRoomModel", "primary", "()V"⟩, 59) := ⟨⟨by decide +kernel, by decide +kernel⟩, List.mem_of_getElem? (i := 1254) (by decide +kernel), List.mem_of_getElem? (i := 1616) (by decide +kernel), List.mem_of_getElem? (i := 1617) (by decide +kernel)⟩
theorem lw_p91 : lw_okq (⟨"HatRoomModel", "isPerson", "(I)Z"⟩, 59) := ⟨⟨by decide +kernel, by decide +kernel⟩, List.mem_of_getElem? (i := 1254) (by decide +kernel), List.mem_of_getElem? (i := 1635) (by decide +kernel), List.mem_of_getElem? (i := 1636) (by decide +kernel)⟩
theorem lw_p92 : lw_okq (⟨"HatRoomModel", "lays", "(I)V"⟩, 59) := ⟨⟨by decide +kernel, by decide +kernel⟩, List.mem_of_getElem? (i := 1254) (by decide +kernel), List.mem_of_getElem? (i := 1639) (by decide +kernel), List.mem_of_getElem? (i := 1640) (by decide +kernel)⟩
theorem lw_p93 : lw_okq (⟨"HatRoomModel", "laysSights", "(I)V"⟩, 59) := ⟨⟨by decide +kernel, by decide +kernel⟩, List.mem_of_getElem? (i := 1254) (by decide +kernel), List.mem_of_getElem? (i := 1643) (by decide +kernel), List.mem_of_getElem? (i := 1644) (by decide +kernel)⟩
theorem lw_p94 : lw_okq (⟨"HatRoomModel", "isHere", "(I)Z"⟩, 59) := ⟨⟨by decide +kernel, by decide +kernel⟩, List.mem_of_getElem? (i := 1254) (by decide +kernel), List.mem_of_getElem? (i := 1647) (by decide +kernel), List.mem_of_getElem? (i := 1648) (by decide +kernel)⟩
theorem lw_p95 : lw_okq (⟨"HatRoomModel", "laysParts", "()V"⟩, 59) := ⟨⟨by decide +kernel, by decide +kernel⟩, List.mem_of_getElem? (i := 1254) (by decide +kernel), List.mem_of_getElem? (i := 1651) (by decide +kernel), List.mem_of_getElem? (i := 1652) (by decide +kernel)⟩
def lw_privs_6 : List (MethodName × Nat) := [(⟨"HatRoomModel", "bracket", "()V"⟩, 59), (⟨"HatRoomModel", "knot", "()V"⟩, 59), (⟨"HatRoomModel", "factAtHand", "()I"⟩, 59), (⟨"HatRoomModel", "puts", "(II)V"⟩, 59), (⟨"HatRoomModel", "lawLine", "()V"⟩, 59), (⟨"HatRoomModel", "expression", "()V"⟩, 59), (⟨"HatRoomModel", "conjunction", "()V"⟩, 59), (⟨"HatRoomModel", "negation", "()V"⟩, 59), (⟨"HatRoomModel", "sum", "()V"⟩, 59), (⟨"HatRoomModel", "product", "()V"⟩, 59), (⟨"HatRoomModel", "primary", "()V"⟩, 59), (⟨"HatRoomModel", "isPerson", "(I)Z"⟩, 59), (⟨"HatRoomModel", "lays", "(I)V"⟩, 59), (⟨"HatRoomModel", "laysSights", "(I)V"⟩, 59), (⟨"HatRoomModel", "isHere", "(I)Z"⟩, 59), (⟨"HatRoomModel", "laysParts", "()V"⟩, 59)]
theorem lw_r6 : ∀ q ∈ lw_privs_6, lw_okq q := List.forall_mem_cons.mpr ⟨lw_p80, List.forall_mem_cons.mpr ⟨lw_p81, List.forall_mem_cons.mpr ⟨lw_p82, List.forall_mem_cons.mpr ⟨lw_p83, List.forall_mem_cons.mpr ⟨lw_p84, List.forall_mem_cons.mpr ⟨lw_p85, List.forall_mem_cons.mpr ⟨lw_p86, List.forall_mem_cons.mpr ⟨lw_p87, List.forall_mem_cons.mpr ⟨lw_p88, List.forall_mem_cons.mpr ⟨lw_p89, List.forall_mem_cons.mpr ⟨lw_p90, List.forall_mem_cons.mpr ⟨lw_p91, List.forall_mem_cons.mpr ⟨lw_p92, List.forall_mem_cons.mpr ⟨lw_p93, List.forall_mem_cons.mpr ⟨lw_p94, List.forall_mem_cons.mpr ⟨lw_p95, fun _ h => absurd h List.not_mem_nil⟩⟩⟩⟩⟩⟩⟩⟩⟩⟩⟩⟩⟩⟩⟩⟩
theorem lw_p96 : lw_okq (⟨"HatRoomModel", "spreads", "(I)Z"⟩, 59) := ⟨⟨by decide +kernel, by decide +kernel⟩, List.mem_of_getElem? (i := 1254) (by decide +kernel), List.mem_of_getElem? (i := 1655) (by decide +kernel), List.mem_of_getElem? (i := 1656) (by decide +kernel)⟩
theorem lw_p97 : lw_okq (⟨"HatRoomModel", "laysFact", "(I)V"⟩, 59) := ⟨⟨by decide +kernel, by decide +kernel⟩, List.mem_of_getElem? (i := 1254) (by decide +kernel), List.mem_of_getElem? (i := 1660) (by decide +kernel), List.mem_of_getElem? (i := 1661) (by decide +kernel)⟩
theorem lw_p98 : lw_okq (⟨"HatRoomModel", "joins", "(I)V"⟩, 59) := ⟨⟨by decide +kernel, by decide +kernel⟩, List.mem_of_getElem? (i := 1254) (by decide +kernel), List.mem_of_getElem? (i := 1664) (by decide +kernel), List.mem_of_getElem? (i := 1665) (by decide +kernel)⟩
theorem lw_p99 : lw_okq (⟨"HatRoomModel", "top", "()I"⟩, 59) := ⟨⟨by decide +kernel, by decide +kernel⟩, List.mem_of_getElem? (i := 1254) (by decide +kernel), List.mem_of_getElem? (i := 1668) (by decide +kernel), List.mem_of_getElem? (i := 1669) (by decide +kernel)⟩
theorem lw_p100 : lw_okq (⟨"HatRoomModel", "knownTo", "(III)V"⟩, 59) := ⟨⟨by decide +kernel, by decide +kernel⟩, List.mem_of_getElem? (i := 1254) (by decide +kernel), List.mem_of_getElem? (i := 1672) (by decide +kernel), List.mem_of_getElem? (i := 1673) (by decide +kernel)⟩
theorem lw_p101 : lw_okq (⟨"HatRoomModel", "knownByAll", "()V"⟩, 59) := ⟨⟨by decide +kernel, by decide +kernel⟩, List.mem_of_getElem? (i := 1254) (by decide +kernel), List.mem_of_getElem? (i := 1676) (by decide +kernel), List.mem_of_getElem? (i := 1677) (by decide +kernel)⟩
theorem lw_p102 : lw_okq (⟨"HatRoomModel", "fills", "(I)V"⟩, 59) := ⟨⟨by decide +kernel, by decide +kernel⟩, List.mem_of_getElem? (i := 1254) (by decide +kernel), List.mem_of_getElem? (i := 1680) (by decide +kernel), List.mem_of_getElem? (i := 1681) (by decide +kernel)⟩
theorem lw_p103 : lw_okq (⟨"HatRoomModel", "knownTogether", "()V"⟩, 59) := ⟨⟨by decide +kernel, by decide +kernel⟩, List.mem_of_getElem? (i := 1254) (by decide +kernel), List.mem_of_getElem? (i := 1684) (by decide +kernel), List.mem_of_getElem? (i := 1685) (by decide +kernel)⟩
theorem lw_p104 : lw_okq (⟨"HatRoomModel", "leafIn", "(III)Z"⟩, 59) := ⟨⟨by decide +kernel, by decide +kernel⟩, List.mem_of_getElem? (i := 1254) (by decide +kernel), List.mem_of_getElem? (i := 1688) (by decide +kernel), List.mem_of_getElem? (i := 1689) (by decide +kernel)⟩
theorem lw_p105 : lw_okq (⟨"HatRoomModel", "coloursOf", "(II)I"⟩, 59) := ⟨⟨by decide +kernel, by decide +kernel⟩, List.mem_of_getElem? (i := 1254) (by decide +kernel), List.mem_of_getElem? (i := 1692) (by decide +kernel), List.mem_of_getElem? (i := 1693) (by decide +kernel)⟩
theorem lw_p106 : lw_okq (⟨"HatRoomModel", "isAlike", "(II)Z"⟩, 59) := ⟨⟨by decide +kernel, by decide +kernel⟩, List.mem_of_getElem? (i := 1254) (by decide +kernel), List.mem_of_getElem? (i := 1696) (by decide +kernel), List.mem_of_getElem? (i := 1697) (by decide +kernel)⟩
theorem lw_p107 : lw_okq (⟨"HatRoomModel", "alikeMany", "(I)I"⟩, 59) := ⟨⟨by decide +kernel, by decide +kernel⟩, List.mem_of_getElem? (i := 1254) (by decide +kernel), List.mem_of_getElem? (i := 1700) (by decide +kernel), List.mem_of_getElem? (i := 1701) (by decide +kernel)⟩
theorem lw_p108 : lw_okq (⟨"HatRoomModel", "isFact", "(I)Z"⟩, 59) := ⟨⟨by decide +kernel, by decide +kernel⟩, List.mem_of_getElem? (i := 1254) (by decide +kernel), List.mem_of_getElem? (i := 1720) (by decide +kernel), List.mem_of_getElem? (i := 1721) (by decide +kernel)⟩
theorem lw_p109 : lw_okq (⟨"HatRoomModel", "putsFact", "(I)V"⟩, 59) := ⟨⟨by decide +kernel, by decide +kernel⟩, List.mem_of_getElem? (i := 1254) (by decide +kernel), List.mem_of_getElem? (i := 1732) (by decide +kernel), List.mem_of_getElem? (i := 1733) (by decide +kernel)⟩
theorem lw_p110 : lw_okq (⟨"HatRoomModel", "hasLaw", "(I)Z"⟩, 59) := ⟨⟨by decide +kernel, by decide +kernel⟩, List.mem_of_getElem? (i := 1254) (by decide +kernel), List.mem_of_getElem? (i := 1744) (by decide +kernel), List.mem_of_getElem? (i := 1745) (by decide +kernel)⟩
theorem lw_p111 : lw_okq (⟨"HatRoomModel", "calls", "(I)V"⟩, 59) := ⟨⟨by decide +kernel, by decide +kernel⟩, List.mem_of_getElem? (i := 1254) (by decide +kernel), List.mem_of_getElem? (i := 1749) (by decide +kernel), List.mem_of_getElem? (i := 1750) (by decide +kernel)⟩
def lw_privs_7 : List (MethodName × Nat) := [(⟨"HatRoomModel", "spreads", "(I)Z"⟩, 59), (⟨"HatRoomModel", "laysFact", "(I)V"⟩, 59), (⟨"HatRoomModel", "joins", "(I)V"⟩, 59), (⟨"HatRoomModel", "top", "()I"⟩, 59), (⟨"HatRoomModel", "knownTo", "(III)V"⟩, 59), (⟨"HatRoomModel", "knownByAll", "()V"⟩, 59), (⟨"HatRoomModel", "fills", "(I)V"⟩, 59), (⟨"HatRoomModel", "knownTogether", "()V"⟩, 59), (⟨"HatRoomModel", "leafIn", "(III)Z"⟩, 59), (⟨"HatRoomModel", "coloursOf", "(II)I"⟩, 59), (⟨"HatRoomModel", "isAlike", "(II)Z"⟩, 59), (⟨"HatRoomModel", "alikeMany", "(I)I"⟩, 59), (⟨"HatRoomModel", "isFact", "(I)Z"⟩, 59), (⟨"HatRoomModel", "putsFact", "(I)V"⟩, 59), (⟨"HatRoomModel", "hasLaw", "(I)Z"⟩, 59), (⟨"HatRoomModel", "calls", "(I)V"⟩, 59)]
theorem lw_r7 : ∀ q ∈ lw_privs_7, lw_okq q := List.forall_mem_cons.mpr ⟨lw_p96, List.forall_mem_cons.mpr ⟨lw_p97, List.forall_mem_cons.mpr ⟨lw_p98, List.forall_mem_cons.mpr ⟨lw_p99, List.forall_mem_cons.mpr ⟨lw_p100, List.forall_mem_cons.mpr ⟨lw_p101, List.forall_mem_cons.mpr ⟨lw_p102, List.forall_mem_cons.mpr ⟨lw_p103, List.forall_mem_cons.mpr ⟨lw_p104, List.forall_mem_cons.mpr ⟨lw_p105, List.forall_mem_cons.mpr ⟨lw_p106, List.forall_mem_cons.mpr ⟨lw_p107, List.forall_mem_cons.mpr ⟨lw_p108, List.forall_mem_cons.mpr ⟨lw_p109, List.forall_mem_cons.mpr ⟨lw_p110, List.forall_mem_cons.mpr ⟨lw_p111, fun _ h => absurd h List.not_mem_nil⟩⟩⟩⟩⟩⟩⟩⟩⟩⟩⟩⟩⟩⟩⟩⟩
theorem lw_p112 : lw_okq (⟨"HatRoomModel", "leftMany", "(I)I"⟩, 59) := ⟨⟨by decide +kernel, by decide +kernel⟩, List.mem_of_getElem? (i := 1254) (by decide +kernel), List.mem_of_getElem? (i := 1753) (by decide +kernel), List.mem_of_getElem? (i := 1754) (by decide +kernel)⟩
theorem lw_p113 : lw_okq (⟨"HatRoomModel", "knowers", "()I"⟩, 59) := ⟨⟨by decide +kernel, by decide +kernel⟩, List.mem_of_getElem? (i := 1254) (by decide +kernel), List.mem_of_getElem? (i := 1760) (by decide +kernel), List.mem_of_getElem? (i := 1761) (by decide +kernel)⟩
theorem lw_p114 : lw_okq (⟨"HatRoomModel", "goes", "(I)Z"⟩, 59) := ⟨⟨by decide +kernel, by decide +kernel⟩, List.mem_of_getElem? (i := 1254) (by decide +kernel), List.mem_of_getElem? (i := 1764) (by decide +kernel), List.mem_of_getElem? (i := 1765) (by decide +kernel)⟩
theorem lw_p115 : lw_okq (⟨"HatRoomModel", "works", "(I)Z"⟩, 59) := ⟨⟨by decide +kernel, by decide +kernel⟩, List.mem_of_getElem? (i := 1254) (by decide +kernel), List.mem_of_getElem? (i := 1768) (by decide +kernel), List.mem_of_getElem? (i := 1769) (by decide +kernel)⟩
theorem lw_p116 : lw_okq (⟨"HatRoomModel", "keepNow", "()V"⟩, 59) := ⟨⟨by decide +kernel, by decide +kernel⟩, List.mem_of_getElem? (i := 1254) (by decide +kernel), List.mem_of_getElem? (i := 1782) (by decide +kernel), List.mem_of_getElem? (i := 1783) (by decide +kernel)⟩
theorem lw_p117 : lw_okq (⟨"HatRoomModel", "copies", "(II)V"⟩, 59) := ⟨⟨by decide +kernel, by decide +kernel⟩, List.mem_of_getElem? (i := 1254) (by decide +kernel), List.mem_of_getElem? (i := 1786) (by decide +kernel), List.mem_of_getElem? (i := 1787) (by decide +kernel)⟩
theorem lw_p118 : lw_okq (⟨"HatRoomModel", "tells", "(II)Z"⟩, 59) := ⟨⟨by decide +kernel, by decide +kernel⟩, List.mem_of_getElem? (i := 1254) (by decide +kernel), List.mem_of_getElem? (i := 1790) (by decide +kernel), List.mem_of_getElem? (i := 1791) (by decide +kernel)⟩
theorem lw_p119 : lw_okq (⟨"HatRoomModel", "asks", "(IZ)I"⟩, 59) := ⟨⟨by decide +kernel, by decide +kernel⟩, List.mem_of_getElem? (i := 1254) (by decide +kernel), List.mem_of_getElem? (i := 1798) (by decide +kernel), List.mem_of_getElem? (i := 1799) (by decide +kernel)⟩
theorem lw_p120 : lw_okq (⟨"HatRoomModel", "hushOf", "(I)I"⟩, 59) := ⟨⟨by decide +kernel, by decide +kernel⟩, List.mem_of_getElem? (i := 1254) (by decide +kernel), List.mem_of_getElem? (i := 1802) (by decide +kernel), List.mem_of_getElem? (i := 1803) (by decide +kernel)⟩
theorem lw_p121 : lw_okq (⟨"HatRoomModel", "within", "(IIII)I"⟩, 59) := ⟨⟨by decide +kernel, by decide +kernel⟩, List.mem_of_getElem? (i := 1254) (by decide +kernel), List.mem_of_getElem? (i := 1806) (by decide +kernel), List.mem_of_getElem? (i := 1807) (by decide +kernel)⟩
theorem lw_p122 : lw_okq (⟨"HatRoomModel", "isHushed", "(IIZ)Z"⟩, 59) := ⟨⟨by decide +kernel, by decide +kernel⟩, List.mem_of_getElem? (i := 1254) (by decide +kernel), List.mem_of_getElem? (i := 1812) (by decide +kernel), List.mem_of_getElem? (i := 1813) (by decide +kernel)⟩
theorem lw_p123 : lw_okq (⟨"HatRoomModel", "passes", "(IZ)V"⟩, 59) := ⟨⟨by decide +kernel, by decide +kernel⟩, List.mem_of_getElem? (i := 1254) (by decide +kernel), List.mem_of_getElem? (i := 1826) (by decide +kernel), List.mem_of_getElem? (i := 1827) (by decide +kernel)⟩
theorem lw_p124 : lw_okq (⟨"HatRoomModel", "goesOn", "(I)V"⟩, 59) := ⟨⟨by decide +kernel, by decide +kernel⟩, List.mem_of_getElem? (i := 1254) (by decide +kernel), List.mem_of_getElem? (i := 1834) (by decide +kernel), List.mem_of_getElem? (i := 1835) (by decide +kernel)⟩
theorem lw_p125 : lw_okq (⟨"HatRoomModel", "taught", "(I)I"⟩, 59) := ⟨⟨by decide +kernel, by decide +kernel⟩, List.mem_of_getElem? (i := 1254) (by decide +kernel), List.mem_of_getElem? (i := 1854) (by decide +kernel), List.mem_of_getElem? (i := 1855) (by decide +kernel)⟩
theorem lw_p126 : lw_okq (⟨"HatRoomModel", "areSo", "(I)Z"⟩, 59) := ⟨⟨by decide +kernel, by decide +kernel⟩, List.mem_of_getElem? (i := 1254) (by decide +kernel), List.mem_of_getElem? (i := 1858) (by decide +kernel), List.mem_of_getElem? (i := 1859) (by decide +kernel)⟩
theorem lw_p127 : lw_okq (⟨"HatRoomModel", "wouldKnow", "(II)Z"⟩, 59) := ⟨⟨by decide +kernel, by decide +kernel⟩, List.mem_of_getElem? (i := 1254) (by decide +kernel), List.mem_of_getElem? (i := 1862) (by decide +kernel), List.mem_of_getElem? (i := 1863) (by decide +kernel)⟩
def lw_privs_8 : List (MethodName × Nat) := [(⟨"HatRoomModel", "leftMany", "(I)I"⟩, 59), (⟨"HatRoomModel", "knowers", "()I"⟩, 59), (⟨"HatRoomModel", "goes", "(I)Z"⟩, 59), (⟨"HatRoomModel", "works", "(I)Z"⟩, 59), (⟨"HatRoomModel", "keepNow", "()V"⟩, 59), (⟨"HatRoomModel", "copies", "(II)V"⟩, 59), (⟨"HatRoomModel", "tells", "(II)Z"⟩, 59), (⟨"HatRoomModel", "asks", "(IZ)I"⟩, 59), (⟨"HatRoomModel", "hushOf", "(I)I"⟩, 59), (⟨"HatRoomModel", "within", "(IIII)I"⟩, 59), (⟨"HatRoomModel", "isHushed", "(IIZ)Z"⟩, 59), (⟨"HatRoomModel", "passes", "(IZ)V"⟩, 59), (⟨"HatRoomModel", "goesOn", "(I)V"⟩, 59), (⟨"HatRoomModel", "taught", "(I)I"⟩, 59), (⟨"HatRoomModel", "areSo", "(I)Z"⟩, 59), (⟨"HatRoomModel", "wouldKnow", "(II)Z"⟩, 59)]
theorem lw_r8 : ∀ q ∈ lw_privs_8, lw_okq q := List.forall_mem_cons.mpr ⟨lw_p112, List.forall_mem_cons.mpr ⟨lw_p113, List.forall_mem_cons.mpr ⟨lw_p114, List.forall_mem_cons.mpr ⟨lw_p115, List.forall_mem_cons.mpr ⟨lw_p116, List.forall_mem_cons.mpr ⟨lw_p117, List.forall_mem_cons.mpr ⟨lw_p118, List.forall_mem_cons.mpr ⟨lw_p119, List.forall_mem_cons.mpr ⟨lw_p120, List.forall_mem_cons.mpr ⟨lw_p121, List.forall_mem_cons.mpr ⟨lw_p122, List.forall_mem_cons.mpr ⟨lw_p123, List.forall_mem_cons.mpr ⟨lw_p124, List.forall_mem_cons.mpr ⟨lw_p125, List.forall_mem_cons.mpr ⟨lw_p126, List.forall_mem_cons.mpr ⟨lw_p127, fun _ h => absurd h List.not_mem_nil⟩⟩⟩⟩⟩⟩⟩⟩⟩⟩⟩⟩⟩⟩⟩⟩
theorem lw_p128 : lw_okq (⟨"HatRoomModel", "worstBy", "(II)I"⟩, 59) := ⟨⟨by decide +kernel, by decide +kernel⟩, List.mem_of_getElem? (i := 1254) (by decide +kernel), List.mem_of_getElem? (i := 1874) (by decide +kernel), List.mem_of_getElem? (i := 1875) (by decide +kernel)⟩
theorem lw_p129 : lw_okq (⟨"HatRoomModel", "manyBy", "(III)I"⟩, 59) := ⟨⟨by decide +kernel, by decide +kernel⟩, List.mem_of_getElem? (i := 1254) (by decide +kernel), List.mem_of_getElem? (i := 1878) (by decide +kernel), List.mem_of_getElem? (i := 1879) (by decide +kernel)⟩
theorem lw_p130 : lw_okq (⟨"HatRoomModel", "areTwo", "(II)Z"⟩, 59) := ⟨⟨by decide +kernel, by decide +kernel⟩, List.mem_of_getElem? (i := 1254) (by decide +kernel), List.mem_of_getElem? (i := 1898) (by decide +kernel), List.mem_of_getElem? (i := 1899) (by decide +kernel)⟩
theorem lw_p131 : lw_okq (⟨"HatRoomModel", "restOf", "(III)I"⟩, 59) := ⟨⟨by decide +kernel, by decide +kernel⟩, List.mem_of_getElem? (i := 1254) (by decide +kernel), List.mem_of_getElem? (i := 1906) (by decide +kernel), List.mem_of_getElem? (i := 1907) (by decide +kernel)⟩
theorem lw_p132 : lw_okq (⟨"HatRoomModel", "isRest", "(III)Z"⟩, 59) := ⟨⟨by decide +kernel, by decide +kernel⟩, List.mem_of_getElem? (i := 1254) (by decide +kernel), List.mem_of_getElem? (i := 1910) (by decide +kernel), List.mem_of_getElem? (i := 1911) (by decide +kernel)⟩
theorem lw_p133 : lw_okq (⟨"HatRoomModel", "hasOf", "(III)I"⟩, 59) := ⟨⟨by decide +kernel, by decide +kernel⟩, List.mem_of_getElem? (i := 1254) (by decide +kernel), List.mem_of_getElem? (i := 1914) (by decide +kernel), List.mem_of_getElem? (i := 1915) (by decide +kernel)⟩
theorem lw_p134 : lw_okq (⟨"HatRoomModel", "knowMany", "()I"⟩, 59) := ⟨⟨by decide +kernel, by decide +kernel⟩, List.mem_of_getElem? (i := 1254) (by decide +kernel), List.mem_of_getElem? (i := 1946) (by decide +kernel), List.mem_of_getElem? (i := 1947) (by decide +kernel)⟩
theorem lw_p135 : lw_okq (⟨"HatRoomModel", "prizes", "()I"⟩, 59) := ⟨⟨by decide +kernel, by decide +kernel⟩, List.mem_of_getElem? (i := 1254) (by decide +kernel), List.mem_of_getElem? (i := 1950) (by decide +kernel), List.mem_of_getElem? (i := 1951) (by decide +kernel)⟩
def lw_privs_9 : List (MethodName × Nat) := [(⟨"HatRoomModel", "worstBy", "(II)I"⟩, 59), (⟨"HatRoomModel", "manyBy", "(III)I"⟩, 59), (⟨"HatRoomModel", "areTwo", "(II)Z"⟩, 59), (⟨"HatRoomModel", "restOf", "(III)I"⟩, 59), (⟨"HatRoomModel", "isRest", "(III)Z"⟩, 59), (⟨"HatRoomModel", "hasOf", "(III)I"⟩, 59), (⟨"HatRoomModel", "knowMany", "()I"⟩, 59), (⟨"HatRoomModel", "prizes", "()I"⟩, 59)]
theorem lw_r9 : ∀ q ∈ lw_privs_9, lw_okq q := List.forall_mem_cons.mpr ⟨lw_p128, List.forall_mem_cons.mpr ⟨lw_p129, List.forall_mem_cons.mpr ⟨lw_p130, List.forall_mem_cons.mpr ⟨lw_p131, List.forall_mem_cons.mpr ⟨lw_p132, List.forall_mem_cons.mpr ⟨lw_p133, List.forall_mem_cons.mpr ⟨lw_p134, List.forall_mem_cons.mpr ⟨lw_p135, fun _ h => absurd h List.not_mem_nil⟩⟩⟩⟩⟩⟩⟩⟩
def lw_privs : List (MethodName × Nat) := lw_privs_1 ++ (lw_privs_2 ++ (lw_privs_3 ++ (lw_privs_4 ++ (lw_privs_5 ++ (lw_privs_6 ++ (lw_privs_7 ++ (lw_privs_8 ++ (lw_privs_9))))))))
def lw_tbl : List Cond := k2_sels lw_privs ++ tables_1
theorem lw_privs_ok : ∀ q ∈ lw_privs, lw_okq q := by
  show ∀ q ∈ lw_privs_1 ++ (lw_privs_2 ++ (lw_privs_3 ++ (lw_privs_4 ++ (lw_privs_5 ++ (lw_privs_6 ++ (lw_privs_7 ++ (lw_privs_8 ++ (lw_privs_9)))))))), lw_okq q
  exact List.forall_mem_append.mpr ⟨lw_r1, List.forall_mem_append.mpr ⟨lw_r2, List.forall_mem_append.mpr ⟨lw_r3, List.forall_mem_append.mpr ⟨lw_r4, List.forall_mem_append.mpr ⟨lw_r5, List.forall_mem_append.mpr ⟨lw_r6, List.forall_mem_append.mpr ⟨lw_r7, List.forall_mem_append.mpr ⟨lw_r8, lw_r9⟩⟩⟩⟩⟩⟩⟩⟩

def lw_g : List Cond := lw_tbl.filter goodWord
theorem lw_gin {w : Cond} (i : Nat) (h : tables_1[i]? = some w) (hg : goodWord w = true) : w ∈ lw_g := List.mem_filter.mpr ⟨List.mem_append_right _ (List.mem_of_getElem? h), hg⟩
theorem lw_gsel {y : MethodName} {n : Nat} (i : Nat) (h : lw_privs[i]? = some (y, n)) : Cond.selects y.cls y y ∈ lw_g := List.mem_filter.mpr ⟨List.mem_append_left _ (List.mem_map.mpr ⟨(y, n), List.mem_of_getElem? h, rfl⟩), rfl⟩
theorem lw_gG {w : Cond} (h : w ∈ lw_g) : w ∈ lw_g ∧ ((w.onTables && w.keeps) = true ∨ ∃ ty, w = .arrayClass ty) := ⟨h, good_of_word (List.mem_filter.mp h).2⟩
theorem lw_gT {w : Cond} (h : w ∈ lw_g) : w ∈ lw_tbl := (List.mem_filter.mp h).1

def RX0 : String := "HatRoom$Course"
def TX0 : u_T := fun k => match k with
  | 0 => ("HatRoom$Course", "mind", "LHatRoom$Mind;", true)
  | 1 => ("HatRoom$Course", "laws", "LHatRoom$Laws;", true)
  | 2 => ("HatRoom$Course", "text", "LHatRoom$Text;", false)
  | 3 => ("HatRoom$Course", "drawn", "Z", false)
  | 4 => ("HatRoom$Course", "otherwise", "I", false)
  | _ => ("HatRoom$Course", "mute", "I", false)
def tyX0 : Nat → FieldType := fun k => match k with
  | 0 => .object "HatRoom$Mind"
  | 1 => .object "HatRoom$Laws"
  | 2 => .object "HatRoom$Text"
  | 3 => .boolean
  | 4 => .int
  | _ => .int
theorem nmX0 : ∀ a, a < 6 → ∀ b, b < 6 → a ≠ b → (TX0 a).2.1 ≠ (TX0 b).2.1 := by decide +kernel
theorem tyX0_ok : ∀ k, k < 6 → parseFieldDescriptor (TX0 k).2.2.1 = some (tyX0 k) := by decide +kernel
abbrev cX0_init : ByteArray := prog_2_method_1_code
def yX0_init : MethodName := ⟨RX0, "<init>", "(LHatRoom$Mind;LHatRoom$Laws;LHatRoom$Text;)V"⟩
abbrev cX0_set : ByteArray := prog_2_method_2_code
def yX0_set : MethodName := ⟨RX0, "set", "(LHatRoom$Text;ZII)V"⟩
abbrev cX0_pass : ByteArray := prog_2_method_3_code
def yX0_pass : MethodName := ⟨RX0, "pass", "(LHatRoom$State;I)V"⟩
abbrev cX0_passOne : ByteArray := prog_2_method_4_code
def yX0_passOne : MethodName := ⟨RX0, "passOne", "(LHatRoom$State;)V"⟩
abbrev cX0_hear : ByteArray := prog_2_method_5_code
def yX0_hear : MethodName := ⟨RX0, "hear", "(LHatRoom$State;I)Z"⟩
abbrev cX0_askAll : ByteArray := prog_2_method_6_code
def yX0_askAll : MethodName := ⟨RX0, "askAll", "(LHatRoom$State;)I"⟩
abbrev cX0_speaks : ByteArray := prog_2_method_7_code
def yX0_speaks : MethodName := ⟨RX0, "speaks", "(LHatRoom$State;I)Z"⟩
abbrev cX0_reward : ByteArray := prog_2_method_8_code
def yX0_reward : MethodName := ⟨RX0, "reward", "(LHatRoom$State;II)V"⟩
abbrev cX0_hushOf : ByteArray := prog_2_method_9_code
def yX0_hushOf : MethodName := ⟨RX0, "hushOf", "(LHatRoom$State;II)I"⟩
def RX1 : String := "HatRoom$Formula"
def TX1 : u_T := fun k => match k with
  | 0 => ("HatRoom$Formula", "tokens", "LHatRoom$Tokens;", true)
  | 1 => ("HatRoom$Formula", "waiting", "[I", true)
  | 2 => ("HatRoom$Formula", "whose", "[I", true)
  | 3 => ("HatRoom$Formula", "waits", "I", false)
  | 4 => ("HatRoom$Formula", "operands", "[I", true)
  | 5 => ("HatRoom$Formula", "height", "I", false)
  | 6 => ("HatRoom$Formula", "open", "I", false)
  | 7 => ("HatRoom$Formula", "knots", "LHatRoom$Knots;", false)
  | _ => ("HatRoom$Formula", "needs", "J", false)
def tyX1 : Nat → FieldType := fun k => match k with
  | 0 => .object "HatRoom$Tokens"
  | 1 => .array .int
  | 2 => .array .int
  | 3 => .int
  | 4 => .array .int
  | 5 => .int
  | 6 => .int
  | 7 => .object "HatRoom$Knots"
  | _ => .long
theorem nmX1 : ∀ a, a < 9 → ∀ b, b < 9 → a ≠ b → (TX1 a).2.1 ≠ (TX1 b).2.1 := by decide +kernel
theorem tyX1_ok : ∀ k, k < 9 → parseFieldDescriptor (TX1 k).2.2.1 = some (tyX1 k) := by decide +kernel
abbrev cX1_init : ByteArray := prog_3_method_1_code
def yX1_init : MethodName := ⟨RX1, "<init>", "(LHatRoom$Tokens;)V"⟩
abbrev cX1_read : ByteArray := prog_3_method_2_code
def yX1_read : MethodName := ⟨RX1, "read", "(LHatRoom$Text;Z)I"⟩
abbrev cX1_wrong : ByteArray := prog_3_method_3_code
def yX1_wrong : MethodName := ⟨RX1, "wrong", "(I)I"⟩
abbrev cX1_mayBegin : ByteArray := prog_3_method_4_code
def yX1_mayBegin : MethodName := ⟨RX1, "mayBegin", "()Z"⟩
abbrev cX1_readFact : ByteArray := prog_3_method_5_code
def yX1_readFact : MethodName := ⟨RX1, "readFact", "(LHatRoom$Text;I)I"⟩
abbrev cX1_readValue : ByteArray := prog_3_method_6_code
def yX1_readValue : MethodName := ⟨RX1, "readValue", "(I)I"⟩
abbrev cX1_readEither : ByteArray := prog_3_method_7_code
def yX1_readEither : MethodName := ⟨RX1, "readEither", "(II)I"⟩
abbrev cX1_readKnows : ByteArray := prog_3_method_8_code
def yX1_readKnows : MethodName := ⟨RX1, "readKnows", "(LHatRoom$Text;)I"⟩
abbrev cX1_readLeaf : ByteArray := prog_3_method_9_code
def yX1_readLeaf : MethodName := ⟨RX1, "readLeaf", "(LHatRoom$Text;I)I"⟩
abbrev cX1_readSign : ByteArray := prog_3_method_10_code
def yX1_readSign : MethodName := ⟨RX1, "readSign", "(Z)I"⟩
abbrev cX1_strengthOf : ByteArray := prog_3_method_11_code
def yX1_strengthOf : MethodName := ⟨RX1, "strengthOf", "(I)I"⟩
abbrev cX1_hold : ByteArray := prog_3_method_12_code
def yX1_hold : MethodName := ⟨RX1, "hold", "(III)I"⟩
abbrev cX1_push : ByteArray := prog_3_method_13_code
def yX1_push : MethodName := ⟨RX1, "push", "(I)V"⟩
abbrev cX1_pop : ByteArray := prog_3_method_14_code
def yX1_pop : MethodName := ⟨RX1, "pop", "()I"⟩
abbrev cX1_tieDownTo : ByteArray := prog_3_method_15_code
def yX1_tieDownTo : MethodName := ⟨RX1, "tieDownTo", "(I)V"⟩
def RX2 : String := "HatRoom$Knots"
def TX2 : u_T := fun k => match k with
  | 0 => ("HatRoom$Knots", "kinds", "[I", true)
  | 1 => ("HatRoom$Knots", "xs", "[I", true)
  | 2 => ("HatRoom$Knots", "ys", "[I", true)
  | 3 => ("HatRoom$Knots", "size", "I", false)
  | _ => ("HatRoom$Knots", "begun", "I", false)
def tyX2 : Nat → FieldType := fun k => match k with
  | 0 => .array .int
  | 1 => .array .int
  | 2 => .array .int
  | 3 => .int
  | _ => .int
theorem nmX2 : ∀ a, a < 5 → ∀ b, b < 5 → a ≠ b → (TX2 a).2.1 ≠ (TX2 b).2.1 := by decide +kernel
theorem tyX2_ok : ∀ k, k < 5 → parseFieldDescriptor (TX2 k).2.2.1 = some (tyX2 k) := by decide +kernel
abbrev cX2_init : ByteArray := prog_4_method_1_code
def yX2_init : MethodName := ⟨RX2, "<init>", "()V"⟩
abbrev cX2_add : ByteArray := prog_4_method_2_code
def yX2_add : MethodName := ⟨RX2, "add", "(III)I"⟩
def RX3 : String := "HatRoom$Laws"
def TX3 : u_T := fun k => match k with
  | _ => ("HatRoom$Laws", "values", "[J", true)
def tyX3 : Nat → FieldType := fun k => match k with
  | _ => .array .long
theorem nmX3 : ∀ a, a < 1 → ∀ b, b < 1 → a ≠ b → (TX3 a).2.1 ≠ (TX3 b).2.1 := by decide +kernel
theorem tyX3_ok : ∀ k, k < 1 → parseFieldDescriptor (TX3 k).2.2.1 = some (tyX3 k) := by decide +kernel
abbrev cX3_init : ByteArray := prog_5_method_1_code
def yX3_init : MethodName := ⟨RX3, "<init>", "()V"⟩
abbrev cX3_valueOf : ByteArray := prog_5_method_2_code
def yX3_valueOf : MethodName := ⟨RX3, "valueOf", "(LHatRoom$Text;ILHatRoom$State;II)J"⟩
abbrev cX3_nameValue : ByteArray := prog_5_method_3_code
def yX3_nameValue : MethodName := ⟨RX3, "nameValue", "(ILHatRoom$State;II)J"⟩
abbrev cX3_work : ByteArray := prog_5_method_4_code
def yX3_work : MethodName := ⟨RX3, "work", "(IJJ)J"⟩
abbrev cX3_truth : ByteArray := prog_5_method_5_code
def yX3_truth : MethodName := ⟨RX3, "truth", "(Z)J"⟩
def RX4 : String := "HatRoom$Mind"
def TX4 : u_T := fun k => match k with
  | 0 => ("HatRoom$Mind", "stamps", "[I", true)
  | 1 => ("HatRoom$Mind", "pool", "[I", true)
  | 2 => ("HatRoom$Mind", "turn", "I", false)
  | 3 => ("HatRoom$Mind", "rows", "[J", true)
  | 4 => ("HatRoom$Mind", "heads", "[I", true)
  | 5 => ("HatRoom$Mind", "joined", "Z", false)
  | _ => ("HatRoom$Mind", "barred", "[Z", true)
def tyX4 : Nat → FieldType := fun k => match k with
  | 0 => .array .int
  | 1 => .array .int
  | 2 => .int
  | 3 => .array .long
  | 4 => .array .int
  | 5 => .boolean
  | _ => .array .boolean
theorem nmX4 : ∀ a, a < 7 → ∀ b, b < 7 → a ≠ b → (TX4 a).2.1 ≠ (TX4 b).2.1 := by decide +kernel
theorem tyX4_ok : ∀ k, k < 7 → parseFieldDescriptor (TX4 k).2.2.1 = some (tyX4 k) := by decide +kernel
abbrev cX4_init : ByteArray := prog_6_method_1_code
def yX4_init : MethodName := ⟨RX4, "<init>", "()V"⟩
abbrev cX4_bit : ByteArray := prog_6_method_2_code
def yX4_bit : MethodName := ⟨RX4, "bit", "(II)I"⟩
abbrev cX4_set : ByteArray := prog_6_method_3_code
def yX4_set : MethodName := ⟨RX4, "set", "(IIZ)V"⟩
abbrev cX4_judge : ByteArray := prog_6_method_4_code
def yX4_judge : MethodName := ⟨RX4, "judge", "(LHatRoom$Text;LHatRoom$State;J)V"⟩
abbrev cX4_wears : ByteArray := prog_6_method_5_code
def yX4_wears : MethodName := ⟨RX4, "wears", "(LHatRoom$State;III)V"⟩
abbrev cX4_hasMany : ByteArray := prog_6_method_6_code
def yX4_hasMany : MethodName := ⟨RX4, "hasMany", "(LHatRoom$State;III)V"⟩
abbrev cX4_both : ByteArray := prog_6_method_7_code
def yX4_both : MethodName := ⟨RX4, "both", "(LHatRoom$State;III)V"⟩
abbrev cX4_either : ByteArray := prog_6_method_8_code
def yX4_either : MethodName := ⟨RX4, "either", "(LHatRoom$State;III)V"⟩
abbrev cX4_isNot : ByteArray := prog_6_method_9_code
def yX4_isNot : MethodName := ⟨RX4, "isNot", "(LHatRoom$State;II)V"⟩
abbrev cX4_knowsOwn : ByteArray := prog_6_method_10_code
def yX4_knowsOwn : MethodName := ⟨RX4, "knowsOwn", "(LHatRoom$State;II)V"⟩
abbrev cX4_stampFalse : ByteArray := prog_6_method_11_code
def yX4_stampFalse : MethodName := ⟨RX4, "stampFalse", "(LHatRoom$State;II)V"⟩
abbrev cX4_knowsThat : ByteArray := prog_6_method_12_code
def yX4_knowsThat : MethodName := ⟨RX4, "knowsThat", "(LHatRoom$State;III)V"⟩
abbrev cX4_knownByAll : ByteArray := prog_6_method_13_code
def yX4_knownByAll : MethodName := ⟨RX4, "knownByAll", "(LHatRoom$State;II)V"⟩
abbrev cX4_sharedByAll : ByteArray := prog_6_method_14_code
def yX4_sharedByAll : MethodName := ⟨RX4, "sharedByAll", "(LHatRoom$State;II)V"⟩
abbrev cX4_join : ByteArray := prog_6_method_15_code
def yX4_join : MethodName := ⟨RX4, "join", "(LHatRoom$State;)I"⟩
abbrev cX4_headOf : ByteArray := prog_6_method_16_code
def yX4_headOf : MethodName := ⟨RX4, "headOf", "(I)I"⟩
abbrev cX4_keepOnly : ByteArray := prog_6_method_17_code
def yX4_keepOnly : MethodName := ⟨RX4, "keepOnly", "(LHatRoom$State;I)V"⟩
abbrev cX4_howMany : ByteArray := prog_6_method_18_code
def yX4_howMany : MethodName := ⟨RX4, "howMany", "(LHatRoom$State;I)I"⟩
abbrev cX4_sureness : ByteArray := prog_6_method_19_code
def yX4_sureness : MethodName := ⟨RX4, "sureness", "(LHatRoom$State;II)I"⟩
abbrev cX4_judgeOwn : ByteArray := prog_6_method_20_code
def yX4_judgeOwn : MethodName := ⟨RX4, "judgeOwn", "(LHatRoom$State;)V"⟩
abbrev cX4_fewestFacts : ByteArray := prog_6_method_21_code
def yX4_fewestFacts : MethodName := ⟨RX4, "fewestFacts", "(LHatRoom$Text;LHatRoom$State;I)I"⟩
abbrev cX4_factsSo : ByteArray := prog_6_method_22_code
def yX4_factsSo : MethodName := ⟨RX4, "factsSo", "(LHatRoom$Text;I)I"⟩
abbrev cX4_barRivals : ByteArray := prog_6_method_23_code
def yX4_barRivals : MethodName := ⟨RX4, "barRivals", "(LHatRoom$Text;LHatRoom$State;I)V"⟩
abbrev cX4_isRival : ByteArray := prog_6_method_24_code
def yX4_isRival : MethodName := ⟨RX4, "isRival", "(LHatRoom$State;II)Z"⟩
def RX5 : String := "HatRoom$Names"
def TX5 : u_T := fun k => match k with
  | 0 => ("HatRoom$Names", "codes", "[I", true)
  | _ => ("HatRoom$Names", "size", "I", false)
def tyX5 : Nat → FieldType := fun k => match k with
  | 0 => .array .int
  | _ => .int
theorem nmX5 : ∀ a, a < 2 → ∀ b, b < 2 → a ≠ b → (TX5 a).2.1 ≠ (TX5 b).2.1 := by decide +kernel
theorem tyX5_ok : ∀ k, k < 2 → parseFieldDescriptor (TX5 k).2.2.1 = some (tyX5 k) := by decide +kernel
abbrev cX5_init : ByteArray := prog_7_method_1_code
def yX5_init : MethodName := ⟨RX5, "<init>", "(I)V"⟩
abbrev cX5_isFull : ByteArray := prog_7_method_2_code
def yX5_isFull : MethodName := ⟨RX5, "isFull", "()Z"⟩
abbrev cX5_find : ByteArray := prog_7_method_3_code
def yX5_find : MethodName := ⟨RX5, "find", "(I)I"⟩
abbrev cX5_add : ByteArray := prog_7_method_4_code
def yX5_add : MethodName := ⟨RX5, "add", "(I)V"⟩
abbrev cX5_has : ByteArray := prog_7_method_5_code
def yX5_has : MethodName := ⟨RX5, "has", "(I)Z"⟩
def RX6 : String := "HatRoom$Reader"
def TX6 : u_T := fun k => match k with
  | 0 => ("HatRoom$Reader", "tokens", "LHatRoom$Tokens;", true)
  | _ => ("HatRoom$Reader", "formula", "LHatRoom$Formula;", true)
def tyX6 : Nat → FieldType := fun k => match k with
  | 0 => .object "HatRoom$Tokens"
  | _ => .object "HatRoom$Formula"
theorem nmX6 : ∀ a, a < 2 → ∀ b, b < 2 → a ≠ b → (TX6 a).2.1 ≠ (TX6 b).2.1 := by decide +kernel
theorem tyX6_ok : ∀ k, k < 2 → parseFieldDescriptor (TX6 k).2.2.1 = some (tyX6 k) := by decide +kernel
abbrev cX6_init : ByteArray := prog_8_method_1_code
def yX6_init : MethodName := ⟨RX6, "<init>", "(LHatRoom$Tokens;)V"⟩
abbrev cX6_read : ByteArray := prog_8_method_2_code
def yX6_read : MethodName := ⟨RX6, "read", "(LHatRoom$Text;)I"⟩
abbrev cX6_plainLine : ByteArray := prog_8_method_3_code
def yX6_plainLine : MethodName := ⟨RX6, "plainLine", "(LHatRoom$Text;I)Z"⟩
abbrev cX6_colourLine : ByteArray := prog_8_method_4_code
def yX6_colourLine : MethodName := ⟨RX6, "colourLine", "(LHatRoom$Text;)Z"⟩
abbrev cX6_personLine : ByteArray := prog_8_method_5_code
def yX6_personLine : MethodName := ⟨RX6, "personLine", "(LHatRoom$Text;)Z"⟩
abbrev cX6_seesLine : ByteArray := prog_8_method_6_code
def yX6_seesLine : MethodName := ⟨RX6, "seesLine", "(LHatRoom$Text;)Z"⟩
abbrev cX6_tellLine : ByteArray := prog_8_method_7_code
def yX6_tellLine : MethodName := ⟨RX6, "tellLine", "(LHatRoom$Text;)Z"⟩
abbrev cX6_askLine : ByteArray := prog_8_method_8_code
def yX6_askLine : MethodName := ⟨RX6, "askLine", "(LHatRoom$Text;)Z"⟩
abbrev cX6_shyLine : ByteArray := prog_8_method_9_code
def yX6_shyLine : MethodName := ⟨RX6, "shyLine", "(LHatRoom$Text;)Z"⟩
abbrev cX6_seedLine : ByteArray := prog_8_method_10_code
def yX6_seedLine : MethodName := ⟨RX6, "seedLine", "(LHatRoom$Text;)Z"⟩
abbrev cX6_factLine : ByteArray := prog_8_method_11_code
def yX6_factLine : MethodName := ⟨RX6, "factLine", "(LHatRoom$Text;)Z"⟩
abbrev cX6_lawLine : ByteArray := prog_8_method_12_code
def yX6_lawLine : MethodName := ⟨RX6, "lawLine", "(LHatRoom$Text;)Z"⟩
def RX7 : String := "HatRoom$State"
def TX7 : u_T := fun k => match k with
  | 0 => ("HatRoom$State", "left", "[I", true)
  | 1 => ("HatRoom$State", "sees", "[I", true)
  | 2 => ("HatRoom$State", "views", "[I", true)
  | 3 => ("HatRoom$State", "prizes", "[I", true)
  | 4 => ("HatRoom$State", "size", "I", false)
  | 5 => ("HatRoom$State", "real", "I", false)
  | 6 => ("HatRoom$State", "people", "I", false)
  | 7 => ("HatRoom$State", "said", "I", false)
  | 8 => ("HatRoom$State", "heard", "I", false)
  | 9 => ("HatRoom$State", "lies", "I", false)
  | 10 => ("HatRoom$State", "hour", "I", false)
  | _ => ("HatRoom$State", "last", "J", false)
def tyX7 : Nat → FieldType := fun k => match k with
  | 0 => .array .int
  | 1 => .array .int
  | 2 => .array .int
  | 3 => .array .int
  | 4 => .int
  | 5 => .int
  | 6 => .int
  | 7 => .int
  | 8 => .int
  | 9 => .int
  | 10 => .int
  | _ => .long
theorem nmX7 : ∀ a, a < 12 → ∀ b, b < 12 → a ≠ b → (TX7 a).2.1 ≠ (TX7 b).2.1 := by decide +kernel
theorem tyX7_ok : ∀ k, k < 12 → parseFieldDescriptor (TX7 k).2.2.1 = some (tyX7 k) := by decide +kernel
abbrev cX7_init : ByteArray := prog_9_method_1_code
def yX7_init : MethodName := ⟨RX7, "<init>", "()V"⟩
abbrev cX7_begin : ByteArray := prog_9_method_2_code
def yX7_begin : MethodName := ⟨RX7, "begin", "(LHatRoom$Text;)V"⟩
abbrev cX7_fill : ByteArray := prog_9_method_3_code
def yX7_fill : MethodName := ⟨RX7, "fill", "(LHatRoom$Text;)V"⟩
abbrev cX7_copy : ByteArray := prog_9_method_4_code
def yX7_copy : MethodName := ⟨RX7, "copy", "(LHatRoom$State;)V"⟩
abbrev cX7_see : ByteArray := prog_9_method_5_code
def yX7_see : MethodName := ⟨RX7, "see", "(II)V"⟩
abbrev cX7_seeThese : ByteArray := prog_9_method_6_code
def yX7_seeThese : MethodName := ⟨RX7, "seeThese", "(II)V"⟩
abbrev cX7_seeAll : ByteArray := prog_9_method_7_code
def yX7_seeAll : MethodName := ⟨RX7, "seeAll", "()V"⟩
abbrev cX7_retain : ByteArray := prog_9_method_8_code
def yX7_retain : MethodName := ⟨RX7, "retain", "([JI)V"⟩
abbrev cX7_isAlike : ByteArray := prog_9_method_9_code
def yX7_isAlike : MethodName := ⟨RX7, "isAlike", "(II)Z"⟩
abbrev cX7_alikeFor : ByteArray := prog_9_method_10_code
def yX7_alikeFor : MethodName := ⟨RX7, "alikeFor", "(I)I"⟩
abbrev cX7_tally : ByteArray := prog_9_method_11_code
def yX7_tally : MethodName := ⟨RX7, "tally", "(III)I"⟩
abbrev cX7_mostFor : ByteArray := prog_9_method_12_code
def yX7_mostFor : MethodName := ⟨RX7, "mostFor", "(II)I"⟩
abbrev cX7_coloursFor : ByteArray := prog_9_method_13_code
def yX7_coloursFor : MethodName := ⟨RX7, "coloursFor", "(II)I"⟩
abbrev cX7_knows : ByteArray := prog_9_method_14_code
def yX7_knows : MethodName := ⟨RX7, "knows", "(II)Z"⟩
abbrev cX7_knowers : ByteArray := prog_9_method_15_code
def yX7_knowers : MethodName := ⟨RX7, "knowers", "()I"⟩
abbrev cX7_prizesOfAll : ByteArray := prog_9_method_16_code
def yX7_prizesOfAll : MethodName := ⟨RX7, "prizesOfAll", "()I"⟩
abbrev cX7_draw : ByteArray := prog_9_method_17_code
def yX7_draw : MethodName := ⟨RX7, "draw", "()I"⟩
def RX8 : String := "HatRoom$Text"
def TX8 : u_T := fun k => match k with
  | 0 => ("HatRoom$Text", "colours", "LHatRoom$Names;", true)
  | 1 => ("HatRoom$Text", "people", "LHatRoom$Names;", true)
  | 2 => ("HatRoom$Text", "facts", "LHatRoom$Names;", true)
  | 3 => ("HatRoom$Text", "knots", "LHatRoom$Knots;", true)
  | 4 => ("HatRoom$Text", "stocks", "[I", true)
  | 5 => ("HatRoom$Text", "hats", "[I", true)
  | 6 => ("HatRoom$Text", "sees", "[I", true)
  | 7 => ("HatRoom$Text", "roots", "[I", true)
  | 8 => ("HatRoom$Text", "needs", "[J", true)
  | 9 => ("HatRoom$Text", "tells", "I", false)
  | 10 => ("HatRoom$Text", "tellFacts", "[I", true)
  | 11 => ("HatRoom$Text", "tellHours", "[I", true)
  | 12 => ("HatRoom$Text", "asks", "I", false)
  | 13 => ("HatRoom$Text", "askHours", "[I", true)
  | 14 => ("HatRoom$Text", "lawRoots", "[I", true)
  | 15 => ("HatRoom$Text", "lawNeeds", "[J", true)
  | 16 => ("HatRoom$Text", "shy", "I", false)
  | 17 => ("HatRoom$Text", "seed", "I", false)
  | _ => ("HatRoom$Text", "truth", "I", false)
def tyX8 : Nat → FieldType := fun k => match k with
  | 0 => .object "HatRoom$Names"
  | 1 => .object "HatRoom$Names"
  | 2 => .object "HatRoom$Names"
  | 3 => .object "HatRoom$Knots"
  | 4 => .array .int
  | 5 => .array .int
  | 6 => .array .int
  | 7 => .array .int
  | 8 => .array .long
  | 9 => .int
  | 10 => .array .int
  | 11 => .array .int
  | 12 => .int
  | 13 => .array .int
  | 14 => .array .int
  | 15 => .array .long
  | 16 => .int
  | 17 => .int
  | _ => .int
theorem nmX8 : ∀ a, a < 19 → ∀ b, b < 19 → a ≠ b → (TX8 a).2.1 ≠ (TX8 b).2.1 := by decide +kernel
theorem tyX8_ok : ∀ k, k < 19 → parseFieldDescriptor (TX8 k).2.2.1 = some (tyX8 k) := by decide +kernel
abbrev cX8_init : ByteArray := prog_10_method_1_code
def yX8_init : MethodName := ⟨RX8, "<init>", "()V"⟩
abbrev cX8_clear : ByteArray := prog_10_method_2_code
def yX8_clear : MethodName := ⟨RX8, "clear", "()V"⟩
abbrev cX8_hatsOf : ByteArray := prog_10_method_3_code
def yX8_hatsOf : MethodName := ⟨RX8, "hatsOf", "(I)I"⟩
abbrev cX8_packed : ByteArray := prog_10_method_4_code
def yX8_packed : MethodName := ⟨RX8, "packed", "(I)I"⟩
def RX9 : String := "HatRoom$Tokens"
def TX9 : u_T := fun k => match k with
  | 0 => ("HatRoom$Tokens", "words", "[I", true)
  | 1 => ("HatRoom$Tokens", "kinds", "[I", true)
  | 2 => ("HatRoom$Tokens", "places", "[I", true)
  | 3 => ("HatRoom$Tokens", "values", "[I", true)
  | 4 => ("HatRoom$Tokens", "size", "I", false)
  | 5 => ("HatRoom$Tokens", "at", "I", false)
  | 6 => ("HatRoom$Tokens", "letters", "I", false)
  | 7 => ("HatRoom$Tokens", "fault", "I", false)
  | _ => ("HatRoom$Tokens", "faultPlace", "I", false)
def tyX9 : Nat → FieldType := fun k => match k with
  | 0 => .array .int
  | 1 => .array .int
  | 2 => .array .int
  | 3 => .array .int
  | 4 => .int
  | 5 => .int
  | 6 => .int
  | 7 => .int
  | _ => .int
theorem nmX9 : ∀ a, a < 9 → ∀ b, b < 9 → a ≠ b → (TX9 a).2.1 ≠ (TX9 b).2.1 := by decide +kernel
theorem tyX9_ok : ∀ k, k < 9 → parseFieldDescriptor (TX9 k).2.2.1 = some (tyX9 k) := by decide +kernel
abbrev cX9_init : ByteArray := prog_11_method_1_code
def yX9_init : MethodName := ⟨RX9, "<init>", "()V"⟩
abbrev cX9_scan : ByteArray := prog_11_method_2_code
def yX9_scan : MethodName := ⟨RX9, "scan", "([BI)V"⟩
abbrev cX9_begin : ByteArray := prog_11_method_3_code
def yX9_begin : MethodName := ⟨RX9, "begin", "(II)V"⟩
abbrev cX9_addLetter : ByteArray := prog_11_method_4_code
def yX9_addLetter : MethodName := ⟨RX9, "addLetter", "(IIZ)V"⟩
abbrev cX9_addDigit : ByteArray := prog_11_method_5_code
def yX9_addDigit : MethodName := ⟨RX9, "addDigit", "(IIZ)V"⟩
abbrev cX9_addSign : ByteArray := prog_11_method_6_code
def yX9_addSign : MethodName := ⟨RX9, "addSign", "(II)V"⟩
abbrev cX9_kindOf : ByteArray := prog_11_method_7_code
def yX9_kindOf : MethodName := ⟨RX9, "kindOf", "(I)I"⟩
abbrev cX9_nameWords : ByteArray := prog_11_method_8_code
def yX9_nameWords : MethodName := ⟨RX9, "nameWords", "()V"⟩
abbrev cX9_kind : ByteArray := prog_11_method_9_code
def yX9_kind : MethodName := ⟨RX9, "kind", "()I"⟩
abbrev cX9_value : ByteArray := prog_11_method_10_code
def yX9_value : MethodName := ⟨RX9, "value", "()I"⟩
abbrev cX9_step : ByteArray := prog_11_method_11_code
def yX9_step : MethodName := ⟨RX9, "step", "()V"⟩
abbrev cX9_fail : ByteArray := prog_11_method_12_code
def yX9_fail : MethodName := ⟨RX9, "fail", "(I)Z"⟩
abbrev cX9_isNumber : ByteArray := prog_11_method_13_code
def yX9_isNumber : MethodName := ⟨RX9, "isNumber", "(I)Z"⟩
abbrev cX9_isFresh : ByteArray := prog_11_method_14_code
def yX9_isFresh : MethodName := ⟨RX9, "isFresh", "(LHatRoom$Names;)Z"⟩
abbrev cX9_known : ByteArray := prog_11_method_15_code
def yX9_known : MethodName := ⟨RX9, "known", "(LHatRoom$Names;)I"⟩
abbrev cX9_endsLine : ByteArray := prog_11_method_16_code
def yX9_endsLine : MethodName := ⟨RX9, "endsLine", "()Z"⟩
def RX10 : String := "HatRoom"
def TX10 : u_T := fun k => match k with
  | 0 => ("HatRoom", "tape", "[B", true)
  | 1 => ("HatRoom", "tapeSize", "I", false)
  | 2 => ("HatRoom", "tokens", "LHatRoom$Tokens;", true)
  | 3 => ("HatRoom", "reader", "LHatRoom$Reader;", true)
  | 4 => ("HatRoom", "mind", "LHatRoom$Mind;", true)
  | 5 => ("HatRoom", "laws", "LHatRoom$Laws;", true)
  | 6 => ("HatRoom", "script", "LHatRoom$Text;", false)
  | 7 => ("HatRoom", "spare", "LHatRoom$Text;", false)
  | 8 => ("HatRoom", "course", "LHatRoom$Course;", true)
  | 9 => ("HatRoom", "now", "LHatRoom$State;", true)
  | 10 => ("HatRoom", "trial", "LHatRoom$State;", true)
  | 11 => ("HatRoom", "image", "LHatRoom$State;", true)
  | 12 => ("HatRoom", "imageKept", "Z", false)
  | 13 => ("HatRoom", "past", "[LHatRoom$State;", true)
  | 14 => ("HatRoom", "pastSize", "I", false)
  | _ => ("HatRoom", "pastNext", "I", false)
def tyX10 : Nat → FieldType := fun k => match k with
  | 0 => .array .byte
  | 1 => .int
  | 2 => .object "HatRoom$Tokens"
  | 3 => .object "HatRoom$Reader"
  | 4 => .object "HatRoom$Mind"
  | 5 => .object "HatRoom$Laws"
  | 6 => .object "HatRoom$Text"
  | 7 => .object "HatRoom$Text"
  | 8 => .object "HatRoom$Course"
  | 9 => .object "HatRoom$State"
  | 10 => .object "HatRoom$State"
  | 11 => .object "HatRoom$State"
  | 12 => .boolean
  | 13 => .array (.object "HatRoom$State")
  | 14 => .int
  | _ => .int
theorem nmX10 : ∀ a, a < 16 → ∀ b, b < 16 → a ≠ b → (TX10 a).2.1 ≠ (TX10 b).2.1 := by decide +kernel
theorem tyX10_ok : ∀ k, k < 16 → parseFieldDescriptor (TX10 k).2.2.1 = some (tyX10 k) := by decide +kernel
abbrev cX10_init : ByteArray := prog_1_method_1_code
def yX10_init : MethodName := ⟨RX10, "<init>", "()V"⟩
abbrev cX10_feed : ByteArray := prog_1_method_2_code
def yX10_feed : MethodName := ⟨RX10, "feed", "(IIIII)I"⟩
abbrev cX10_put : ByteArray := prog_1_method_3_code
def yX10_put : MethodName := ⟨RX10, "put", "(I)V"⟩
abbrev cX10_text : ByteArray := prog_1_method_4_code
def yX10_text : MethodName := ⟨RX10, "text", "(I)I"⟩
abbrev cX10_fault : ByteArray := prog_1_method_5_code
def yX10_fault : MethodName := ⟨RX10, "fault", "(I)I"⟩
abbrev cX10_named : ByteArray := prog_1_method_6_code
def yX10_named : MethodName := ⟨RX10, "named", "(II)I"⟩
abbrev cX10_isPerson : ByteArray := prog_1_method_7_code
def yX10_isPerson : MethodName := ⟨RX10, "isPerson", "(I)Z"⟩
abbrev cX10_areTwo : ByteArray := prog_1_method_8_code
def yX10_areTwo : MethodName := ⟨RX10, "areTwo", "(II)Z"⟩
abbrev cX10_isFact : ByteArray := prog_1_method_9_code
def yX10_isFact : MethodName := ⟨RX10, "isFact", "(I)Z"⟩
abbrev cX10_person : ByteArray := prog_1_method_10_code
def yX10_person : MethodName := ⟨RX10, "person", "(II)I"⟩
abbrev cX10_own : ByteArray := prog_1_method_11_code
def yX10_own : MethodName := ⟨RX10, "own", "(I)I"⟩
abbrev cX10_world : ByteArray := prog_1_method_12_code
def yX10_world : MethodName := ⟨RX10, "world", "(II)I"⟩
abbrev cX10_real : ByteArray := prog_1_method_13_code
def yX10_real : MethodName := ⟨RX10, "real", "()I"⟩
abbrev cX10_is : ByteArray := prog_1_method_14_code
def yX10_is : MethodName := ⟨RX10, "is", "(I)I"⟩
abbrev cX10_sure : ByteArray := prog_1_method_15_code
def yX10_sure : MethodName := ⟨RX10, "sure", "(II)I"⟩
abbrev cX10_common : ByteArray := prog_1_method_16_code
def yX10_common : MethodName := ⟨RX10, "common", "(I)I"⟩
abbrev cX10_depth : ByteArray := prog_1_method_17_code
def yX10_depth : MethodName := ⟨RX10, "depth", "(I)I"⟩
abbrev cX10_law : ByteArray := prog_1_method_18_code
def yX10_law : MethodName := ⟨RX10, "law", "(II)J"⟩
abbrev cX10_tell : ByteArray := prog_1_method_19_code
def yX10_tell : MethodName := ⟨RX10, "tell", "(I)I"⟩
abbrev cX10_ask : ByteArray := prog_1_method_20_code
def yX10_ask : MethodName := ⟨RX10, "ask", "()I"⟩
abbrev cX10_peep : ByteArray := prog_1_method_21_code
def yX10_peep : MethodName := ⟨RX10, "peep", "(II)I"⟩
abbrev cX10_remember : ByteArray := prog_1_method_22_code
def yX10_remember : MethodName := ⟨RX10, "remember", "(LHatRoom$State;)V"⟩
abbrev cX10_go : ByteArray := prog_1_method_23_code
def yX10_go : MethodName := ⟨RX10, "go", "(I)I"⟩
abbrev cX10_ahead : ByteArray := prog_1_method_24_code
def yX10_ahead : MethodName := ⟨RX10, "ahead", "(III)I"⟩
abbrev cX10_willKnow : ByteArray := prog_1_method_25_code
def yX10_willKnow : MethodName := ⟨RX10, "willKnow", "(I)I"⟩
abbrev cX10_parts : ByteArray := prog_1_method_26_code
def yX10_parts : MethodName := ⟨RX10, "parts", "()I"⟩
abbrev cX10_rounds : ByteArray := prog_1_method_27_code
def yX10_rounds : MethodName := ⟨RX10, "rounds", "(I)I"⟩
abbrev cX10_teach : ByteArray := prog_1_method_28_code
def yX10_teach : MethodName := ⟨RX10, "teach", "(I)I"⟩
abbrev cX10_teachAll : ByteArray := prog_1_method_29_code
def yX10_teachAll : MethodName := ⟨RX10, "teachAll", "()I"⟩
abbrev cX10_look : ByteArray := prog_1_method_30_code
def yX10_look : MethodName := ⟨RX10, "look", "(II)I"⟩
abbrev cX10_guess : ByteArray := prog_1_method_31_code
def yX10_guess : MethodName := ⟨RX10, "guess", "(II)I"⟩
abbrev cX10_likely : ByteArray := prog_1_method_32_code
def yX10_likely : MethodName := ⟨RX10, "likely", "(II)I"⟩
abbrev cX10_leastTerm : ByteArray := prog_1_method_33_code
def yX10_leastTerm : MethodName := ⟨RX10, "leastTerm", "(III)I"⟩
abbrev cX10_secret : ByteArray := prog_1_method_34_code
def yX10_secret : MethodName := ⟨RX10, "secret", "(II)I"⟩
abbrev cX10_rests : ByteArray := prog_1_method_35_code
def yX10_rests : MethodName := ⟨RX10, "rests", "(II)I"⟩
abbrev cX10_rest : ByteArray := prog_1_method_36_code
def yX10_rest : MethodName := ⟨RX10, "rest", "(III)I"⟩
abbrev cX10_isRest : ByteArray := prog_1_method_37_code
def yX10_isRest : MethodName := ⟨RX10, "isRest", "(III)Z"⟩
abbrev cX10_share : ByteArray := prog_1_method_38_code
def yX10_share : MethodName := ⟨RX10, "share", "(III)I"⟩
abbrev cX10_chance : ByteArray := prog_1_method_39_code
def yX10_chance : MethodName := ⟨RX10, "chance", "(III)I"⟩
abbrev cX10_tried : ByteArray := prog_1_method_40_code
def yX10_tried : MethodName := ⟨RX10, "tried", "(III)I"⟩
abbrev cX10_undo : ByteArray := prog_1_method_41_code
def yX10_undo : MethodName := ⟨RX10, "undo", "()I"⟩
abbrev cX10_keep : ByteArray := prog_1_method_42_code
def yX10_keep : MethodName := ⟨RX10, "keep", "()I"⟩
abbrev cX10_back : ByteArray := prog_1_method_43_code
def yX10_back : MethodName := ⟨RX10, "back", "()I"⟩
abbrev cX10_count : ByteArray := prog_1_method_44_code
def yX10_count : MethodName := ⟨RX10, "count", "(I)I"⟩
abbrev cX10_shiftOf : ByteArray := prog_1_method_45_code
def yX10_shiftOf : MethodName := ⟨RX10, "shiftOf", "(I)I"⟩
abbrev cX10_colourIn : ByteArray := prog_1_method_46_code
def yX10_colourIn : MethodName := ⟨RX10, "colourIn", "(II)I"⟩
def RX11 : String := "HatRoomModel"
def TX11 : u_T := fun k => match k with
  | 0 => ("HatRoomModel", "thrown", "I", false)
  | 1 => ("HatRoomModel", "tape", "[I", true)
  | 2 => ("HatRoomModel", "taped", "I", false)
  | 3 => ("HatRoomModel", "number", "[I", true)
  | 4 => ("HatRoomModel", "colourName", "[I", true)
  | 5 => ("HatRoomModel", "stockOf", "[I", true)
  | 6 => ("HatRoomModel", "personName", "[I", true)
  | 7 => ("HatRoomModel", "hatOf", "[I", true)
  | 8 => ("HatRoomModel", "seesAs", "[I", true)
  | 9 => ("HatRoomModel", "factName", "[I", true)
  | 10 => ("HatRoomModel", "factFrom", "[I", true)
  | 11 => ("HatRoomModel", "factTo", "[I", true)
  | 12 => ("HatRoomModel", "tellFact", "[I", true)
  | 13 => ("HatRoomModel", "tellHour", "[I", true)
  | 14 => ("HatRoomModel", "askHour", "[I", true)
  | 15 => ("HatRoomModel", "sumFrom", "[I", true)
  | 16 => ("HatRoomModel", "sumTo", "[I", true)
  | 17 => ("HatRoomModel", "knotSort", "[I", true)
  | 18 => ("HatRoomModel", "knotValue", "[I", true)
  | 19 => ("HatRoomModel", "told", "I", false)
  | 20 => ("HatRoomModel", "lines", "I", false)
  | 21 => ("HatRoomModel", "size", "I", false)
  | 22 => ("HatRoomModel", "at", "I", false)
  | 23 => ("HatRoomModel", "place", "I", false)
  | 24 => ("HatRoomModel", "sort", "I", false)
  | 25 => ("HatRoomModel", "value", "I", false)
  | 26 => ("HatRoomModel", "fault", "I", false)
  | 27 => ("HatRoomModel", "faultPlace", "I", false)
  | 28 => ("HatRoomModel", "lastFault", "I", false)
  | 29 => ("HatRoomModel", "lastPlace", "I", false)
  | 30 => ("HatRoomModel", "open", "I", false)
  | 31 => ("HatRoomModel", "counted", "I", false)
  | 32 => ("HatRoomModel", "names", "[J", true)
  | 33 => ("HatRoomModel", "worked", "[J", true)
  | 34 => ("HatRoomModel", "workedMany", "I", false)
  | 35 => ("HatRoomModel", "colourIn", "[I", true)
  | 36 => ("HatRoomModel", "worlds", "I", false)
  | 37 => ("HatRoomModel", "trueOne", "I", false)
  | 38 => ("HatRoomModel", "hour", "[I", true)
  | 39 => ("HatRoomModel", "drawn", "[I", true)
  | 40 => ("HatRoomModel", "heard", "[I", true)
  | 41 => ("HatRoomModel", "lies", "[I", true)
  | 42 => ("HatRoomModel", "saidOnes", "[I", true)
  | 43 => ("HatRoomModel", "seesOf", "[I", true)
  | 44 => ("HatRoomModel", "prizeOf", "[I", true)
  | 45 => ("HatRoomModel", "isLeft", "[Z", true)
  | 46 => ("HatRoomModel", "hasImage", "Z", false)
  | 47 => ("HatRoomModel", "undoMany", "I", false)
  | 48 => ("HatRoomModel", "room", "I", false)
  | 49 => ("HatRoomModel", "sightOf", "[I", true)
  | 50 => ("HatRoomModel", "knowsOwn", "[Z", true)
  | 51 => ("HatRoomModel", "partOf", "[I", true)
  | 52 => ("HatRoomModel", "spoilt", "[Z", true)
  | 53 => ("HatRoomModel", "firstOf", "[I", true)
  | 54 => ("HatRoomModel", "isSo", "[Z", true)
  | 55 => ("HatRoomModel", "rows", "[Z", true)
  | 56 => ("HatRoomModel", "rowMany", "I", false)
  | 57 => ("HatRoomModel", "tryWhat", "I", false)
  | _ => ("HatRoomModel", "tryPerson", "I", false)
def tyX11 : Nat → FieldType := fun k => match k with
  | 0 => .int
  | 1 => .array .int
  | 2 => .int
  | 3 => .array .int
  | 4 => .array .int
  | 5 => .array .int
  | 6 => .array .int
  | 7 => .array .int
  | 8 => .array .int
  | 9 => .array .int
  | 10 => .array .int
  | 11 => .array .int
  | 12 => .array .int
  | 13 => .array .int
  | 14 => .array .int
  | 15 => .array .int
  | 16 => .array .int
  | 17 => .array .int
  | 18 => .array .int
  | 19 => .int
  | 20 => .int
  | 21 => .int
  | 22 => .int
  | 23 => .int
  | 24 => .int
  | 25 => .int
  | 26 => .int
  | 27 => .int
  | 28 => .int
  | 29 => .int
  | 30 => .int
  | 31 => .int
  | 32 => .array .long
  | 33 => .array .long
  | 34 => .int
  | 35 => .array .int
  | 36 => .int
  | 37 => .int
  | 38 => .array .int
  | 39 => .array .int
  | 40 => .array .int
  | 41 => .array .int
  | 42 => .array .int
  | 43 => .array .int
  | 44 => .array .int
  | 45 => .array .boolean
  | 46 => .boolean
  | 47 => .int
  | 48 => .int
  | 49 => .array .int
  | 50 => .array .boolean
  | 51 => .array .int
  | 52 => .array .boolean
  | 53 => .array .int
  | 54 => .array .boolean
  | 55 => .array .boolean
  | 56 => .int
  | 57 => .int
  | _ => .int
theorem nmX11 : ∀ a, a < 59 → ∀ b, b < 59 → a ≠ b → (TX11 a).2.1 ≠ (TX11 b).2.1 := by decide +kernel
theorem tyX11_ok : ∀ k, k < 59 → parseFieldDescriptor (TX11 k).2.2.1 = some (tyX11 k) := by decide +kernel
abbrev cX11_init : ByteArray := prog_13_method_1_code
def yX11_init : MethodName := ⟨RX11, "<init>", "()V"⟩
abbrev cX11_thrown : ByteArray := prog_13_method_2_code
def yX11_thrown : MethodName := ⟨RX11, "thrown", "()I"⟩
abbrev cX11_feed : ByteArray := prog_13_method_3_code
def yX11_feed : MethodName := ⟨RX11, "feed", "(IIIII)I"⟩
abbrev cX11_here : ByteArray := prog_13_method_4_code
def yX11_here : MethodName := ⟨RX11, "here", "()I"⟩
abbrev cX11_isSmall : ByteArray := prog_13_method_5_code
def yX11_isSmall : MethodName := ⟨RX11, "isSmall", "(I)Z"⟩
abbrev cX11_isDigit : ByteArray := prog_13_method_6_code
def yX11_isDigit : MethodName := ⟨RX11, "isDigit", "(I)Z"⟩
abbrev cX11_token : ByteArray := prog_13_method_7_code
def yX11_token : MethodName := ⟨RX11, "token", "()V"⟩
abbrev cX11_sign : ByteArray := prog_13_method_8_code
def yX11_sign : MethodName := ⟨RX11, "sign", "(I)V"⟩
abbrev cX11_word : ByteArray := prog_13_method_9_code
def yX11_word : MethodName := ⟨RX11, "word", "()I"⟩
abbrev cX11_name : ByteArray := prog_13_method_10_code
def yX11_name : MethodName := ⟨RX11, "name", "()V"⟩
abbrev cX11_wrong : ByteArray := prog_13_method_11_code
def yX11_wrong : MethodName := ⟨RX11, "wrong", "(I)V"⟩
abbrev cX11_isWord : ByteArray := prog_13_method_12_code
def yX11_isWord : MethodName := ⟨RX11, "isWord", "(I)Z"⟩
abbrev cX11_isSign : ByteArray := prog_13_method_13_code
def yX11_isSign : MethodName := ⟨RX11, "isSign", "(I)Z"⟩
abbrev cX11_goOn : ByteArray := prog_13_method_14_code
def yX11_goOn : MethodName := ⟨RX11, "goOn", "()V"⟩
abbrev cX11_numeral : ByteArray := prog_13_method_15_code
def yX11_numeral : MethodName := ⟨RX11, "numeral", "(II)I"⟩
abbrev cX11_found : ByteArray := prog_13_method_16_code
def yX11_found : MethodName := ⟨RX11, "found", "([IIII)I"⟩
abbrev cX11_fresh : ByteArray := prog_13_method_17_code
def yX11_fresh : MethodName := ⟨RX11, "fresh", "([III)I"⟩
abbrev cX11_fresher : ByteArray := prog_13_method_18_code
def yX11_fresher : MethodName := ⟨RX11, "fresher", "(I)I"⟩
abbrev cX11_reads : ByteArray := prog_13_method_19_code
def yX11_reads : MethodName := ⟨RX11, "reads", "(II)V"⟩
abbrev cX11_atHand : ByteArray := prog_13_method_20_code
def yX11_atHand : MethodName := ⟨RX11, "atHand", "([III)I"⟩
abbrev cX11_personAtHand : ByteArray := prog_13_method_21_code
def yX11_personAtHand : MethodName := ⟨RX11, "personAtHand", "()I"⟩
abbrev cX11_colourAtHand : ByteArray := prog_13_method_22_code
def yX11_colourAtHand : MethodName := ⟨RX11, "colourAtHand", "()I"⟩
abbrev cX11_factAtHand : ByteArray := prog_13_method_23_code
def yX11_factAtHand : MethodName := ⟨RX11, "factAtHand", "()I"⟩
abbrev cX11_isFull : ByteArray := prog_13_method_24_code
def yX11_isFull : MethodName := ⟨RX11, "isFull", "(I)Z"⟩
abbrev cX11_line : ByteArray := prog_13_method_25_code
def yX11_line : MethodName := ⟨RX11, "line", "()V"⟩
abbrev cX11_personLine : ByteArray := prog_13_method_26_code
def yX11_personLine : MethodName := ⟨RX11, "personLine", "()V"⟩
abbrev cX11_seesLine : ByteArray := prog_13_method_27_code
def yX11_seesLine : MethodName := ⟨RX11, "seesLine", "()V"⟩
abbrev cX11_lawLine : ByteArray := prog_13_method_28_code
def yX11_lawLine : MethodName := ⟨RX11, "lawLine", "()V"⟩
abbrev cX11_eithers : ByteArray := prog_13_method_29_code
def yX11_eithers : MethodName := ⟨RX11, "eithers", "()V"⟩
abbrev cX11_boths : ByteArray := prog_13_method_30_code
def yX11_boths : MethodName := ⟨RX11, "boths", "()V"⟩
abbrev cX11_unless : ByteArray := prog_13_method_31_code
def yX11_unless : MethodName := ⟨RX11, "unless", "()V"⟩
abbrev cX11_bracket : ByteArray := prog_13_method_32_code
def yX11_bracket : MethodName := ⟨RX11, "bracket", "()V"⟩
abbrev cX11_plain : ByteArray := prog_13_method_33_code
def yX11_plain : MethodName := ⟨RX11, "plain", "()V"⟩
abbrev cX11_puts : ByteArray := prog_13_method_34_code
def yX11_puts : MethodName := ⟨RX11, "puts", "(II)V"⟩
abbrev cX11_knot : ByteArray := prog_13_method_35_code
def yX11_knot : MethodName := ⟨RX11, "knot", "()V"⟩
abbrev cX11_expression : ByteArray := prog_13_method_36_code
def yX11_expression : MethodName := ⟨RX11, "expression", "()V"⟩
abbrev cX11_conjunction : ByteArray := prog_13_method_37_code
def yX11_conjunction : MethodName := ⟨RX11, "conjunction", "()V"⟩
abbrev cX11_negation : ByteArray := prog_13_method_38_code
def yX11_negation : MethodName := ⟨RX11, "negation", "()V"⟩
abbrev cX11_sum : ByteArray := prog_13_method_39_code
def yX11_sum : MethodName := ⟨RX11, "sum", "()V"⟩
abbrev cX11_product : ByteArray := prog_13_method_40_code
def yX11_product : MethodName := ⟨RX11, "product", "()V"⟩
abbrev cX11_primary : ByteArray := prog_13_method_41_code
def yX11_primary : MethodName := ⟨RX11, "primary", "()V"⟩
abbrev cX11_half : ByteArray := prog_13_method_42_code
def yX11_half : MethodName := ⟨RX11, "half", "([I)V"⟩
abbrev cX11_text : ByteArray := prog_13_method_43_code
def yX11_text : MethodName := ⟨RX11, "text", "(I)I"⟩
abbrev cX11_fault : ByteArray := prog_13_method_44_code
def yX11_fault : MethodName := ⟨RX11, "fault", "(I)I"⟩
abbrev cX11_named : ByteArray := prog_13_method_45_code
def yX11_named : MethodName := ⟨RX11, "named", "(II)I"⟩
abbrev cX11_oneIf : ByteArray := prog_13_method_46_code
def yX11_oneIf : MethodName := ⟨RX11, "oneIf", "(Z)J"⟩
abbrev cX11_works : ByteArray := prog_13_method_47_code
def yX11_works : MethodName := ⟨RX11, "works", "(I)Z"⟩
abbrev cX11_goes : ByteArray := prog_13_method_48_code
def yX11_goes : MethodName := ⟨RX11, "goes", "(I)Z"⟩
abbrev cX11_hasLaw : ByteArray := prog_13_method_49_code
def yX11_hasLaw : MethodName := ⟨RX11, "hasLaw", "(I)Z"⟩
abbrev cX11_laysWorlds : ByteArray := prog_13_method_50_code
def yX11_laysWorlds : MethodName := ⟨RX11, "laysWorlds", "()V"⟩
abbrev cX11_manyOf : ByteArray := prog_13_method_51_code
def yX11_manyOf : MethodName := ⟨RX11, "manyOf", "(II)I"⟩
abbrev cX11_isInStock : ByteArray := prog_13_method_52_code
def yX11_isInStock : MethodName := ⟨RX11, "isInStock", "(I)Z"⟩
abbrev cX11_begins : ByteArray := prog_13_method_53_code
def yX11_begins : MethodName := ⟨RX11, "begins", "()V"⟩
abbrev cX11_copies : ByteArray := prog_13_method_54_code
def yX11_copies : MethodName := ⟨RX11, "copies", "(II)V"⟩
abbrev cX11_isPerson : ByteArray := prog_13_method_55_code
def yX11_isPerson : MethodName := ⟨RX11, "isPerson", "(I)Z"⟩
abbrev cX11_isFact : ByteArray := prog_13_method_56_code
def yX11_isFact : MethodName := ⟨RX11, "isFact", "(I)Z"⟩
abbrev cX11_bitsOf : ByteArray := prog_13_method_57_code
def yX11_bitsOf : MethodName := ⟨RX11, "bitsOf", "(I)I"⟩
abbrev cX11_leftMany : ByteArray := prog_13_method_58_code
def yX11_leftMany : MethodName := ⟨RX11, "leftMany", "(I)I"⟩
abbrev cX11_isHere : ByteArray := prog_13_method_59_code
def yX11_isHere : MethodName := ⟨RX11, "isHere", "(I)Z"⟩
abbrev cX11_lays : ByteArray := prog_13_method_60_code
def yX11_lays : MethodName := ⟨RX11, "lays", "(I)V"⟩
abbrev cX11_laysSights : ByteArray := prog_13_method_61_code
def yX11_laysSights : MethodName := ⟨RX11, "laysSights", "(I)V"⟩
abbrev cX11_laysParts : ByteArray := prog_13_method_62_code
def yX11_laysParts : MethodName := ⟨RX11, "laysParts", "()V"⟩
abbrev cX11_spreads : ByteArray := prog_13_method_63_code
def yX11_spreads : MethodName := ⟨RX11, "spreads", "(I)Z"⟩
abbrev cX11_top : ByteArray := prog_13_method_64_code
def yX11_top : MethodName := ⟨RX11, "top", "()I"⟩
abbrev cX11_knownTo : ByteArray := prog_13_method_65_code
def yX11_knownTo : MethodName := ⟨RX11, "knownTo", "(III)V"⟩
abbrev cX11_knownByAll : ByteArray := prog_13_method_66_code
def yX11_knownByAll : MethodName := ⟨RX11, "knownByAll", "()V"⟩
abbrev cX11_fills : ByteArray := prog_13_method_67_code
def yX11_fills : MethodName := ⟨RX11, "fills", "(I)V"⟩
abbrev cX11_knownTogether : ByteArray := prog_13_method_68_code
def yX11_knownTogether : MethodName := ⟨RX11, "knownTogether", "()V"⟩
abbrev cX11_joins : ByteArray := prog_13_method_69_code
def yX11_joins : MethodName := ⟨RX11, "joins", "(I)V"⟩
abbrev cX11_leafIn : ByteArray := prog_13_method_70_code
def yX11_leafIn : MethodName := ⟨RX11, "leafIn", "(III)Z"⟩
abbrev cX11_laysFact : ByteArray := prog_13_method_71_code
def yX11_laysFact : MethodName := ⟨RX11, "laysFact", "(I)V"⟩
abbrev cX11_isAlike : ByteArray := prog_13_method_72_code
def yX11_isAlike : MethodName := ⟨RX11, "isAlike", "(II)Z"⟩
abbrev cX11_alikeMany : ByteArray := prog_13_method_73_code
def yX11_alikeMany : MethodName := ⟨RX11, "alikeMany", "(I)I"⟩
abbrev cX11_knowers : ByteArray := prog_13_method_74_code
def yX11_knowers : MethodName := ⟨RX11, "knowers", "()I"⟩
abbrev cX11_calls : ByteArray := prog_13_method_75_code
def yX11_calls : MethodName := ⟨RX11, "calls", "(I)V"⟩
abbrev cX11_within : ByteArray := prog_13_method_76_code
def yX11_within : MethodName := ⟨RX11, "within", "(IIII)I"⟩
abbrev cX11_tells : ByteArray := prog_13_method_77_code
def yX11_tells : MethodName := ⟨RX11, "tells", "(II)Z"⟩
abbrev cX11_hushOf : ByteArray := prog_13_method_78_code
def yX11_hushOf : MethodName := ⟨RX11, "hushOf", "(I)I"⟩
abbrev cX11_isHushed : ByteArray := prog_13_method_79_code
def yX11_isHushed : MethodName := ⟨RX11, "isHushed", "(IIZ)Z"⟩
abbrev cX11_asks : ByteArray := prog_13_method_80_code
def yX11_asks : MethodName := ⟨RX11, "asks", "(IZ)I"⟩
abbrev cX11_passes : ByteArray := prog_13_method_81_code
def yX11_passes : MethodName := ⟨RX11, "passes", "(IZ)V"⟩
abbrev cX11_goesOn : ByteArray := prog_13_method_82_code
def yX11_goesOn : MethodName := ⟨RX11, "goesOn", "(I)V"⟩
abbrev cX11_coloursOf : ByteArray := prog_13_method_83_code
def yX11_coloursOf : MethodName := ⟨RX11, "coloursOf", "(II)I"⟩
abbrev cX11_person : ByteArray := prog_13_method_84_code
def yX11_person : MethodName := ⟨RX11, "person", "(II)I"⟩
abbrev cX11_own : ByteArray := prog_13_method_85_code
def yX11_own : MethodName := ⟨RX11, "own", "(I)I"⟩
abbrev cX11_world : ByteArray := prog_13_method_86_code
def yX11_world : MethodName := ⟨RX11, "world", "(II)I"⟩
abbrev cX11_real : ByteArray := prog_13_method_87_code
def yX11_real : MethodName := ⟨RX11, "real", "()I"⟩
abbrev cX11_is : ByteArray := prog_13_method_88_code
def yX11_is : MethodName := ⟨RX11, "is", "(I)I"⟩
abbrev cX11_sure : ByteArray := prog_13_method_89_code
def yX11_sure : MethodName := ⟨RX11, "sure", "(II)I"⟩
abbrev cX11_putsFact : ByteArray := prog_13_method_90_code
def yX11_putsFact : MethodName := ⟨RX11, "putsFact", "(I)V"⟩
abbrev cX11_common : ByteArray := prog_13_method_91_code
def yX11_common : MethodName := ⟨RX11, "common", "(I)I"⟩
abbrev cX11_depth : ByteArray := prog_13_method_92_code
def yX11_depth : MethodName := ⟨RX11, "depth", "(I)I"⟩
abbrev cX11_law : ByteArray := prog_13_method_93_code
def yX11_law : MethodName := ⟨RX11, "law", "(II)J"⟩
abbrev cX11_keepNow : ByteArray := prog_13_method_94_code
def yX11_keepNow : MethodName := ⟨RX11, "keepNow", "()V"⟩
abbrev cX11_tell : ByteArray := prog_13_method_95_code
def yX11_tell : MethodName := ⟨RX11, "tell", "(I)I"⟩
abbrev cX11_ask : ByteArray := prog_13_method_96_code
def yX11_ask : MethodName := ⟨RX11, "ask", "()I"⟩
abbrev cX11_peep : ByteArray := prog_13_method_97_code
def yX11_peep : MethodName := ⟨RX11, "peep", "(II)I"⟩
abbrev cX11_go : ByteArray := prog_13_method_98_code
def yX11_go : MethodName := ⟨RX11, "go", "(I)I"⟩
abbrev cX11_ahead : ByteArray := prog_13_method_99_code
def yX11_ahead : MethodName := ⟨RX11, "ahead", "(III)I"⟩
abbrev cX11_willKnow : ByteArray := prog_13_method_100_code
def yX11_willKnow : MethodName := ⟨RX11, "willKnow", "(I)I"⟩
abbrev cX11_parts : ByteArray := prog_13_method_101_code
def yX11_parts : MethodName := ⟨RX11, "parts", "()I"⟩
abbrev cX11_rounds : ByteArray := prog_13_method_102_code
def yX11_rounds : MethodName := ⟨RX11, "rounds", "(I)I"⟩
abbrev cX11_wouldKnow : ByteArray := prog_13_method_103_code
def yX11_wouldKnow : MethodName := ⟨RX11, "wouldKnow", "(II)Z"⟩
abbrev cX11_areSo : ByteArray := prog_13_method_104_code
def yX11_areSo : MethodName := ⟨RX11, "areSo", "(I)Z"⟩
abbrev cX11_taught : ByteArray := prog_13_method_105_code
def yX11_taught : MethodName := ⟨RX11, "taught", "(I)I"⟩
abbrev cX11_teach : ByteArray := prog_13_method_106_code
def yX11_teach : MethodName := ⟨RX11, "teach", "(I)I"⟩
abbrev cX11_teachAll : ByteArray := prog_13_method_107_code
def yX11_teachAll : MethodName := ⟨RX11, "teachAll", "()I"⟩
abbrev cX11_manyBy : ByteArray := prog_13_method_108_code
def yX11_manyBy : MethodName := ⟨RX11, "manyBy", "(III)I"⟩
abbrev cX11_worstBy : ByteArray := prog_13_method_109_code
def yX11_worstBy : MethodName := ⟨RX11, "worstBy", "(II)I"⟩
abbrev cX11_look : ByteArray := prog_13_method_110_code
def yX11_look : MethodName := ⟨RX11, "look", "(II)I"⟩
abbrev cX11_shared : ByteArray := prog_13_method_111_code
def yX11_shared : MethodName := ⟨RX11, "shared", "(II)I"⟩
abbrev cX11_guess : ByteArray := prog_13_method_112_code
def yX11_guess : MethodName := ⟨RX11, "guess", "(II)I"⟩
abbrev cX11_likely : ByteArray := prog_13_method_113_code
def yX11_likely : MethodName := ⟨RX11, "likely", "(II)I"⟩
abbrev cX11_areTwo : ByteArray := prog_13_method_114_code
def yX11_areTwo : MethodName := ⟨RX11, "areTwo", "(II)Z"⟩
abbrev cX11_secret : ByteArray := prog_13_method_115_code
def yX11_secret : MethodName := ⟨RX11, "secret", "(II)I"⟩
abbrev cX11_hasOf : ByteArray := prog_13_method_116_code
def yX11_hasOf : MethodName := ⟨RX11, "hasOf", "(III)I"⟩
abbrev cX11_isRest : ByteArray := prog_13_method_117_code
def yX11_isRest : MethodName := ⟨RX11, "isRest", "(III)Z"⟩
abbrev cX11_restOf : ByteArray := prog_13_method_118_code
def yX11_restOf : MethodName := ⟨RX11, "restOf", "(III)I"⟩
abbrev cX11_rests : ByteArray := prog_13_method_119_code
def yX11_rests : MethodName := ⟨RX11, "rests", "(II)I"⟩
abbrev cX11_rest : ByteArray := prog_13_method_120_code
def yX11_rest : MethodName := ⟨RX11, "rest", "(III)I"⟩
abbrev cX11_chance : ByteArray := prog_13_method_121_code
def yX11_chance : MethodName := ⟨RX11, "chance", "(III)I"⟩
abbrev cX11_tried : ByteArray := prog_13_method_122_code
def yX11_tried : MethodName := ⟨RX11, "tried", "(III)I"⟩
abbrev cX11_undo : ByteArray := prog_13_method_123_code
def yX11_undo : MethodName := ⟨RX11, "undo", "()I"⟩
abbrev cX11_keep : ByteArray := prog_13_method_124_code
def yX11_keep : MethodName := ⟨RX11, "keep", "()I"⟩
abbrev cX11_back : ByteArray := prog_13_method_125_code
def yX11_back : MethodName := ⟨RX11, "back", "()I"⟩
abbrev cX11_prizes : ByteArray := prog_13_method_126_code
def yX11_prizes : MethodName := ⟨RX11, "prizes", "()I"⟩
abbrev cX11_knowMany : ByteArray := prog_13_method_127_code
def yX11_knowMany : MethodName := ⟨RX11, "knowMany", "()I"⟩
abbrev cX11_count : ByteArray := prog_13_method_128_code
def yX11_count : MethodName := ⟨RX11, "count", "(I)I"⟩
def RJ6 : String := "java/lang/Integer"
abbrev cJ6_bitCount_0f7a4 : ByteArray := prog_19_method_49_code
def yJ6_bitCount_0f7a4 : MethodName := ⟨RJ6, "bitCount", "(I)I"⟩
def RJ9 : String := "java/lang/Math"
abbrev cJ9_abs_067f4 : ByteArray := prog_20_method_61_code
def yJ9_abs_067f4 : MethodName := ⟨RJ9, "abs", "(J)J"⟩
abbrev cJ9_max_7cf53 : ByteArray := prog_20_method_65_code
def yJ9_max_7cf53 : MethodName := ⟨RJ9, "max", "(II)I"⟩
abbrev cJ9_max_f86c9 : ByteArray := prog_20_method_66_code
def yJ9_max_f86c9 : MethodName := ⟨RJ9, "max", "(JJ)J"⟩
abbrev cJ9_min_7cf53 : ByteArray := prog_20_method_69_code
def yJ9_min_7cf53 : MethodName := ⟨RJ9, "min", "(II)I"⟩
abbrev cJ9_min_f86c9 : ByteArray := prog_20_method_70_code
def yJ9_min_f86c9 : MethodName := ⟨RJ9, "min", "(JJ)J"⟩
def RJ0 : String := "java/lang/String"
abbrev cJ0_length_8abf5 : ByteArray := prog_22_method_54_code
def yJ0_length_8abf5 : MethodName := ⟨RJ0, "length", "()I"⟩
abbrev cJ0_charAt_5068e : ByteArray := prog_22_method_56_code
def yJ0_charAt_5068e : MethodName := ⟨RJ0, "charAt", "(I)C"⟩
abbrev cJ0_coder_7d493 : ByteArray := prog_22_method_152_code
def yJ0_coder_7d493 : MethodName := ⟨RJ0, "coder", "()B"⟩
abbrev cJ0_isLatin1_aae02 : ByteArray := prog_22_method_154_code
def yJ0_isLatin1_aae02 : MethodName := ⟨RJ0, "isLatin1", "()Z"⟩
abbrev cJ0_checkIndex_df160 : ByteArray := prog_22_method_155_code
def yJ0_checkIndex_df160 : MethodName := ⟨RJ0, "checkIndex", "(II)V"⟩
def RJ1 : String := "java/lang/StringLatin1"
abbrev cJ1_charAt_3b067 : ByteArray := prog_23_method_2_code
def yJ1_charAt_3b067 : MethodName := ⟨RJ1, "charAt", "([BI)C"⟩
def RJ2 : String := "java/lang/StringUTF16"
abbrev cJ2_getChar_3b067 : ByteArray := prog_24_method_5_code
def yJ2_getChar_3b067 : MethodName := ⟨RJ2, "getChar", "([BI)C"⟩
abbrev cJ2_length_9d52b : ByteArray := prog_24_method_6_code
def yJ2_length_9d52b : MethodName := ⟨RJ2, "length", "([B)I"⟩
abbrev cJ2_charAt_3b067 : ByteArray := prog_24_method_83_code
def yJ2_charAt_3b067 : MethodName := ⟨RJ2, "charAt", "([BI)C"⟩
abbrev cJ2_checkIndex_2214a : ByteArray := prog_24_method_91_code
def yJ2_checkIndex_2214a : MethodName := ⟨RJ2, "checkIndex", "(I[B)V"⟩
def RJ10 : String := "java/lang/System"
def RJ3 : String := "jdk/internal/util/Preconditions"
abbrev cJ3_checkIndex_8e157 : ByteArray := prog_30_method_11_code
def yJ3_checkIndex_8e157 : MethodName := ⟨RJ3, "checkIndex", "(IILjava/util/function/BiFunction;)I"⟩
def RL : String := "HatRoomLaw"
abbrev cL_person : ByteArray := method_3_code
def yL_person : MethodName := ⟨RL, "person", "(LHatRoom;II[J)I"⟩
abbrev cL_law : ByteArray := code
def yL_law : MethodName := ⟨RL, "law", "([I)Z"⟩
abbrev vwCl : List vw_C := [(RX0, TX0, 6), (RX1, TX1, 9), (RX2, TX2, 5), (RX3, TX3, 1), (RX4, TX4, 7), (RX5, TX5, 2), (RX6, TX6, 2), (RX7, TX7, 12), (RX8, TX8, 19), (RX9, TX9, 9), (RX10, TX10, 16), (RX11, TX11, 59)]
theorem wl_X0_0 : u_lay RX0 TX0 0 ∈ lw_g := lw_gin 390 (by decide +kernel) (by decide +kernel)
theorem wl_X0_1 : u_lay RX0 TX0 1 ∈ lw_g := lw_gin 392 (by decide +kernel) (by decide +kernel)
theorem wl_X0_2 : u_lay RX0 TX0 2 ∈ lw_g := lw_gin 394 (by decide +kernel) (by decide +kernel)
theorem wl_X0_3 : u_lay RX0 TX0 3 ∈ lw_g := lw_gin 396 (by decide +kernel) (by decide +kernel)
theorem wl_X0_4 : u_lay RX0 TX0 4 ∈ lw_g := lw_gin 398 (by decide +kernel) (by decide +kernel)
theorem wl_X0_5 : u_lay RX0 TX0 5 ∈ lw_g := lw_gin 400 (by decide +kernel) (by decide +kernel)
theorem in_X0 : ∀ w ∈ u_ws RX0 TX0 6, w ∈ lw_g := fun w h => by
  obtain ⟨k, hk, rfl⟩ := List.mem_map.mp h
  have hk := List.mem_range.mp hk
  match k, hk with
  | 0, _ => exact wl_X0_0
  | 1, _ => exact wl_X0_1
  | 2, _ => exact wl_X0_2
  | 3, _ => exact wl_X0_3
  | 4, _ => exact wl_X0_4
  | 5, _ => exact wl_X0_5
  | k + 6, hk => exact absurd hk (by omega)
theorem wl_X1_0 : u_lay RX1 TX1 0 ∈ lw_g := lw_gin 174 (by decide +kernel) (by decide +kernel)
theorem wl_X1_1 : u_lay RX1 TX1 1 ∈ lw_g := lw_gin 176 (by decide +kernel) (by decide +kernel)
theorem wl_X1_2 : u_lay RX1 TX1 2 ∈ lw_g := lw_gin 178 (by decide +kernel) (by decide +kernel)
theorem wl_X1_3 : u_lay RX1 TX1 3 ∈ lw_g := lw_gin 180 (by decide +kernel) (by decide +kernel)
theorem wl_X1_4 : u_lay RX1 TX1 4 ∈ lw_g := lw_gin 182 (by decide +kernel) (by decide +kernel)
theorem wl_X1_5 : u_lay RX1 TX1 5 ∈ lw_g := lw_gin 184 (by decide +kernel) (by decide +kernel)
theorem wl_X1_6 : u_lay RX1 TX1 6 ∈ lw_g := lw_gin 186 (by decide +kernel) (by decide +kernel)
theorem wl_X1_7 : u_lay RX1 TX1 7 ∈ lw_g := lw_gin 188 (by decide +kernel) (by decide +kernel)
theorem wl_X1_8 : u_lay RX1 TX1 8 ∈ lw_g := lw_gin 190 (by decide +kernel) (by decide +kernel)
theorem in_X1 : ∀ w ∈ u_ws RX1 TX1 9, w ∈ lw_g := fun w h => by
  obtain ⟨k, hk, rfl⟩ := List.mem_map.mp h
  have hk := List.mem_range.mp hk
  match k, hk with
  | 0, _ => exact wl_X1_0
  | 1, _ => exact wl_X1_1
  | 2, _ => exact wl_X1_2
  | 3, _ => exact wl_X1_3
  | 4, _ => exact wl_X1_4
  | 5, _ => exact wl_X1_5
  | 6, _ => exact wl_X1_6
  | 7, _ => exact wl_X1_7
  | 8, _ => exact wl_X1_8
  | k + 9, hk => exact absurd hk (by omega)
theorem wl_X2_0 : u_lay RX2 TX2 0 ∈ lw_g := lw_gin 153 (by decide +kernel) (by decide +kernel)
theorem wl_X2_1 : u_lay RX2 TX2 1 ∈ lw_g := lw_gin 155 (by decide +kernel) (by decide +kernel)
theorem wl_X2_2 : u_lay RX2 TX2 2 ∈ lw_g := lw_gin 157 (by decide +kernel) (by decide +kernel)
theorem wl_X2_3 : u_lay RX2 TX2 3 ∈ lw_g := lw_gin 159 (by decide +kernel) (by decide +kernel)
theorem wl_X2_4 : u_lay RX2 TX2 4 ∈ lw_g := lw_gin 161 (by decide +kernel) (by decide +kernel)
theorem in_X2 : ∀ w ∈ u_ws RX2 TX2 5, w ∈ lw_g := fun w h => by
  obtain ⟨k, hk, rfl⟩ := List.mem_map.mp h
  have hk := List.mem_range.mp hk
  match k, hk with
  | 0, _ => exact wl_X2_0
  | 1, _ => exact wl_X2_1
  | 2, _ => exact wl_X2_2
  | 3, _ => exact wl_X2_3
  | 4, _ => exact wl_X2_4
  | k + 5, hk => exact absurd hk (by omega)
theorem wl_X3_0 : u_lay RX3 TX3 0 ∈ lw_g := lw_gin 238 (by decide +kernel) (by decide +kernel)
theorem in_X3 : ∀ w ∈ u_ws RX3 TX3 1, w ∈ lw_g := fun w h => by
  obtain ⟨k, hk, rfl⟩ := List.mem_map.mp h
  have hk := List.mem_range.mp hk
  match k, hk with
  | 0, _ => exact wl_X3_0
  | k + 1, hk => exact absurd hk (by omega)
theorem wl_X4_0 : u_lay RX4 TX4 0 ∈ lw_g := lw_gin 214 (by decide +kernel) (by decide +kernel)
theorem wl_X4_1 : u_lay RX4 TX4 1 ∈ lw_g := lw_gin 216 (by decide +kernel) (by decide +kernel)
theorem wl_X4_2 : u_lay RX4 TX4 2 ∈ lw_g := lw_gin 218 (by decide +kernel) (by decide +kernel)
theorem wl_X4_3 : u_lay RX4 TX4 3 ∈ lw_g := lw_gin 220 (by decide +kernel) (by decide +kernel)
theorem wl_X4_4 : u_lay RX4 TX4 4 ∈ lw_g := lw_gin 222 (by decide +kernel) (by decide +kernel)
theorem wl_X4_5 : u_lay RX4 TX4 5 ∈ lw_g := lw_gin 224 (by decide +kernel) (by decide +kernel)
theorem wl_X4_6 : u_lay RX4 TX4 6 ∈ lw_g := lw_gin 226 (by decide +kernel) (by decide +kernel)
theorem in_X4 : ∀ w ∈ u_ws RX4 TX4 7, w ∈ lw_g := fun w h => by
  obtain ⟨k, hk, rfl⟩ := List.mem_map.mp h
  have hk := List.mem_range.mp hk
  match k, hk with
  | 0, _ => exact wl_X4_0
  | 1, _ => exact wl_X4_1
  | 2, _ => exact wl_X4_2
  | 3, _ => exact wl_X4_3
  | 4, _ => exact wl_X4_4
  | 5, _ => exact wl_X4_5
  | 6, _ => exact wl_X4_6
  | k + 7, hk => exact absurd hk (by omega)
theorem wl_X5_0 : u_lay RX5 TX5 0 ∈ lw_g := lw_gin 260 (by decide +kernel) (by decide +kernel)
theorem wl_X5_1 : u_lay RX5 TX5 1 ∈ lw_g := lw_gin 262 (by decide +kernel) (by decide +kernel)
theorem in_X5 : ∀ w ∈ u_ws RX5 TX5 2, w ∈ lw_g := fun w h => by
  obtain ⟨k, hk, rfl⟩ := List.mem_map.mp h
  have hk := List.mem_range.mp hk
  match k, hk with
  | 0, _ => exact wl_X5_0
  | 1, _ => exact wl_X5_1
  | k + 2, hk => exact absurd hk (by omega)
theorem wl_X6_0 : u_lay RX6 TX6 0 ∈ lw_g := lw_gin 195 (by decide +kernel) (by decide +kernel)
theorem wl_X6_1 : u_lay RX6 TX6 1 ∈ lw_g := lw_gin 197 (by decide +kernel) (by decide +kernel)
theorem in_X6 : ∀ w ∈ u_ws RX6 TX6 2, w ∈ lw_g := fun w h => by
  obtain ⟨k, hk, rfl⟩ := List.mem_map.mp h
  have hk := List.mem_range.mp hk
  match k, hk with
  | 0, _ => exact wl_X6_0
  | 1, _ => exact wl_X6_1
  | k + 2, hk => exact absurd hk (by omega)
theorem wl_X7_0 : u_lay RX7 TX7 0 ∈ lw_g := lw_gin 450 (by decide +kernel) (by decide +kernel)
theorem wl_X7_1 : u_lay RX7 TX7 1 ∈ lw_g := lw_gin 452 (by decide +kernel) (by decide +kernel)
theorem wl_X7_2 : u_lay RX7 TX7 2 ∈ lw_g := lw_gin 454 (by decide +kernel) (by decide +kernel)
theorem wl_X7_3 : u_lay RX7 TX7 3 ∈ lw_g := lw_gin 456 (by decide +kernel) (by decide +kernel)
theorem wl_X7_4 : u_lay RX7 TX7 4 ∈ lw_g := lw_gin 458 (by decide +kernel) (by decide +kernel)
theorem wl_X7_5 : u_lay RX7 TX7 5 ∈ lw_g := lw_gin 460 (by decide +kernel) (by decide +kernel)
theorem wl_X7_6 : u_lay RX7 TX7 6 ∈ lw_g := lw_gin 462 (by decide +kernel) (by decide +kernel)
theorem wl_X7_7 : u_lay RX7 TX7 7 ∈ lw_g := lw_gin 464 (by decide +kernel) (by decide +kernel)
theorem wl_X7_8 : u_lay RX7 TX7 8 ∈ lw_g := lw_gin 466 (by decide +kernel) (by decide +kernel)
theorem wl_X7_9 : u_lay RX7 TX7 9 ∈ lw_g := lw_gin 468 (by decide +kernel) (by decide +kernel)
theorem wl_X7_10 : u_lay RX7 TX7 10 ∈ lw_g := lw_gin 470 (by decide +kernel) (by decide +kernel)
theorem wl_X7_11 : u_lay RX7 TX7 11 ∈ lw_g := lw_gin 472 (by decide +kernel) (by decide +kernel)
theorem in_X7 : ∀ w ∈ u_ws RX7 TX7 12, w ∈ lw_g := fun w h => by
  obtain ⟨k, hk, rfl⟩ := List.mem_map.mp h
  have hk := List.mem_range.mp hk
  match k, hk with
  | 0, _ => exact wl_X7_0
  | 1, _ => exact wl_X7_1
  | 2, _ => exact wl_X7_2
  | 3, _ => exact wl_X7_3
  | 4, _ => exact wl_X7_4
  | 5, _ => exact wl_X7_5
  | 6, _ => exact wl_X7_6
  | 7, _ => exact wl_X7_7
  | 8, _ => exact wl_X7_8
  | 9, _ => exact wl_X7_9
  | 10, _ => exact wl_X7_10
  | 11, _ => exact wl_X7_11
  | k + 12, hk => exact absurd hk (by omega)
theorem wl_X8_0 : u_lay RX8 TX8 0 ∈ lw_g := lw_gin 339 (by decide +kernel) (by decide +kernel)
theorem wl_X8_1 : u_lay RX8 TX8 1 ∈ lw_g := lw_gin 341 (by decide +kernel) (by decide +kernel)
theorem wl_X8_2 : u_lay RX8 TX8 2 ∈ lw_g := lw_gin 343 (by decide +kernel) (by decide +kernel)
theorem wl_X8_3 : u_lay RX8 TX8 3 ∈ lw_g := lw_gin 345 (by decide +kernel) (by decide +kernel)
theorem wl_X8_4 : u_lay RX8 TX8 4 ∈ lw_g := lw_gin 347 (by decide +kernel) (by decide +kernel)
theorem wl_X8_5 : u_lay RX8 TX8 5 ∈ lw_g := lw_gin 349 (by decide +kernel) (by decide +kernel)
theorem wl_X8_6 : u_lay RX8 TX8 6 ∈ lw_g := lw_gin 351 (by decide +kernel) (by decide +kernel)
theorem wl_X8_7 : u_lay RX8 TX8 7 ∈ lw_g := lw_gin 353 (by decide +kernel) (by decide +kernel)
theorem wl_X8_8 : u_lay RX8 TX8 8 ∈ lw_g := lw_gin 355 (by decide +kernel) (by decide +kernel)
theorem wl_X8_9 : u_lay RX8 TX8 9 ∈ lw_g := lw_gin 357 (by decide +kernel) (by decide +kernel)
theorem wl_X8_10 : u_lay RX8 TX8 10 ∈ lw_g := lw_gin 359 (by decide +kernel) (by decide +kernel)
theorem wl_X8_11 : u_lay RX8 TX8 11 ∈ lw_g := lw_gin 361 (by decide +kernel) (by decide +kernel)
theorem wl_X8_12 : u_lay RX8 TX8 12 ∈ lw_g := lw_gin 363 (by decide +kernel) (by decide +kernel)
theorem wl_X8_13 : u_lay RX8 TX8 13 ∈ lw_g := lw_gin 365 (by decide +kernel) (by decide +kernel)
theorem wl_X8_14 : u_lay RX8 TX8 14 ∈ lw_g := lw_gin 367 (by decide +kernel) (by decide +kernel)
theorem wl_X8_15 : u_lay RX8 TX8 15 ∈ lw_g := lw_gin 369 (by decide +kernel) (by decide +kernel)
theorem wl_X8_16 : u_lay RX8 TX8 16 ∈ lw_g := lw_gin 371 (by decide +kernel) (by decide +kernel)
theorem wl_X8_17 : u_lay RX8 TX8 17 ∈ lw_g := lw_gin 373 (by decide +kernel) (by decide +kernel)
theorem wl_X8_18 : u_lay RX8 TX8 18 ∈ lw_g := lw_gin 375 (by decide +kernel) (by decide +kernel)
theorem in_X8 : ∀ w ∈ u_ws RX8 TX8 19, w ∈ lw_g := fun w h => by
  obtain ⟨k, hk, rfl⟩ := List.mem_map.mp h
  have hk := List.mem_range.mp hk
  match k, hk with
  | 0, _ => exact wl_X8_0
  | 1, _ => exact wl_X8_1
  | 2, _ => exact wl_X8_2
  | 3, _ => exact wl_X8_3
  | 4, _ => exact wl_X8_4
  | 5, _ => exact wl_X8_5
  | 6, _ => exact wl_X8_6
  | 7, _ => exact wl_X8_7
  | 8, _ => exact wl_X8_8
  | 9, _ => exact wl_X8_9
  | 10, _ => exact wl_X8_10
  | 11, _ => exact wl_X8_11
  | 12, _ => exact wl_X8_12
  | 13, _ => exact wl_X8_13
  | 14, _ => exact wl_X8_14
  | 15, _ => exact wl_X8_15
  | 16, _ => exact wl_X8_16
  | 17, _ => exact wl_X8_17
  | 18, _ => exact wl_X8_18
  | k + 19, hk => exact absurd hk (by omega)
theorem wl_X9_0 : u_lay RX9 TX9 0 ∈ lw_g := lw_gin 99 (by decide +kernel) (by decide +kernel)
theorem wl_X9_1 : u_lay RX9 TX9 1 ∈ lw_g := lw_gin 101 (by decide +kernel) (by decide +kernel)
theorem wl_X9_2 : u_lay RX9 TX9 2 ∈ lw_g := lw_gin 103 (by decide +kernel) (by decide +kernel)
theorem wl_X9_3 : u_lay RX9 TX9 3 ∈ lw_g := lw_gin 105 (by decide +kernel) (by decide +kernel)
theorem wl_X9_4 : u_lay RX9 TX9 4 ∈ lw_g := lw_gin 107 (by decide +kernel) (by decide +kernel)
theorem wl_X9_5 : u_lay RX9 TX9 5 ∈ lw_g := lw_gin 109 (by decide +kernel) (by decide +kernel)
theorem wl_X9_6 : u_lay RX9 TX9 6 ∈ lw_g := lw_gin 111 (by decide +kernel) (by decide +kernel)
theorem wl_X9_7 : u_lay RX9 TX9 7 ∈ lw_g := lw_gin 113 (by decide +kernel) (by decide +kernel)
theorem wl_X9_8 : u_lay RX9 TX9 8 ∈ lw_g := lw_gin 115 (by decide +kernel) (by decide +kernel)
theorem in_X9 : ∀ w ∈ u_ws RX9 TX9 9, w ∈ lw_g := fun w h => by
  obtain ⟨k, hk, rfl⟩ := List.mem_map.mp h
  have hk := List.mem_range.mp hk
  match k, hk with
  | 0, _ => exact wl_X9_0
  | 1, _ => exact wl_X9_1
  | 2, _ => exact wl_X9_2
  | 3, _ => exact wl_X9_3
  | 4, _ => exact wl_X9_4
  | 5, _ => exact wl_X9_5
  | 6, _ => exact wl_X9_6
  | 7, _ => exact wl_X9_7
  | 8, _ => exact wl_X9_8
  | k + 9, hk => exact absurd hk (by omega)
theorem wl_X10_0 : u_lay RX10 TX10 0 ∈ lw_g := lw_gin 516 (by decide +kernel) (by decide +kernel)
theorem wl_X10_1 : u_lay RX10 TX10 1 ∈ lw_g := lw_gin 518 (by decide +kernel) (by decide +kernel)
theorem wl_X10_2 : u_lay RX10 TX10 2 ∈ lw_g := lw_gin 520 (by decide +kernel) (by decide +kernel)
theorem wl_X10_3 : u_lay RX10 TX10 3 ∈ lw_g := lw_gin 522 (by decide +kernel) (by decide +kernel)
theorem wl_X10_4 : u_lay RX10 TX10 4 ∈ lw_g := lw_gin 524 (by decide +kernel) (by decide +kernel)
theorem wl_X10_5 : u_lay RX10 TX10 5 ∈ lw_g := lw_gin 526 (by decide +kernel) (by decide +kernel)
theorem wl_X10_6 : u_lay RX10 TX10 6 ∈ lw_g := lw_gin 528 (by decide +kernel) (by decide +kernel)
theorem wl_X10_7 : u_lay RX10 TX10 7 ∈ lw_g := lw_gin 530 (by decide +kernel) (by decide +kernel)
theorem wl_X10_8 : u_lay RX10 TX10 8 ∈ lw_g := lw_gin 532 (by decide +kernel) (by decide +kernel)
theorem wl_X10_9 : u_lay RX10 TX10 9 ∈ lw_g := lw_gin 534 (by decide +kernel) (by decide +kernel)
theorem wl_X10_10 : u_lay RX10 TX10 10 ∈ lw_g := lw_gin 536 (by decide +kernel) (by decide +kernel)
theorem wl_X10_11 : u_lay RX10 TX10 11 ∈ lw_g := lw_gin 538 (by decide +kernel) (by decide +kernel)
theorem wl_X10_12 : u_lay RX10 TX10 12 ∈ lw_g := lw_gin 540 (by decide +kernel) (by decide +kernel)
theorem wl_X10_13 : u_lay RX10 TX10 13 ∈ lw_g := lw_gin 542 (by decide +kernel) (by decide +kernel)
theorem wl_X10_14 : u_lay RX10 TX10 14 ∈ lw_g := lw_gin 544 (by decide +kernel) (by decide +kernel)
theorem wl_X10_15 : u_lay RX10 TX10 15 ∈ lw_g := lw_gin 546 (by decide +kernel) (by decide +kernel)
theorem in_X10 : ∀ w ∈ u_ws RX10 TX10 16, w ∈ lw_g := fun w h => by
  obtain ⟨k, hk, rfl⟩ := List.mem_map.mp h
  have hk := List.mem_range.mp hk
  match k, hk with
  | 0, _ => exact wl_X10_0
  | 1, _ => exact wl_X10_1
  | 2, _ => exact wl_X10_2
  | 3, _ => exact wl_X10_3
  | 4, _ => exact wl_X10_4
  | 5, _ => exact wl_X10_5
  | 6, _ => exact wl_X10_6
  | 7, _ => exact wl_X10_7
  | 8, _ => exact wl_X10_8
  | 9, _ => exact wl_X10_9
  | 10, _ => exact wl_X10_10
  | 11, _ => exact wl_X10_11
  | 12, _ => exact wl_X10_12
  | 13, _ => exact wl_X10_13
  | 14, _ => exact wl_X10_14
  | 15, _ => exact wl_X10_15
  | k + 16, hk => exact absurd hk (by omega)
theorem wl_X11_0 : u_lay RX11 TX11 0 ∈ lw_g := lw_gin 1335 (by decide +kernel) (by decide +kernel)
theorem wl_X11_1 : u_lay RX11 TX11 1 ∈ lw_g := lw_gin 1337 (by decide +kernel) (by decide +kernel)
theorem wl_X11_2 : u_lay RX11 TX11 2 ∈ lw_g := lw_gin 1339 (by decide +kernel) (by decide +kernel)
theorem wl_X11_3 : u_lay RX11 TX11 3 ∈ lw_g := lw_gin 1341 (by decide +kernel) (by decide +kernel)
theorem wl_X11_4 : u_lay RX11 TX11 4 ∈ lw_g := lw_gin 1343 (by decide +kernel) (by decide +kernel)
theorem wl_X11_5 : u_lay RX11 TX11 5 ∈ lw_g := lw_gin 1345 (by decide +kernel) (by decide +kernel)
theorem wl_X11_6 : u_lay RX11 TX11 6 ∈ lw_g := lw_gin 1347 (by decide +kernel) (by decide +kernel)
theorem wl_X11_7 : u_lay RX11 TX11 7 ∈ lw_g := lw_gin 1349 (by decide +kernel) (by decide +kernel)
theorem wl_X11_8 : u_lay RX11 TX11 8 ∈ lw_g := lw_gin 1351 (by decide +kernel) (by decide +kernel)
theorem wl_X11_9 : u_lay RX11 TX11 9 ∈ lw_g := lw_gin 1353 (by decide +kernel) (by decide +kernel)
theorem wl_X11_10 : u_lay RX11 TX11 10 ∈ lw_g := lw_gin 1355 (by decide +kernel) (by decide +kernel)
theorem wl_X11_11 : u_lay RX11 TX11 11 ∈ lw_g := lw_gin 1357 (by decide +kernel) (by decide +kernel)
theorem wl_X11_12 : u_lay RX11 TX11 12 ∈ lw_g := lw_gin 1359 (by decide +kernel) (by decide +kernel)
theorem wl_X11_13 : u_lay RX11 TX11 13 ∈ lw_g := lw_gin 1361 (by decide +kernel) (by decide +kernel)
theorem wl_X11_14 : u_lay RX11 TX11 14 ∈ lw_g := lw_gin 1363 (by decide +kernel) (by decide +kernel)
theorem wl_X11_15 : u_lay RX11 TX11 15 ∈ lw_g := lw_gin 1365 (by decide +kernel) (by decide +kernel)
theorem wl_X11_16 : u_lay RX11 TX11 16 ∈ lw_g := lw_gin 1367 (by decide +kernel) (by decide +kernel)
theorem wl_X11_17 : u_lay RX11 TX11 17 ∈ lw_g := lw_gin 1369 (by decide +kernel) (by decide +kernel)
theorem wl_X11_18 : u_lay RX11 TX11 18 ∈ lw_g := lw_gin 1371 (by decide +kernel) (by decide +kernel)
theorem wl_X11_19 : u_lay RX11 TX11 19 ∈ lw_g := lw_gin 1373 (by decide +kernel) (by decide +kernel)
theorem wl_X11_20 : u_lay RX11 TX11 20 ∈ lw_g := lw_gin 1375 (by decide +kernel) (by decide +kernel)
theorem wl_X11_21 : u_lay RX11 TX11 21 ∈ lw_g := lw_gin 1377 (by decide +kernel) (by decide +kernel)
theorem wl_X11_22 : u_lay RX11 TX11 22 ∈ lw_g := lw_gin 1379 (by decide +kernel) (by decide +kernel)
theorem wl_X11_23 : u_lay RX11 TX11 23 ∈ lw_g := lw_gin 1381 (by decide +kernel) (by decide +kernel)
theorem wl_X11_24 : u_lay RX11 TX11 24 ∈ lw_g := lw_gin 1383 (by decide +kernel) (by decide +kernel)
theorem wl_X11_25 : u_lay RX11 TX11 25 ∈ lw_g := lw_gin 1385 (by decide +kernel) (by decide +kernel)
theorem wl_X11_26 : u_lay RX11 TX11 26 ∈ lw_g := lw_gin 1387 (by decide +kernel) (by decide +kernel)
theorem wl_X11_27 : u_lay RX11 TX11 27 ∈ lw_g := lw_gin 1389 (by decide +kernel) (by decide +kernel)
theorem wl_X11_28 : u_lay RX11 TX11 28 ∈ lw_g := lw_gin 1391 (by decide +kernel) (by decide +kernel)
theorem wl_X11_29 : u_lay RX11 TX11 29 ∈ lw_g := lw_gin 1393 (by decide +kernel) (by decide +kernel)
theorem wl_X11_30 : u_lay RX11 TX11 30 ∈ lw_g := lw_gin 1395 (by decide +kernel) (by decide +kernel)
theorem wl_X11_31 : u_lay RX11 TX11 31 ∈ lw_g := lw_gin 1397 (by decide +kernel) (by decide +kernel)
theorem wl_X11_32 : u_lay RX11 TX11 32 ∈ lw_g := lw_gin 1399 (by decide +kernel) (by decide +kernel)
theorem wl_X11_33 : u_lay RX11 TX11 33 ∈ lw_g := lw_gin 1401 (by decide +kernel) (by decide +kernel)
theorem wl_X11_34 : u_lay RX11 TX11 34 ∈ lw_g := lw_gin 1403 (by decide +kernel) (by decide +kernel)
theorem wl_X11_35 : u_lay RX11 TX11 35 ∈ lw_g := lw_gin 1405 (by decide +kernel) (by decide +kernel)
theorem wl_X11_36 : u_lay RX11 TX11 36 ∈ lw_g := lw_gin 1407 (by decide +kernel) (by decide +kernel)
theorem wl_X11_37 : u_lay RX11 TX11 37 ∈ lw_g := lw_gin 1409 (by decide +kernel) (by decide +kernel)
theorem wl_X11_38 : u_lay RX11 TX11 38 ∈ lw_g := lw_gin 1411 (by decide +kernel) (by decide +kernel)
theorem wl_X11_39 : u_lay RX11 TX11 39 ∈ lw_g := lw_gin 1413 (by decide +kernel) (by decide +kernel)
theorem wl_X11_40 : u_lay RX11 TX11 40 ∈ lw_g := lw_gin 1415 (by decide +kernel) (by decide +kernel)
theorem wl_X11_41 : u_lay RX11 TX11 41 ∈ lw_g := lw_gin 1417 (by decide +kernel) (by decide +kernel)
theorem wl_X11_42 : u_lay RX11 TX11 42 ∈ lw_g := lw_gin 1419 (by decide +kernel) (by decide +kernel)
theorem wl_X11_43 : u_lay RX11 TX11 43 ∈ lw_g := lw_gin 1421 (by decide +kernel) (by decide +kernel)
theorem wl_X11_44 : u_lay RX11 TX11 44 ∈ lw_g := lw_gin 1423 (by decide +kernel) (by decide +kernel)
theorem wl_X11_45 : u_lay RX11 TX11 45 ∈ lw_g := lw_gin 1425 (by decide +kernel) (by decide +kernel)
theorem wl_X11_46 : u_lay RX11 TX11 46 ∈ lw_g := lw_gin 1427 (by decide +kernel) (by decide +kernel)
theorem wl_X11_47 : u_lay RX11 TX11 47 ∈ lw_g := lw_gin 1429 (by decide +kernel) (by decide +kernel)
theorem wl_X11_48 : u_lay RX11 TX11 48 ∈ lw_g := lw_gin 1431 (by decide +kernel) (by decide +kernel)
theorem wl_X11_49 : u_lay RX11 TX11 49 ∈ lw_g := lw_gin 1433 (by decide +kernel) (by decide +kernel)
theorem wl_X11_50 : u_lay RX11 TX11 50 ∈ lw_g := lw_gin 1435 (by decide +kernel) (by decide +kernel)
theorem wl_X11_51 : u_lay RX11 TX11 51 ∈ lw_g := lw_gin 1437 (by decide +kernel) (by decide +kernel)
theorem wl_X11_52 : u_lay RX11 TX11 52 ∈ lw_g := lw_gin 1439 (by decide +kernel) (by decide +kernel)
theorem wl_X11_53 : u_lay RX11 TX11 53 ∈ lw_g := lw_gin 1441 (by decide +kernel) (by decide +kernel)
theorem wl_X11_54 : u_lay RX11 TX11 54 ∈ lw_g := lw_gin 1443 (by decide +kernel) (by decide +kernel)
theorem wl_X11_55 : u_lay RX11 TX11 55 ∈ lw_g := lw_gin 1445 (by decide +kernel) (by decide +kernel)
theorem wl_X11_56 : u_lay RX11 TX11 56 ∈ lw_g := lw_gin 1447 (by decide +kernel) (by decide +kernel)
theorem wl_X11_57 : u_lay RX11 TX11 57 ∈ lw_g := lw_gin 1449 (by decide +kernel) (by decide +kernel)
theorem wl_X11_58 : u_lay RX11 TX11 58 ∈ lw_g := lw_gin 1451 (by decide +kernel) (by decide +kernel)
theorem in_X11 : ∀ w ∈ u_ws RX11 TX11 59, w ∈ lw_g := fun w h => by
  obtain ⟨k, hk, rfl⟩ := List.mem_map.mp h
  have hk := List.mem_range.mp hk
  match k, hk with
  | 0, _ => exact wl_X11_0
  | 1, _ => exact wl_X11_1
  | 2, _ => exact wl_X11_2
  | 3, _ => exact wl_X11_3
  | 4, _ => exact wl_X11_4
  | 5, _ => exact wl_X11_5
  | 6, _ => exact wl_X11_6
  | 7, _ => exact wl_X11_7
  | 8, _ => exact wl_X11_8
  | 9, _ => exact wl_X11_9
  | 10, _ => exact wl_X11_10
  | 11, _ => exact wl_X11_11
  | 12, _ => exact wl_X11_12
  | 13, _ => exact wl_X11_13
  | 14, _ => exact wl_X11_14
  | 15, _ => exact wl_X11_15
  | 16, _ => exact wl_X11_16
  | 17, _ => exact wl_X11_17
  | 18, _ => exact wl_X11_18
  | 19, _ => exact wl_X11_19
  | 20, _ => exact wl_X11_20
  | 21, _ => exact wl_X11_21
  | 22, _ => exact wl_X11_22
  | 23, _ => exact wl_X11_23
  | 24, _ => exact wl_X11_24
  | 25, _ => exact wl_X11_25
  | 26, _ => exact wl_X11_26
  | 27, _ => exact wl_X11_27
  | 28, _ => exact wl_X11_28
  | 29, _ => exact wl_X11_29
  | 30, _ => exact wl_X11_30
  | 31, _ => exact wl_X11_31
  | 32, _ => exact wl_X11_32
  | 33, _ => exact wl_X11_33
  | 34, _ => exact wl_X11_34
  | 35, _ => exact wl_X11_35
  | 36, _ => exact wl_X11_36
  | 37, _ => exact wl_X11_37
  | 38, _ => exact wl_X11_38
  | 39, _ => exact wl_X11_39
  | 40, _ => exact wl_X11_40
  | 41, _ => exact wl_X11_41
  | 42, _ => exact wl_X11_42
  | 43, _ => exact wl_X11_43
  | 44, _ => exact wl_X11_44
  | 45, _ => exact wl_X11_45
  | 46, _ => exact wl_X11_46
  | 47, _ => exact wl_X11_47
  | 48, _ => exact wl_X11_48
  | 49, _ => exact wl_X11_49
  | 50, _ => exact wl_X11_50
  | 51, _ => exact wl_X11_51
  | 52, _ => exact wl_X11_52
  | 53, _ => exact wl_X11_53
  | 54, _ => exact wl_X11_54
  | 55, _ => exact wl_X11_55
  | 56, _ => exact wl_X11_56
  | 57, _ => exact wl_X11_57
  | 58, _ => exact wl_X11_58
  | k + 59, hk => exact absurd hk (by omega)
