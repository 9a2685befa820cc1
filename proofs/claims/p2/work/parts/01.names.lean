-- ===== PART A: goes FIRST, ahead of the names: the tables' words, and 'selects' of the private methods out of them =====
/-- a private method of a class that the tables say can be made, by its rows of tables_1 -/
def lw_okq (q : MethodName × Nat) : Prop := (q.1.cls ≠ "java/lang/invoke/MethodHandle" ∧ q.1.cls ≠ "java/lang/invoke/VarHandle") ∧ Cond.instantiable q.1.cls q.2 ∈ tables_1 ∧ Cond.privateMethod q.1 ∈ tables_1 ∧ Cond.instanceMethod q.1 ∈ tables_1
theorem lw_p0 : lw_okq (⟨"MacroScopes$Names", "addGiven", "(Ljava/lang/String;)V"⟩, 13) := ⟨⟨by decide +kernel, by decide +kernel⟩, List.mem_of_getElem? (i := 30) (by decide +kernel), List.mem_of_getElem? (i := 37) (by decide +kernel), List.mem_of_getElem? (i := 38) (by decide +kernel)⟩
theorem lw_p1 : lw_okq (⟨"MacroScopes$Reader", "addToken", "([CII)I"⟩, 4) := ⟨⟨by decide +kernel, by decide +kernel⟩, List.mem_of_getElem? (i := 201) (by decide +kernel), List.mem_of_getElem? (i := 507) (by decide +kernel), List.mem_of_getElem? (i := 508) (by decide +kernel)⟩
theorem lw_p2 : lw_okq (⟨"MacroScopes$Reader", "openList", "()I"⟩, 4) := ⟨⟨by decide +kernel, by decide +kernel⟩, List.mem_of_getElem? (i := 201) (by decide +kernel), List.mem_of_getElem? (i := 511) (by decide +kernel), List.mem_of_getElem? (i := 512) (by decide +kernel)⟩
theorem lw_p3 : lw_okq (⟨"MacroScopes$Reader", "closeList", "()I"⟩, 4) := ⟨⟨by decide +kernel, by decide +kernel⟩, List.mem_of_getElem? (i := 201) (by decide +kernel), List.mem_of_getElem? (i := 519) (by decide +kernel), List.mem_of_getElem? (i := 520) (by decide +kernel)⟩
theorem lw_p4 : lw_okq (⟨"MacroScopes$Reader", "addNumber", "([CII)I"⟩, 4) := ⟨⟨by decide +kernel, by decide +kernel⟩, List.mem_of_getElem? (i := 201) (by decide +kernel), List.mem_of_getElem? (i := 533) (by decide +kernel), List.mem_of_getElem? (i := 534) (by decide +kernel)⟩
theorem lw_p5 : lw_okq (⟨"MacroScopes$Reader", "addSymbol", "([CII)I"⟩, 4) := ⟨⟨by decide +kernel, by decide +kernel⟩, List.mem_of_getElem? (i := 201) (by decide +kernel), List.mem_of_getElem? (i := 553) (by decide +kernel), List.mem_of_getElem? (i := 554) (by decide +kernel)⟩
theorem lw_p6 : lw_okq (⟨"MacroScopes$Expander", "startText", "()V"⟩, 15) := ⟨⟨by decide +kernel, by decide +kernel⟩, List.mem_of_getElem? (i := 220) (by decide +kernel), List.mem_of_getElem? (i := 568) (by decide +kernel), List.mem_of_getElem? (i := 569) (by decide +kernel)⟩
theorem lw_p7 : lw_okq (⟨"MacroScopes$Expander", "nextInFrame", "()I"⟩, 15) := ⟨⟨by decide +kernel, by decide +kernel⟩, List.mem_of_getElem? (i := 220) (by decide +kernel), List.mem_of_getElem? (i := 573) (by decide +kernel), List.mem_of_getElem? (i := 574) (by decide +kernel)⟩
theorem lw_p8 : lw_okq (⟨"MacroScopes$Expander", "leaveFrame", "()V"⟩, 15) := ⟨⟨by decide +kernel, by decide +kernel⟩, List.mem_of_getElem? (i := 220) (by decide +kernel), List.mem_of_getElem? (i := 585) (by decide +kernel), List.mem_of_getElem? (i := 586) (by decide +kernel)⟩
theorem lw_p9 : lw_okq (⟨"MacroScopes$Told", "add", "(C)V"⟩, 5) := ⟨⟨by decide +kernel, by decide +kernel⟩, List.mem_of_getElem? (i := 177) (by decide +kernel), List.mem_of_getElem? (i := 593) (by decide +kernel), List.mem_of_getElem? (i := 594) (by decide +kernel)⟩
theorem lw_p10 : lw_okq (⟨"MacroScopes$Expander", "nextTopForm", "()I"⟩, 15) := ⟨⟨by decide +kernel, by decide +kernel⟩, List.mem_of_getElem? (i := 220) (by decide +kernel), List.mem_of_getElem? (i := 609) (by decide +kernel), List.mem_of_getElem? (i := 610) (by decide +kernel)⟩
theorem lw_p11 : lw_okq (⟨"MacroScopes$Expander", "remember", "()V"⟩, 15) := ⟨⟨by decide +kernel, by decide +kernel⟩, List.mem_of_getElem? (i := 220) (by decide +kernel), List.mem_of_getElem? (i := 614) (by decide +kernel), List.mem_of_getElem? (i := 615) (by decide +kernel)⟩
theorem lw_p12 : lw_okq (⟨"MacroScopes$Expander", "define", "(I)V"⟩, 15) := ⟨⟨by decide +kernel, by decide +kernel⟩, List.mem_of_getElem? (i := 220) (by decide +kernel), List.mem_of_getElem? (i := 638) (by decide +kernel), List.mem_of_getElem? (i := 639) (by decide +kernel)⟩
theorem lw_p13 : lw_okq (⟨"MacroScopes$Expander", "definesSymbol", "(I)Z"⟩, 15) := ⟨⟨by decide +kernel, by decide +kernel⟩, List.mem_of_getElem? (i := 220) (by decide +kernel), List.mem_of_getElem? (i := 642) (by decide +kernel), List.mem_of_getElem? (i := 643) (by decide +kernel)⟩
theorem lw_p14 : lw_okq (⟨"MacroScopes$Told", "addBlank", "()V"⟩, 5) := ⟨⟨by decide +kernel, by decide +kernel⟩, List.mem_of_getElem? (i := 177) (by decide +kernel), List.mem_of_getElem? (i := 660) (by decide +kernel), List.mem_of_getElem? (i := 661) (by decide +kernel)⟩
theorem lw_p15 : lw_okq (⟨"MacroScopes$Told", "addHalf", "(J)V"⟩, 5) := ⟨⟨by decide +kernel, by decide +kernel⟩, List.mem_of_getElem? (i := 177) (by decide +kernel), List.mem_of_getElem? (i := 668) (by decide +kernel), List.mem_of_getElem? (i := 669) (by decide +kernel)⟩
def lw_privs_1 : List (MethodName × Nat) := [(⟨"MacroScopes$Names", "addGiven", "(Ljava/lang/String;)V"⟩, 13), (⟨"MacroScopes$Reader", "addToken", "([CII)I"⟩, 4), (⟨"MacroScopes$Reader", "openList", "()I"⟩, 4), (⟨"MacroScopes$Reader", "closeList", "()I"⟩, 4), (⟨"MacroScopes$Reader", "addNumber", "([CII)I"⟩, 4), (⟨"MacroScopes$Reader", "addSymbol", "([CII)I"⟩, 4), (⟨"MacroScopes$Expander", "startText", "()V"⟩, 15), (⟨"MacroScopes$Expander", "nextInFrame", "()I"⟩, 15), (⟨"MacroScopes$Expander", "leaveFrame", "()V"⟩, 15), (⟨"MacroScopes$Told", "add", "(C)V"⟩, 5), (⟨"MacroScopes$Expander", "nextTopForm", "()I"⟩, 15), (⟨"MacroScopes$Expander", "remember", "()V"⟩, 15), (⟨"MacroScopes$Expander", "define", "(I)V"⟩, 15), (⟨"MacroScopes$Expander", "definesSymbol", "(I)Z"⟩, 15), (⟨"MacroScopes$Told", "addBlank", "()V"⟩, 5), (⟨"MacroScopes$Told", "addHalf", "(J)V"⟩, 5)]
theorem lw_r1 : ∀ q ∈ lw_privs_1, lw_okq q := List.forall_mem_cons.mpr ⟨lw_p0, List.forall_mem_cons.mpr ⟨lw_p1, List.forall_mem_cons.mpr ⟨lw_p2, List.forall_mem_cons.mpr ⟨lw_p3, List.forall_mem_cons.mpr ⟨lw_p4, List.forall_mem_cons.mpr ⟨lw_p5, List.forall_mem_cons.mpr ⟨lw_p6, List.forall_mem_cons.mpr ⟨lw_p7, List.forall_mem_cons.mpr ⟨lw_p8, List.forall_mem_cons.mpr ⟨lw_p9, List.forall_mem_cons.mpr ⟨lw_p10, List.forall_mem_cons.mpr ⟨lw_p11, List.forall_mem_cons.mpr ⟨lw_p12, List.forall_mem_cons.mpr ⟨lw_p13, List.forall_mem_cons.mpr ⟨lw_p14, List.forall_mem_cons.mpr ⟨lw_p15, fun _ h => absurd h List.not_mem_nil⟩⟩⟩⟩⟩⟩⟩⟩⟩⟩⟩⟩⟩⟩⟩⟩
theorem lw_p16 : lw_okq (⟨"MacroScopes$Expander", "defineSyntax", "(I)V"⟩, 15) := ⟨⟨by decide +kernel, by decide +kernel⟩, List.mem_of_getElem? (i := 220) (by decide +kernel), List.mem_of_getElem? (i := 677) (by decide +kernel), List.mem_of_getElem? (i := 678) (by decide +kernel)⟩
theorem lw_p17 : lw_okq (⟨"MacroScopes$RuleCheck", "literalsFit", "()Z"⟩, 4) := ⟨⟨by decide +kernel, by decide +kernel⟩, List.mem_of_getElem? (i := 314) (by decide +kernel), List.mem_of_getElem? (i := 699) (by decide +kernel), List.mem_of_getElem? (i := 700) (by decide +kernel)⟩
theorem lw_p18 : lw_okq (⟨"MacroScopes$RuleCheck", "ruleFits", "(I)Z"⟩, 4) := ⟨⟨by decide +kernel, by decide +kernel⟩, List.mem_of_getElem? (i := 314) (by decide +kernel), List.mem_of_getElem? (i := 709) (by decide +kernel), List.mem_of_getElem? (i := 710) (by decide +kernel)⟩
theorem lw_p19 : lw_okq (⟨"MacroScopes$RuleCheck", "patternsFit", "(III)Z"⟩, 4) := ⟨⟨by decide +kernel, by decide +kernel⟩, List.mem_of_getElem? (i := 314) (by decide +kernel), List.mem_of_getElem? (i := 717) (by decide +kernel), List.mem_of_getElem? (i := 718) (by decide +kernel)⟩
theorem lw_p20 : lw_okq (⟨"MacroScopes$RuleCheck", "patternFits", "(IZI)Z"⟩, 4) := ⟨⟨by decide +kernel, by decide +kernel⟩, List.mem_of_getElem? (i := 314) (by decide +kernel), List.mem_of_getElem? (i := 725) (by decide +kernel), List.mem_of_getElem? (i := 726) (by decide +kernel)⟩
theorem lw_p21 : lw_okq (⟨"MacroScopes$RuleCheck", "templateFits", "(II)Z"⟩, 4) := ⟨⟨by decide +kernel, by decide +kernel⟩, List.mem_of_getElem? (i := 314) (by decide +kernel), List.mem_of_getElem? (i := 745) (by decide +kernel), List.mem_of_getElem? (i := 746) (by decide +kernel)⟩
theorem lw_p22 : lw_okq (⟨"MacroScopes$RuleCheck", "holdsRepeated", "(I)Z"⟩, 4) := ⟨⟨by decide +kernel, by decide +kernel⟩, List.mem_of_getElem? (i := 314) (by decide +kernel), List.mem_of_getElem? (i := 749) (by decide +kernel), List.mem_of_getElem? (i := 750) (by decide +kernel)⟩
theorem lw_p23 : lw_okq (⟨"MacroScopes$Expander", "headMeaning", "(I)I"⟩, 15) := ⟨⟨by decide +kernel, by decide +kernel⟩, List.mem_of_getElem? (i := 220) (by decide +kernel), List.mem_of_getElem? (i := 762) (by decide +kernel), List.mem_of_getElem? (i := 763) (by decide +kernel)⟩
theorem lw_p24 : lw_okq (⟨"MacroScopes$Expander", "expandAlone", "(I)V"⟩, 15) := ⟨⟨by decide +kernel, by decide +kernel⟩, List.mem_of_getElem? (i := 220) (by decide +kernel), List.mem_of_getElem? (i := 768) (by decide +kernel), List.mem_of_getElem? (i := 769) (by decide +kernel)⟩
theorem lw_p25 : lw_okq (⟨"MacroScopes$Told", "addDigits", "(I)V"⟩, 5) := ⟨⟨by decide +kernel, by decide +kernel⟩, List.mem_of_getElem? (i := 177) (by decide +kernel), List.mem_of_getElem? (i := 784) (by decide +kernel), List.mem_of_getElem? (i := 785) (by decide +kernel)⟩
theorem lw_p26 : lw_okq (⟨"MacroScopes$Expander", "canExpand", "(I)Z"⟩, 15) := ⟨⟨by decide +kernel, by decide +kernel⟩, List.mem_of_getElem? (i := 220) (by decide +kernel), List.mem_of_getElem? (i := 806) (by decide +kernel), List.mem_of_getElem? (i := 807) (by decide +kernel)⟩
theorem lw_p27 : lw_okq (⟨"MacroScopes$Expander", "expandUse", "(II)V"⟩, 15) := ⟨⟨by decide +kernel, by decide +kernel⟩, List.mem_of_getElem? (i := 220) (by decide +kernel), List.mem_of_getElem? (i := 811) (by decide +kernel), List.mem_of_getElem? (i := 812) (by decide +kernel)⟩
theorem lw_p28 : lw_okq (⟨"MacroScopes$Matcher", "rowMatches", "(IIIIZ)Z"⟩, 6) := ⟨⟨by decide +kernel, by decide +kernel⟩, List.mem_of_getElem? (i := 333) (by decide +kernel), List.mem_of_getElem? (i := 834) (by decide +kernel), List.mem_of_getElem? (i := 835) (by decide +kernel)⟩
theorem lw_p29 : lw_okq (⟨"MacroScopes$Matcher", "restMatches", "(III)Z"⟩, 6) := ⟨⟨by decide +kernel, by decide +kernel⟩, List.mem_of_getElem? (i := 333) (by decide +kernel), List.mem_of_getElem? (i := 839) (by decide +kernel), List.mem_of_getElem? (i := 840) (by decide +kernel)⟩
theorem lw_p30 : lw_okq (⟨"MacroScopes$Matcher", "addVariables", "(I)V"⟩, 6) := ⟨⟨by decide +kernel, by decide +kernel⟩, List.mem_of_getElem? (i := 333) (by decide +kernel), List.mem_of_getElem? (i := 843) (by decide +kernel), List.mem_of_getElem? (i := 844) (by decide +kernel)⟩
theorem lw_p31 : lw_okq (⟨"MacroScopes$Matcher", "isVariable", "(I)Z"⟩, 6) := ⟨⟨by decide +kernel, by decide +kernel⟩, List.mem_of_getElem? (i := 333) (by decide +kernel), List.mem_of_getElem? (i := 848) (by decide +kernel), List.mem_of_getElem? (i := 849) (by decide +kernel)⟩
def lw_privs_2 : List (MethodName × Nat) := [(⟨"MacroScopes$Expander", "defineSyntax", "(I)V"⟩, 15), (⟨"MacroScopes$RuleCheck", "literalsFit", "()Z"⟩, 4), (⟨"MacroScopes$RuleCheck", "ruleFits", "(I)Z"⟩, 4), (⟨"MacroScopes$RuleCheck", "patternsFit", "(III)Z"⟩, 4), (⟨"MacroScopes$RuleCheck", "patternFits", "(IZI)Z"⟩, 4), (⟨"MacroScopes$RuleCheck", "templateFits", "(II)Z"⟩, 4), (⟨"MacroScopes$RuleCheck", "holdsRepeated", "(I)Z"⟩, 4), (⟨"MacroScopes$Expander", "headMeaning", "(I)I"⟩, 15), (⟨"MacroScopes$Expander", "expandAlone", "(I)V"⟩, 15), (⟨"MacroScopes$Told", "addDigits", "(I)V"⟩, 5), (⟨"MacroScopes$Expander", "canExpand", "(I)Z"⟩, 15), (⟨"MacroScopes$Expander", "expandUse", "(II)V"⟩, 15), (⟨"MacroScopes$Matcher", "rowMatches", "(IIIIZ)Z"⟩, 6), (⟨"MacroScopes$Matcher", "restMatches", "(III)Z"⟩, 6), (⟨"MacroScopes$Matcher", "addVariables", "(I)V"⟩, 6), (⟨"MacroScopes$Matcher", "isVariable", "(I)Z"⟩, 6)]
theorem lw_r2 : ∀ q ∈ lw_privs_2, lw_okq q := List.forall_mem_cons.mpr ⟨lw_p16, List.forall_mem_cons.mpr ⟨lw_p17, List.forall_mem_cons.mpr ⟨lw_p18, List.forall_mem_cons.mpr ⟨lw_p19, List.forall_mem_cons.mpr ⟨lw_p20, List.forall_mem_cons.mpr ⟨lw_p21, List.forall_mem_cons.mpr ⟨lw_p22, List.forall_mem_cons.mpr ⟨lw_p23, List.forall_mem_cons.mpr ⟨lw_p24, List.forall_mem_cons.mpr ⟨lw_p25, List.forall_mem_cons.mpr ⟨lw_p26, List.forall_mem_cons.mpr ⟨lw_p27, List.forall_mem_cons.mpr ⟨lw_p28, List.forall_mem_cons.mpr ⟨lw_p29, List.forall_mem_cons.mpr ⟨lw_p30, List.forall_mem_cons.mpr ⟨lw_p31, fun _ h => absurd h List.not_mem_nil⟩⟩⟩⟩⟩⟩⟩⟩⟩⟩⟩⟩⟩⟩⟩⟩
theorem lw_p32 : lw_okq (⟨"MacroScopes$Matcher", "formMatches", "(IIZ)Z"⟩, 6) := ⟨⟨by decide +kernel, by decide +kernel⟩, List.mem_of_getElem? (i := 333) (by decide +kernel), List.mem_of_getElem? (i := 859) (by decide +kernel), List.mem_of_getElem? (i := 860) (by decide +kernel)⟩
theorem lw_p33 : lw_okq (⟨"MacroScopes$Matcher", "isMeant", "(II)Z"⟩, 6) := ⟨⟨by decide +kernel, by decide +kernel⟩, List.mem_of_getElem? (i := 333) (by decide +kernel), List.mem_of_getElem? (i := 867) (by decide +kernel), List.mem_of_getElem? (i := 868) (by decide +kernel)⟩
theorem lw_p34 : lw_okq (⟨"MacroScopes$Maker", "isEven", "(I)Z"⟩, 6) := ⟨⟨by decide +kernel, by decide +kernel⟩, List.mem_of_getElem? (i := 358) (by decide +kernel), List.mem_of_getElem? (i := 883) (by decide +kernel), List.mem_of_getElem? (i := 884) (by decide +kernel)⟩
theorem lw_p35 : lw_okq (⟨"MacroScopes$Maker", "turnsOf", "(I)I"⟩, 6) := ⟨⟨by decide +kernel, by decide +kernel⟩, List.mem_of_getElem? (i := 358) (by decide +kernel), List.mem_of_getElem? (i := 889) (by decide +kernel), List.mem_of_getElem? (i := 890) (by decide +kernel)⟩
theorem lw_p36 : lw_okq (⟨"MacroScopes$Maker", "build", "(III)V"⟩, 6) := ⟨⟨by decide +kernel, by decide +kernel⟩, List.mem_of_getElem? (i := 358) (by decide +kernel), List.mem_of_getElem? (i := 923) (by decide +kernel), List.mem_of_getElem? (i := 924) (by decide +kernel)⟩
theorem lw_p37 : lw_okq (⟨"MacroScopes$Maker", "buildPart", "(III)V"⟩, 6) := ⟨⟨by decide +kernel, by decide +kernel⟩, List.mem_of_getElem? (i := 358) (by decide +kernel), List.mem_of_getElem? (i := 928) (by decide +kernel), List.mem_of_getElem? (i := 929) (by decide +kernel)⟩
theorem lw_p38 : lw_okq (⟨"MacroScopes$Maker", "add", "(I)I"⟩, 6) := ⟨⟨by decide +kernel, by decide +kernel⟩, List.mem_of_getElem? (i := 358) (by decide +kernel), List.mem_of_getElem? (i := 934) (by decide +kernel), List.mem_of_getElem? (i := 935) (by decide +kernel)⟩
theorem lw_p39 : lw_okq (⟨"MacroScopes$Maker", "copy", "(II)V"⟩, 6) := ⟨⟨by decide +kernel, by decide +kernel⟩, List.mem_of_getElem? (i := 358) (by decide +kernel), List.mem_of_getElem? (i := 943) (by decide +kernel), List.mem_of_getElem? (i := 944) (by decide +kernel)⟩
theorem lw_p40 : lw_okq (⟨"MacroScopes$Maker", "addList", "(I)I"⟩, 6) := ⟨⟨by decide +kernel, by decide +kernel⟩, List.mem_of_getElem? (i := 358) (by decide +kernel), List.mem_of_getElem? (i := 947) (by decide +kernel), List.mem_of_getElem? (i := 948) (by decide +kernel)⟩
theorem lw_p41 : lw_okq (⟨"MacroScopes$Maker", "aliasOf", "(I)I"⟩, 6) := ⟨⟨by decide +kernel, by decide +kernel⟩, List.mem_of_getElem? (i := 358) (by decide +kernel), List.mem_of_getElem? (i := 952) (by decide +kernel), List.mem_of_getElem? (i := 953) (by decide +kernel)⟩
theorem lw_p42 : lw_okq (⟨"MacroScopes$Maker", "buildTurns", "(II)V"⟩, 6) := ⟨⟨by decide +kernel, by decide +kernel⟩, List.mem_of_getElem? (i := 358) (by decide +kernel), List.mem_of_getElem? (i := 960) (by decide +kernel), List.mem_of_getElem? (i := 961) (by decide +kernel)⟩
theorem lw_p43 : lw_okq (⟨"MacroScopes$Expander", "expandWord", "(II)V"⟩, 15) := ⟨⟨by decide +kernel, by decide +kernel⟩, List.mem_of_getElem? (i := 220) (by decide +kernel), List.mem_of_getElem? (i := 964) (by decide +kernel), List.mem_of_getElem? (i := 965) (by decide +kernel)⟩
theorem lw_p44 : lw_okq (⟨"MacroScopes$Expander", "expandLambda", "(I)V"⟩, 15) := ⟨⟨by decide +kernel, by decide +kernel⟩, List.mem_of_getElem? (i := 220) (by decide +kernel), List.mem_of_getElem? (i := 968) (by decide +kernel), List.mem_of_getElem? (i := 969) (by decide +kernel)⟩
theorem lw_p45 : lw_okq (⟨"MacroScopes$Expander", "startLayer", "(I)Z"⟩, 15) := ⟨⟨by decide +kernel, by decide +kernel⟩, List.mem_of_getElem? (i := 220) (by decide +kernel), List.mem_of_getElem? (i := 972) (by decide +kernel), List.mem_of_getElem? (i := 973) (by decide +kernel)⟩
theorem lw_p46 : lw_okq (⟨"MacroScopes$Expander", "bindVariables", "(I)V"⟩, 15) := ⟨⟨by decide +kernel, by decide +kernel⟩, List.mem_of_getElem? (i := 220) (by decide +kernel), List.mem_of_getElem? (i := 976) (by decide +kernel), List.mem_of_getElem? (i := 977) (by decide +kernel)⟩
theorem lw_p47 : lw_okq (⟨"MacroScopes$Expander", "canBind", "(II)Z"⟩, 15) := ⟨⟨by decide +kernel, by decide +kernel⟩, List.mem_of_getElem? (i := 220) (by decide +kernel), List.mem_of_getElem? (i := 980) (by decide +kernel), List.mem_of_getElem? (i := 981) (by decide +kernel)⟩
def lw_privs_3 : List (MethodName × Nat) := [(⟨"MacroScopes$Matcher", "formMatches", "(IIZ)Z"⟩, 6), (⟨"MacroScopes$Matcher", "isMeant", "(II)Z"⟩, 6), (⟨"MacroScopes$Maker", "isEven", "(I)Z"⟩, 6), (⟨"MacroScopes$Maker", "turnsOf", "(I)I"⟩, 6), (⟨"MacroScopes$Maker", "build", "(III)V"⟩, 6), (⟨"MacroScopes$Maker", "buildPart", "(III)V"⟩, 6), (⟨"MacroScopes$Maker", "add", "(I)I"⟩, 6), (⟨"MacroScopes$Maker", "copy", "(II)V"⟩, 6), (⟨"MacroScopes$Maker", "addList", "(I)I"⟩, 6), (⟨"MacroScopes$Maker", "aliasOf", "(I)I"⟩, 6), (⟨"MacroScopes$Maker", "buildTurns", "(II)V"⟩, 6), (⟨"MacroScopes$Expander", "expandWord", "(II)V"⟩, 15), (⟨"MacroScopes$Expander", "expandLambda", "(I)V"⟩, 15), (⟨"MacroScopes$Expander", "startLayer", "(I)Z"⟩, 15), (⟨"MacroScopes$Expander", "bindVariables", "(I)V"⟩, 15), (⟨"MacroScopes$Expander", "canBind", "(II)Z"⟩, 15)]
theorem lw_r3 : ∀ q ∈ lw_privs_3, lw_okq q := List.forall_mem_cons.mpr ⟨lw_p32, List.forall_mem_cons.mpr ⟨lw_p33, List.forall_mem_cons.mpr ⟨lw_p34, List.forall_mem_cons.mpr ⟨lw_p35, List.forall_mem_cons.mpr ⟨lw_p36, List.forall_mem_cons.mpr ⟨lw_p37, List.forall_mem_cons.mpr ⟨lw_p38, List.forall_mem_cons.mpr ⟨lw_p39, List.forall_mem_cons.mpr ⟨lw_p40, List.forall_mem_cons.mpr ⟨lw_p41, List.forall_mem_cons.mpr ⟨lw_p42, List.forall_mem_cons.mpr ⟨lw_p43, List.forall_mem_cons.mpr ⟨lw_p44, List.forall_mem_cons.mpr ⟨lw_p45, List.forall_mem_cons.mpr ⟨lw_p46, List.forall_mem_cons.mpr ⟨lw_p47, fun _ h => absurd h List.not_mem_nil⟩⟩⟩⟩⟩⟩⟩⟩⟩⟩⟩⟩⟩⟩⟩⟩
theorem lw_p48 : lw_okq (⟨"MacroScopes$Scopes", "bind", "(III)V"⟩, 6) := ⟨⟨by decide +kernel, by decide +kernel⟩, List.mem_of_getElem? (i := 287) (by decide +kernel), List.mem_of_getElem? (i := 993) (by decide +kernel), List.mem_of_getElem? (i := 994) (by decide +kernel)⟩
theorem lw_p49 : lw_okq (⟨"MacroScopes$Expander", "expandLetSyntax", "(I)V"⟩, 15) := ⟨⟨by decide +kernel, by decide +kernel⟩, List.mem_of_getElem? (i := 220) (by decide +kernel), List.mem_of_getElem? (i := 997) (by decide +kernel), List.mem_of_getElem? (i := 998) (by decide +kernel)⟩
theorem lw_p50 : lw_okq (⟨"MacroScopes$Expander", "bindMacros", "(II)V"⟩, 15) := ⟨⟨by decide +kernel, by decide +kernel⟩, List.mem_of_getElem? (i := 220) (by decide +kernel), List.mem_of_getElem? (i := 1001) (by decide +kernel), List.mem_of_getElem? (i := 1002) (by decide +kernel)⟩
theorem lw_p51 : lw_okq (⟨"MacroScopes$Expander", "expandIf", "(I)V"⟩, 15) := ⟨⟨by decide +kernel, by decide +kernel⟩, List.mem_of_getElem? (i := 220) (by decide +kernel), List.mem_of_getElem? (i := 1009) (by decide +kernel), List.mem_of_getElem? (i := 1010) (by decide +kernel)⟩
theorem lw_p52 : lw_okq (⟨"MacroScopes$Expander", "expandQuote", "(I)V"⟩, 15) := ⟨⟨by decide +kernel, by decide +kernel⟩, List.mem_of_getElem? (i := 220) (by decide +kernel), List.mem_of_getElem? (i := 1013) (by decide +kernel), List.mem_of_getElem? (i := 1014) (by decide +kernel)⟩
theorem lw_p53 : lw_okq (⟨"MacroScopes$Expander", "tellRoots", "(I)V"⟩, 15) := ⟨⟨by decide +kernel, by decide +kernel⟩, List.mem_of_getElem? (i := 220) (by decide +kernel), List.mem_of_getElem? (i := 1017) (by decide +kernel), List.mem_of_getElem? (i := 1018) (by decide +kernel)⟩
theorem lw_p54 : lw_okq (⟨"MacroScopes$Expander", "expandPlain", "(I)V"⟩, 15) := ⟨⟨by decide +kernel, by decide +kernel⟩, List.mem_of_getElem? (i := 220) (by decide +kernel), List.mem_of_getElem? (i := 1021) (by decide +kernel), List.mem_of_getElem? (i := 1022) (by decide +kernel)⟩
theorem lw_p55 : lw_okq (⟨"MacroScopes", "takeText", "(Z)V"⟩, 11) := ⟨⟨by decide +kernel, by decide +kernel⟩, List.mem_of_getElem? (i := 22) (by decide +kernel), List.mem_of_getElem? (i := 1025) (by decide +kernel), List.mem_of_getElem? (i := 1026) (by decide +kernel)⟩
theorem lw_p56 : lw_okq (⟨"MacroScopesModel", "word", "(JI)V"⟩, 64) := ⟨⟨by decide +kernel, by decide +kernel⟩, List.mem_of_getElem? (i := 1078) (by decide +kernel), List.mem_of_getElem? (i := 1089) (by decide +kernel), List.mem_of_getElem? (i := 1090) (by decide +kernel)⟩
theorem lw_p57 : lw_okq (⟨"MacroScopesModel", "more", "(JI)V"⟩, 64) := ⟨⟨by decide +kernel, by decide +kernel⟩, List.mem_of_getElem? (i := 1078) (by decide +kernel), List.mem_of_getElem? (i := 1093) (by decide +kernel), List.mem_of_getElem? (i := 1094) (by decide +kernel)⟩
theorem lw_p58 : lw_okq (⟨"MacroScopesModel", "beginText", "()V"⟩, 64) := ⟨⟨by decide +kernel, by decide +kernel⟩, List.mem_of_getElem? (i := 1078) (by decide +kernel), List.mem_of_getElem? (i := 1312) (by decide +kernel), List.mem_of_getElem? (i := 1313) (by decide +kernel)⟩
theorem lw_p59 : lw_okq (⟨"MacroScopesModel", "parse", "()Z"⟩, 64) := ⟨⟨by decide +kernel, by decide +kernel⟩, List.mem_of_getElem? (i := 1078) (by decide +kernel), List.mem_of_getElem? (i := 1316) (by decide +kernel), List.mem_of_getElem? (i := 1317) (by decide +kernel)⟩
theorem lw_p60 : lw_okq (⟨"MacroScopesModel", "endList", "(I)V"⟩, 64) := ⟨⟨by decide +kernel, by decide +kernel⟩, List.mem_of_getElem? (i := 1078) (by decide +kernel), List.mem_of_getElem? (i := 1320) (by decide +kernel), List.mem_of_getElem? (i := 1321) (by decide +kernel)⟩
theorem lw_p61 : lw_okq (⟨"MacroScopesModel", "newForm", "(III)I"⟩, 64) := ⟨⟨by decide +kernel, by decide +kernel⟩, List.mem_of_getElem? (i := 1078) (by decide +kernel), List.mem_of_getElem? (i := 1324) (by decide +kernel), List.mem_of_getElem? (i := 1325) (by decide +kernel)⟩
theorem lw_p62 : lw_okq (⟨"MacroScopesModel", "token", "(II)Z"⟩, 64) := ⟨⟨by decide +kernel, by decide +kernel⟩, List.mem_of_getElem? (i := 1078) (by decide +kernel), List.mem_of_getElem? (i := 1328) (by decide +kernel), List.mem_of_getElem? (i := 1329) (by decide +kernel)⟩
theorem lw_p63 : lw_okq (⟨"MacroScopesModel", "isSymbol", "(III)Z"⟩, 64) := ⟨⟨by decide +kernel, by decide +kernel⟩, List.mem_of_getElem? (i := 1078) (by decide +kernel), List.mem_of_getElem? (i := 1332) (by decide +kernel), List.mem_of_getElem? (i := 1333) (by decide +kernel)⟩
def lw_privs_4 : List (MethodName × Nat) := [(⟨"MacroScopes$Scopes", "bind", "(III)V"⟩, 6), (⟨"MacroScopes$Expander", "expandLetSyntax", "(I)V"⟩, 15), (⟨"MacroScopes$Expander", "bindMacros", "(II)V"⟩, 15), (⟨"MacroScopes$Expander", "expandIf", "(I)V"⟩, 15), (⟨"MacroScopes$Expander", "expandQuote", "(I)V"⟩, 15), (⟨"MacroScopes$Expander", "tellRoots", "(I)V"⟩, 15), (⟨"MacroScopes$Expander", "expandPlain", "(I)V"⟩, 15), (⟨"MacroScopes", "takeText", "(Z)V"⟩, 11), (⟨"MacroScopesModel", "word", "(JI)V"⟩, 64), (⟨"MacroScopesModel", "more", "(JI)V"⟩, 64), (⟨"MacroScopesModel", "beginText", "()V"⟩, 64), (⟨"MacroScopesModel", "parse", "()Z"⟩, 64), (⟨"MacroScopesModel", "endList", "(I)V"⟩, 64), (⟨"MacroScopesModel", "newForm", "(III)I"⟩, 64), (⟨"MacroScopesModel", "token", "(II)Z"⟩, 64), (⟨"MacroScopesModel", "isSymbol", "(III)Z"⟩, 64)]
theorem lw_r4 : ∀ q ∈ lw_privs_4, lw_okq q := List.forall_mem_cons.mpr ⟨lw_p48, List.forall_mem_cons.mpr ⟨lw_p49, List.forall_mem_cons.mpr ⟨lw_p50, List.forall_mem_cons.mpr ⟨lw_p51, List.forall_mem_cons.mpr ⟨lw_p52, List.forall_mem_cons.mpr ⟨lw_p53, List.forall_mem_cons.mpr ⟨lw_p54, List.forall_mem_cons.mpr ⟨lw_p55, List.forall_mem_cons.mpr ⟨lw_p56, List.forall_mem_cons.mpr ⟨lw_p57, List.forall_mem_cons.mpr ⟨lw_p58, List.forall_mem_cons.mpr ⟨lw_p59, List.forall_mem_cons.mpr ⟨lw_p60, List.forall_mem_cons.mpr ⟨lw_p61, List.forall_mem_cons.mpr ⟨lw_p62, List.forall_mem_cons.mpr ⟨lw_p63, fun _ h => absurd h List.not_mem_nil⟩⟩⟩⟩⟩⟩⟩⟩⟩⟩⟩⟩⟩⟩⟩⟩
theorem lw_p64 : lw_okq (⟨"MacroScopesModel", "symbolAt", "(II)I"⟩, 64) := ⟨⟨by decide +kernel, by decide +kernel⟩, List.mem_of_getElem? (i := 1078) (by decide +kernel), List.mem_of_getElem? (i := 1336) (by decide +kernel), List.mem_of_getElem? (i := 1337) (by decide +kernel)⟩
theorem lw_p65 : lw_okq (⟨"MacroScopesModel", "top", "(I)V"⟩, 64) := ⟨⟨by decide +kernel, by decide +kernel⟩, List.mem_of_getElem? (i := 1078) (by decide +kernel), List.mem_of_getElem? (i := 1340) (by decide +kernel), List.mem_of_getElem? (i := 1341) (by decide +kernel)⟩
theorem lw_p66 : lw_okq (⟨"MacroScopesModel", "isDefinition", "(II)Z"⟩, 64) := ⟨⟨by decide +kernel, by decide +kernel⟩, List.mem_of_getElem? (i := 1078) (by decide +kernel), List.mem_of_getElem? (i := 1344) (by decide +kernel), List.mem_of_getElem? (i := 1345) (by decide +kernel)⟩
theorem lw_p67 : lw_okq (⟨"MacroScopesModel", "part", "(II)I"⟩, 64) := ⟨⟨by decide +kernel, by decide +kernel⟩, List.mem_of_getElem? (i := 1078) (by decide +kernel), List.mem_of_getElem? (i := 1348) (by decide +kernel), List.mem_of_getElem? (i := 1349) (by decide +kernel)⟩
theorem lw_p68 : lw_okq (⟨"MacroScopesModel", "isName", "(I)Z"⟩, 64) := ⟨⟨by decide +kernel, by decide +kernel⟩, List.mem_of_getElem? (i := 1078) (by decide +kernel), List.mem_of_getElem? (i := 1352) (by decide +kernel), List.mem_of_getElem? (i := 1353) (by decide +kernel)⟩
theorem lw_p69 : lw_okq (⟨"MacroScopesModel", "say", "(I)V"⟩, 64) := ⟨⟨by decide +kernel, by decide +kernel⟩, List.mem_of_getElem? (i := 1078) (by decide +kernel), List.mem_of_getElem? (i := 1356) (by decide +kernel), List.mem_of_getElem? (i := 1357) (by decide +kernel)⟩
theorem lw_p70 : lw_okq (⟨"MacroScopesModel", "isList", "(II)Z"⟩, 64) := ⟨⟨by decide +kernel, by decide +kernel⟩, List.mem_of_getElem? (i := 1078) (by decide +kernel), List.mem_of_getElem? (i := 1360) (by decide +kernel), List.mem_of_getElem? (i := 1361) (by decide +kernel)⟩
theorem lw_p71 : lw_okq (⟨"MacroScopesModel", "need", "(ZI)Z"⟩, 64) := ⟨⟨by decide +kernel, by decide +kernel⟩, List.mem_of_getElem? (i := 1078) (by decide +kernel), List.mem_of_getElem? (i := 1364) (by decide +kernel), List.mem_of_getElem? (i := 1365) (by decide +kernel)⟩
theorem lw_p72 : lw_okq (⟨"MacroScopesModel", "fail", "(I)V"⟩, 64) := ⟨⟨by decide +kernel, by decide +kernel⟩, List.mem_of_getElem? (i := 1078) (by decide +kernel), List.mem_of_getElem? (i := 1368) (by decide +kernel), List.mem_of_getElem? (i := 1369) (by decide +kernel)⟩
theorem lw_p73 : lw_okq (⟨"MacroScopesModel", "defineSyntax", "(II)V"⟩, 64) := ⟨⟨by decide +kernel, by decide +kernel⟩, List.mem_of_getElem? (i := 1078) (by decide +kernel), List.mem_of_getElem? (i := 1372) (by decide +kernel), List.mem_of_getElem? (i := 1373) (by decide +kernel)⟩
theorem lw_p74 : lw_okq (⟨"MacroScopesModel", "areRules", "(II)Z"⟩, 64) := ⟨⟨by decide +kernel, by decide +kernel⟩, List.mem_of_getElem? (i := 1078) (by decide +kernel), List.mem_of_getElem? (i := 1376) (by decide +kernel), List.mem_of_getElem? (i := 1377) (by decide +kernel)⟩
theorem lw_p75 : lw_okq (⟨"MacroScopesModel", "meaning", "(II)I"⟩, 64) := ⟨⟨by decide +kernel, by decide +kernel⟩, List.mem_of_getElem? (i := 1078) (by decide +kernel), List.mem_of_getElem? (i := 1380) (by decide +kernel), List.mem_of_getElem? (i := 1381) (by decide +kernel)⟩
theorem lw_p76 : lw_okq (⟨"MacroScopesModel", "isBindable", "(I)Z"⟩, 64) := ⟨⟨by decide +kernel, by decide +kernel⟩, List.mem_of_getElem? (i := 1078) (by decide +kernel), List.mem_of_getElem? (i := 1384) (by decide +kernel), List.mem_of_getElem? (i := 1385) (by decide +kernel)⟩
theorem lw_p77 : lw_okq (⟨"MacroScopesModel", "isFrom", "(II)Z"⟩, 64) := ⟨⟨by decide +kernel, by decide +kernel⟩, List.mem_of_getElem? (i := 1078) (by decide +kernel), List.mem_of_getElem? (i := 1388) (by decide +kernel), List.mem_of_getElem? (i := 1389) (by decide +kernel)⟩
theorem lw_p78 : lw_okq (⟨"MacroScopesModel", "rootOf", "(I)I"⟩, 64) := ⟨⟨by decide +kernel, by decide +kernel⟩, List.mem_of_getElem? (i := 1078) (by decide +kernel), List.mem_of_getElem? (i := 1392) (by decide +kernel), List.mem_of_getElem? (i := 1393) (by decide +kernel)⟩
theorem lw_p79 : lw_okq (⟨"MacroScopesModel", "isPattern", "(II)Z"⟩, 64) := ⟨⟨by decide +kernel, by decide +kernel⟩, List.mem_of_getElem? (i := 1078) (by decide +kernel), List.mem_of_getElem? (i := 1396) (by decide +kernel), List.mem_of_getElem? (i := 1397) (by decide +kernel)⟩
def lw_privs_5 : List (MethodName × Nat) := [(⟨"MacroScopesModel", "symbolAt", "(II)I"⟩, 64), (⟨"MacroScopesModel", "top", "(I)V"⟩, 64), (⟨"MacroScopesModel", "isDefinition", "(II)Z"⟩, 64), (⟨"MacroScopesModel", "part", "(II)I"⟩, 64), (⟨"MacroScopesModel", "isName", "(I)Z"⟩, 64), (⟨"MacroScopesModel", "say", "(I)V"⟩, 64), (⟨"MacroScopesModel", "isList", "(II)Z"⟩, 64), (⟨"MacroScopesModel", "need", "(ZI)Z"⟩, 64), (⟨"MacroScopesModel", "fail", "(I)V"⟩, 64), (⟨"MacroScopesModel", "defineSyntax", "(II)V"⟩, 64), (⟨"MacroScopesModel", "areRules", "(II)Z"⟩, 64), (⟨"MacroScopesModel", "meaning", "(II)I"⟩, 64), (⟨"MacroScopesModel", "isBindable", "(I)Z"⟩, 64), (⟨"MacroScopesModel", "isFrom", "(II)Z"⟩, 64), (⟨"MacroScopesModel", "rootOf", "(I)I"⟩, 64), (⟨"MacroScopesModel", "isPattern", "(II)Z"⟩, 64)]
theorem lw_r5 : ∀ q ∈ lw_privs_5, lw_okq q := List.forall_mem_cons.mpr ⟨lw_p64, List.forall_mem_cons.mpr ⟨lw_p65, List.forall_mem_cons.mpr ⟨lw_p66, List.forall_mem_cons.mpr ⟨lw_p67, List.forall_mem_cons.mpr ⟨lw_p68, List.forall_mem_cons.mpr ⟨lw_p69, List.forall_mem_cons.mpr ⟨lw_p70, List.forall_mem_cons.mpr ⟨lw_p71, List.forall_mem_cons.mpr ⟨lw_p72, List.forall_mem_cons.mpr ⟨lw_p73, List.forall_mem_cons.mpr ⟨lw_p74, List.forall_mem_cons.mpr ⟨lw_p75, List.forall_mem_cons.mpr ⟨lw_p76, List.forall_mem_cons.mpr ⟨lw_p77, List.forall_mem_cons.mpr ⟨lw_p78, List.forall_mem_cons.mpr ⟨lw_p79, fun _ h => absurd h List.not_mem_nil⟩⟩⟩⟩⟩⟩⟩⟩⟩⟩⟩⟩⟩⟩⟩⟩
theorem lw_p80 : lw_okq (⟨"MacroScopesModel", "lookAt", "(III)V"⟩, 64) := ⟨⟨by decide +kernel, by decide +kernel⟩, List.mem_of_getElem? (i := 1078) (by decide +kernel), List.mem_of_getElem? (i := 1400) (by decide +kernel), List.mem_of_getElem? (i := 1401) (by decide +kernel)⟩
theorem lw_p81 : lw_okq (⟨"MacroScopesModel", "isEllipsis", "(II)Z"⟩, 64) := ⟨⟨by decide +kernel, by decide +kernel⟩, List.mem_of_getElem? (i := 1078) (by decide +kernel), List.mem_of_getElem? (i := 1404) (by decide +kernel), List.mem_of_getElem? (i := 1405) (by decide +kernel)⟩
theorem lw_p82 : lw_okq (⟨"MacroScopesModel", "isLiteral", "(II)Z"⟩, 64) := ⟨⟨by decide +kernel, by decide +kernel⟩, List.mem_of_getElem? (i := 1078) (by decide +kernel), List.mem_of_getElem? (i := 1408) (by decide +kernel), List.mem_of_getElem? (i := 1409) (by decide +kernel)⟩
theorem lw_p83 : lw_okq (⟨"MacroScopesModel", "variable", "(I)I"⟩, 64) := ⟨⟨by decide +kernel, by decide +kernel⟩, List.mem_of_getElem? (i := 1078) (by decide +kernel), List.mem_of_getElem? (i := 1412) (by decide +kernel), List.mem_of_getElem? (i := 1413) (by decide +kernel)⟩
theorem lw_p84 : lw_okq (⟨"MacroScopesModel", "isTemplate", "(I)Z"⟩, 64) := ⟨⟨by decide +kernel, by decide +kernel⟩, List.mem_of_getElem? (i := 1078) (by decide +kernel), List.mem_of_getElem? (i := 1416) (by decide +kernel), List.mem_of_getElem? (i := 1417) (by decide +kernel)⟩
theorem lw_p85 : lw_okq (⟨"MacroScopesModel", "isRepeated", "(I)Z"⟩, 64) := ⟨⟨by decide +kernel, by decide +kernel⟩, List.mem_of_getElem? (i := 1078) (by decide +kernel), List.mem_of_getElem? (i := 1420) (by decide +kernel), List.mem_of_getElem? (i := 1421) (by decide +kernel)⟩
theorem lw_p86 : lw_okq (⟨"MacroScopesModel", "hasRepeated", "(I)Z"⟩, 64) := ⟨⟨by decide +kernel, by decide +kernel⟩, List.mem_of_getElem? (i := 1078) (by decide +kernel), List.mem_of_getElem? (i := 1424) (by decide +kernel), List.mem_of_getElem? (i := 1425) (by decide +kernel)⟩
theorem lw_p87 : lw_okq (⟨"MacroScopesModel", "sizeOf", "(I)I"⟩, 64) := ⟨⟨by decide +kernel, by decide +kernel⟩, List.mem_of_getElem? (i := 1078) (by decide +kernel), List.mem_of_getElem? (i := 1428) (by decide +kernel), List.mem_of_getElem? (i := 1429) (by decide +kernel)⟩
theorem lw_p88 : lw_okq (⟨"MacroScopesModel", "saySymbol", "(I)V"⟩, 64) := ⟨⟨by decide +kernel, by decide +kernel⟩, List.mem_of_getElem? (i := 1078) (by decide +kernel), List.mem_of_getElem? (i := 1432) (by decide +kernel), List.mem_of_getElem? (i := 1433) (by decide +kernel)⟩
theorem lw_p89 : lw_okq (⟨"MacroScopesModel", "task", "(IIII)V"⟩, 64) := ⟨⟨by decide +kernel, by decide +kernel⟩, List.mem_of_getElem? (i := 1078) (by decide +kernel), List.mem_of_getElem? (i := 1436) (by decide +kernel), List.mem_of_getElem? (i := 1437) (by decide +kernel)⟩
theorem lw_p90 : lw_okq (⟨"MacroScopesModel", "doAll", "()V"⟩, 64) := ⟨⟨by decide +kernel, by decide +kernel⟩, List.mem_of_getElem? (i := 1078) (by decide +kernel), List.mem_of_getElem? (i := 1440) (by decide +kernel), List.mem_of_getElem? (i := 1441) (by decide +kernel)⟩
theorem lw_p91 : lw_okq (⟨"MacroScopesModel", "expand", "(III)V"⟩, 64) := ⟨⟨by decide +kernel, by decide +kernel⟩, List.mem_of_getElem? (i := 1078) (by decide +kernel), List.mem_of_getElem? (i := 1444) (by decide +kernel), List.mem_of_getElem? (i := 1445) (by decide +kernel)⟩
theorem lw_p92 : lw_okq (⟨"MacroScopesModel", "sayNumber", "(I)V"⟩, 64) := ⟨⟨by decide +kernel, by decide +kernel⟩, List.mem_of_getElem? (i := 1078) (by decide +kernel), List.mem_of_getElem? (i := 1448) (by decide +kernel), List.mem_of_getElem? (i := 1449) (by decide +kernel)⟩
theorem lw_p93 : lw_okq (⟨"MacroScopesModel", "sayName", "(II)V"⟩, 64) := ⟨⟨by decide +kernel, by decide +kernel⟩, List.mem_of_getElem? (i := 1078) (by decide +kernel), List.mem_of_getElem? (i := 1452) (by decide +kernel), List.mem_of_getElem? (i := 1453) (by decide +kernel)⟩
theorem lw_p94 : lw_okq (⟨"MacroScopesModel", "expandList", "(III)V"⟩, 64) := ⟨⟨by decide +kernel, by decide +kernel⟩, List.mem_of_getElem? (i := 1078) (by decide +kernel), List.mem_of_getElem? (i := 1456) (by decide +kernel), List.mem_of_getElem? (i := 1457) (by decide +kernel)⟩
theorem lw_p95 : lw_okq (⟨"MacroScopesModel", "environmentOf", "(I)I"⟩, 64) := ⟨⟨by decide +kernel, by decide +kernel⟩, List.mem_of_getElem? (i := 1078) (by decide +kernel), List.mem_of_getElem? (i := 1460) (by decide +kernel), List.mem_of_getElem? (i := 1461) (by decide +kernel)⟩
def lw_privs_6 : List (MethodName × Nat) := [(⟨"MacroScopesModel", "lookAt", "(III)V"⟩, 64), (⟨"MacroScopesModel", "isEllipsis", "(II)Z"⟩, 64), (⟨"MacroScopesModel", "isLiteral", "(II)Z"⟩, 64), (⟨"MacroScopesModel", "variable", "(I)I"⟩, 64), (⟨"MacroScopesModel", "isTemplate", "(I)Z"⟩, 64), (⟨"MacroScopesModel", "isRepeated", "(I)Z"⟩, 64), (⟨"MacroScopesModel", "hasRepeated", "(I)Z"⟩, 64), (⟨"MacroScopesModel", "sizeOf", "(I)I"⟩, 64), (⟨"MacroScopesModel", "saySymbol", "(I)V"⟩, 64), (⟨"MacroScopesModel", "task", "(IIII)V"⟩, 64), (⟨"MacroScopesModel", "doAll", "()V"⟩, 64), (⟨"MacroScopesModel", "expand", "(III)V"⟩, 64), (⟨"MacroScopesModel", "sayNumber", "(I)V"⟩, 64), (⟨"MacroScopesModel", "sayName", "(II)V"⟩, 64), (⟨"MacroScopesModel", "expandList", "(III)V"⟩, 64), (⟨"MacroScopesModel", "environmentOf", "(I)I"⟩, 64)]
theorem lw_r6 : ∀ q ∈ lw_privs_6, lw_okq q := List.forall_mem_cons.mpr ⟨lw_p80, List.forall_mem_cons.mpr ⟨lw_p81, List.forall_mem_cons.mpr ⟨lw_p82, List.forall_mem_cons.mpr ⟨lw_p83, List.forall_mem_cons.mpr ⟨lw_p84, List.forall_mem_cons.mpr ⟨lw_p85, List.forall_mem_cons.mpr ⟨lw_p86, List.forall_mem_cons.mpr ⟨lw_p87, List.forall_mem_cons.mpr ⟨lw_p88, List.forall_mem_cons.mpr ⟨lw_p89, List.forall_mem_cons.mpr ⟨lw_p90, List.forall_mem_cons.mpr ⟨lw_p91, List.forall_mem_cons.mpr ⟨lw_p92, List.forall_mem_cons.mpr ⟨lw_p93, List.forall_mem_cons.mpr ⟨lw_p94, List.forall_mem_cons.mpr ⟨lw_p95, fun _ h => absurd h List.not_mem_nil⟩⟩⟩⟩⟩⟩⟩⟩⟩⟩⟩⟩⟩⟩⟩⟩
theorem lw_p96 : lw_okq (⟨"MacroScopesModel", "use", "(IIIII)V"⟩, 64) := ⟨⟨by decide +kernel, by decide +kernel⟩, List.mem_of_getElem? (i := 1078) (by decide +kernel), List.mem_of_getElem? (i := 1464) (by decide +kernel), List.mem_of_getElem? (i := 1465) (by decide +kernel)⟩
theorem lw_p97 : lw_okq (⟨"MacroScopesModel", "matches", "(IIIII)Z"⟩, 64) := ⟨⟨by decide +kernel, by decide +kernel⟩, List.mem_of_getElem? (i := 1078) (by decide +kernel), List.mem_of_getElem? (i := 1468) (by decide +kernel), List.mem_of_getElem? (i := 1469) (by decide +kernel)⟩
theorem lw_p98 : lw_okq (⟨"MacroScopesModel", "lookAtParts", "(III)Z"⟩, 64) := ⟨⟨by decide +kernel, by decide +kernel⟩, List.mem_of_getElem? (i := 1078) (by decide +kernel), List.mem_of_getElem? (i := 1472) (by decide +kernel), List.mem_of_getElem? (i := 1473) (by decide +kernel)⟩
theorem lw_p99 : lw_okq (⟨"MacroScopesModel", "keepMatches", "(II)V"⟩, 64) := ⟨⟨by decide +kernel, by decide +kernel⟩, List.mem_of_getElem? (i := 1078) (by decide +kernel), List.mem_of_getElem? (i := 1476) (by decide +kernel), List.mem_of_getElem? (i := 1477) (by decide +kernel)⟩
theorem lw_p100 : lw_okq (⟨"MacroScopesModel", "keepParts", "(IIII)V"⟩, 64) := ⟨⟨by decide +kernel, by decide +kernel⟩, List.mem_of_getElem? (i := 1078) (by decide +kernel), List.mem_of_getElem? (i := 1480) (by decide +kernel), List.mem_of_getElem? (i := 1481) (by decide +kernel)⟩
theorem lw_p101 : lw_okq (⟨"MacroScopesModel", "setCounts", "(II)V"⟩, 64) := ⟨⟨by decide +kernel, by decide +kernel⟩, List.mem_of_getElem? (i := 1078) (by decide +kernel), List.mem_of_getElem? (i := 1484) (by decide +kernel), List.mem_of_getElem? (i := 1485) (by decide +kernel)⟩
theorem lw_p102 : lw_okq (⟨"MacroScopesModel", "areCountsAlike", "(I)Z"⟩, 64) := ⟨⟨by decide +kernel, by decide +kernel⟩, List.mem_of_getElem? (i := 1078) (by decide +kernel), List.mem_of_getElem? (i := 1488) (by decide +kernel), List.mem_of_getElem? (i := 1489) (by decide +kernel)⟩
theorem lw_p103 : lw_okq (⟨"MacroScopesModel", "turnsOf", "(I)I"⟩, 64) := ⟨⟨by decide +kernel, by decide +kernel⟩, List.mem_of_getElem? (i := 1078) (by decide +kernel), List.mem_of_getElem? (i := 1492) (by decide +kernel), List.mem_of_getElem? (i := 1493) (by decide +kernel)⟩
theorem lw_p104 : lw_okq (⟨"MacroScopesModel", "sizeMade", "(I)I"⟩, 64) := ⟨⟨by decide +kernel, by decide +kernel⟩, List.mem_of_getElem? (i := 1078) (by decide +kernel), List.mem_of_getElem? (i := 1496) (by decide +kernel), List.mem_of_getElem? (i := 1497) (by decide +kernel)⟩
theorem lw_p105 : lw_okq (⟨"MacroScopesModel", "make", "(II)I"⟩, 64) := ⟨⟨by decide +kernel, by decide +kernel⟩, List.mem_of_getElem? (i := 1078) (by decide +kernel), List.mem_of_getElem? (i := 1501) (by decide +kernel), List.mem_of_getElem? (i := 1502) (by decide +kernel)⟩
theorem lw_p106 : lw_okq (⟨"MacroScopesModel", "begin", "(IIII)I"⟩, 64) := ⟨⟨by decide +kernel, by decide +kernel⟩, List.mem_of_getElem? (i := 1078) (by decide +kernel), List.mem_of_getElem? (i := 1505) (by decide +kernel), List.mem_of_getElem? (i := 1506) (by decide +kernel)⟩
theorem lw_p107 : lw_okq (⟨"MacroScopesModel", "alias", "(III)I"⟩, 64) := ⟨⟨by decide +kernel, by decide +kernel⟩, List.mem_of_getElem? (i := 1078) (by decide +kernel), List.mem_of_getElem? (i := 1509) (by decide +kernel), List.mem_of_getElem? (i := 1510) (by decide +kernel)⟩
theorem lw_p108 : lw_okq (⟨"MacroScopesModel", "nested", "(I)I"⟩, 64) := ⟨⟨by decide +kernel, by decide +kernel⟩, List.mem_of_getElem? (i := 1078) (by decide +kernel), List.mem_of_getElem? (i := 1513) (by decide +kernel), List.mem_of_getElem? (i := 1514) (by decide +kernel)⟩
theorem lw_p109 : lw_okq (⟨"MacroScopesModel", "expandWord", "(IIII)V"⟩, 64) := ⟨⟨by decide +kernel, by decide +kernel⟩, List.mem_of_getElem? (i := 1078) (by decide +kernel), List.mem_of_getElem? (i := 1517) (by decide +kernel), List.mem_of_getElem? (i := 1518) (by decide +kernel)⟩
theorem lw_p110 : lw_okq (⟨"MacroScopesModel", "taskParts", "(IIIII)V"⟩, 64) := ⟨⟨by decide +kernel, by decide +kernel⟩, List.mem_of_getElem? (i := 1078) (by decide +kernel), List.mem_of_getElem? (i := 1521) (by decide +kernel), List.mem_of_getElem? (i := 1522) (by decide +kernel)⟩
theorem lw_p111 : lw_okq (⟨"MacroScopesModel", "lambda", "(III)V"⟩, 64) := ⟨⟨by decide +kernel, by decide +kernel⟩, List.mem_of_getElem? (i := 1078) (by decide +kernel), List.mem_of_getElem? (i := 1525) (by decide +kernel), List.mem_of_getElem? (i := 1526) (by decide +kernel)⟩
def lw_privs_7 : List (MethodName × Nat) := [(⟨"MacroScopesModel", "use", "(IIIII)V"⟩, 64), (⟨"MacroScopesModel", "matches", "(IIIII)Z"⟩, 64), (⟨"MacroScopesModel", "lookAtParts", "(III)Z"⟩, 64), (⟨"MacroScopesModel", "keepMatches", "(II)V"⟩, 64), (⟨"MacroScopesModel", "keepParts", "(IIII)V"⟩, 64), (⟨"MacroScopesModel", "setCounts", "(II)V"⟩, 64), (⟨"MacroScopesModel", "areCountsAlike", "(I)Z"⟩, 64), (⟨"MacroScopesModel", "turnsOf", "(I)I"⟩, 64), (⟨"MacroScopesModel", "sizeMade", "(I)I"⟩, 64), (⟨"MacroScopesModel", "make", "(II)I"⟩, 64), (⟨"MacroScopesModel", "begin", "(IIII)I"⟩, 64), (⟨"MacroScopesModel", "alias", "(III)I"⟩, 64), (⟨"MacroScopesModel", "nested", "(I)I"⟩, 64), (⟨"MacroScopesModel", "expandWord", "(IIII)V"⟩, 64), (⟨"MacroScopesModel", "taskParts", "(IIIII)V"⟩, 64), (⟨"MacroScopesModel", "lambda", "(III)V"⟩, 64)]
theorem lw_r7 : ∀ q ∈ lw_privs_7, lw_okq q := List.forall_mem_cons.mpr ⟨lw_p96, List.forall_mem_cons.mpr ⟨lw_p97, List.forall_mem_cons.mpr ⟨lw_p98, List.forall_mem_cons.mpr ⟨lw_p99, List.forall_mem_cons.mpr ⟨lw_p100, List.forall_mem_cons.mpr ⟨lw_p101, List.forall_mem_cons.mpr ⟨lw_p102, List.forall_mem_cons.mpr ⟨lw_p103, List.forall_mem_cons.mpr ⟨lw_p104, List.forall_mem_cons.mpr ⟨lw_p105, List.forall_mem_cons.mpr ⟨lw_p106, List.forall_mem_cons.mpr ⟨lw_p107, List.forall_mem_cons.mpr ⟨lw_p108, List.forall_mem_cons.mpr ⟨lw_p109, List.forall_mem_cons.mpr ⟨lw_p110, List.forall_mem_cons.mpr ⟨lw_p111, fun _ h => absurd h List.not_mem_nil⟩⟩⟩⟩⟩⟩⟩⟩⟩⟩⟩⟩⟩⟩⟩⟩
theorem lw_p112 : lw_okq (⟨"MacroScopesModel", "newEnvironment", "(I)I"⟩, 64) := ⟨⟨by decide +kernel, by decide +kernel⟩, List.mem_of_getElem? (i := 1078) (by decide +kernel), List.mem_of_getElem? (i := 1529) (by decide +kernel), List.mem_of_getElem? (i := 1530) (by decide +kernel)⟩
theorem lw_p113 : lw_okq (⟨"MacroScopesModel", "bind", "(III)V"⟩, 64) := ⟨⟨by decide +kernel, by decide +kernel⟩, List.mem_of_getElem? (i := 1078) (by decide +kernel), List.mem_of_getElem? (i := 1533) (by decide +kernel), List.mem_of_getElem? (i := 1534) (by decide +kernel)⟩
theorem lw_p114 : lw_okq (⟨"MacroScopesModel", "letSyntax", "(III)V"⟩, 64) := ⟨⟨by decide +kernel, by decide +kernel⟩, List.mem_of_getElem? (i := 1078) (by decide +kernel), List.mem_of_getElem? (i := 1537) (by decide +kernel), List.mem_of_getElem? (i := 1538) (by decide +kernel)⟩
theorem lw_p115 : lw_okq (⟨"MacroScopesModel", "sayPlain", "(I)V"⟩, 64) := ⟨⟨by decide +kernel, by decide +kernel⟩, List.mem_of_getElem? (i := 1078) (by decide +kernel), List.mem_of_getElem? (i := 1541) (by decide +kernel), List.mem_of_getElem? (i := 1542) (by decide +kernel)⟩
theorem lw_p116 : lw_okq (⟨"MacroScopesModel", "stay", "()V"⟩, 64) := ⟨⟨by decide +kernel, by decide +kernel⟩, List.mem_of_getElem? (i := 1078) (by decide +kernel), List.mem_of_getElem? (i := 1545) (by decide +kernel), List.mem_of_getElem? (i := 1546) (by decide +kernel)⟩
theorem lw_p117 : lw_okq (⟨"MacroScopesModel", "copyOne", "(I)I"⟩, 64) := ⟨⟨by decide +kernel, by decide +kernel⟩, List.mem_of_getElem? (i := 1078) (by decide +kernel), List.mem_of_getElem? (i := 1549) (by decide +kernel), List.mem_of_getElem? (i := 1550) (by decide +kernel)⟩
def lw_privs_8 : List (MethodName × Nat) := [(⟨"MacroScopesModel", "newEnvironment", "(I)I"⟩, 64), (⟨"MacroScopesModel", "bind", "(III)V"⟩, 64), (⟨"MacroScopesModel", "letSyntax", "(III)V"⟩, 64), (⟨"MacroScopesModel", "sayPlain", "(I)V"⟩, 64), (⟨"MacroScopesModel", "stay", "()V"⟩, 64), (⟨"MacroScopesModel", "copyOne", "(I)I"⟩, 64)]
theorem lw_r8 : ∀ q ∈ lw_privs_8, lw_okq q := List.forall_mem_cons.mpr ⟨lw_p112, List.forall_mem_cons.mpr ⟨lw_p113, List.forall_mem_cons.mpr ⟨lw_p114, List.forall_mem_cons.mpr ⟨lw_p115, List.forall_mem_cons.mpr ⟨lw_p116, List.forall_mem_cons.mpr ⟨lw_p117, fun _ h => absurd h List.not_mem_nil⟩⟩⟩⟩⟩⟩
def lw_privs : List (MethodName × Nat) := lw_privs_1 ++ (lw_privs_2 ++ (lw_privs_3 ++ (lw_privs_4 ++ (lw_privs_5 ++ (lw_privs_6 ++ (lw_privs_7 ++ (lw_privs_8)))))))
def lw_tbl : List Cond := k2_sels lw_privs ++ tables_1
theorem lw_privs_ok : ∀ q ∈ lw_privs, lw_okq q := by
  show ∀ q ∈ lw_privs_1 ++ (lw_privs_2 ++ (lw_privs_3 ++ (lw_privs_4 ++ (lw_privs_5 ++ (lw_privs_6 ++ (lw_privs_7 ++ (lw_privs_8))))))), lw_okq q
  exact List.forall_mem_append.mpr ⟨lw_r1, List.forall_mem_append.mpr ⟨lw_r2, List.forall_mem_append.mpr ⟨lw_r3, List.forall_mem_append.mpr ⟨lw_r4, List.forall_mem_append.mpr ⟨lw_r5, List.forall_mem_append.mpr ⟨lw_r6, List.forall_mem_append.mpr ⟨lw_r7, lw_r8⟩⟩⟩⟩⟩⟩⟩

/-! ===== BEGIN words of one list among another's, by their places ===== -/
theorem goodIn_r {big : List Cond} (ws : List Cond) (ps : List Nat) (hp : ws = ps.filterMap (fun i => big[i]?)) (h : ws.all goodWord = true) : GoodIn big ws := by
  intro w hw
  have h1 := List.all_eq_true.mp h w hw
  rw [hp] at hw
  obtain ⟨i, -, hi⟩ := List.mem_filterMap.mp hw
  have hm : w ∈ big := by first | exact List.mem_of_getElem? hi | exact List.getElem?_mem hi
  exact ⟨hm, good_of_word h1⟩
theorem goodIn_app {big a b : List Cond} (ha : GoodIn big a) (hb : GoodIn big b) : GoodIn big (a ++ b) := fun w h => (List.mem_append.mp h).elim (ha w) (hb w)
theorem goodIn_ca {big a b : List Cond} {c : Cond} (ha : GoodIn big (c :: a)) (hb : GoodIn big b) : GoodIn big (c :: (a ++ b)) := fun w h => (List.mem_cons.mp h).elim (fun e => ha w (List.mem_cons.mpr (Or.inl e))) (fun h => (List.mem_append.mp h).elim (fun h => ha w (List.mem_cons.mpr (Or.inr h))) (hb w))
theorem goodIn_sub {big ws : List Cond} (hm : ∀ w ∈ ws, w ∈ big) (h : ws.all goodWord = true) : GoodIn big ws := fun w hw => ⟨hm w hw, good_of_word (List.all_eq_true.mp h w hw)⟩
/-! ===== END ===== -/

/-! ===== BEGIN printed: names, fields, word lists, decode rows ===== -/
def RX0 : String := "MacroScopes$Expander"
def TX0 : u_T := fun k => match k with
  | 0 => ("MacroScopes$Expander", "forms", "LMacroScopes$Forms;", true)
  | 1 => ("MacroScopes$Expander", "names", "LMacroScopes$Names;", true)
  | 2 => ("MacroScopes$Expander", "told", "LMacroScopes$Told;", true)
  | 3 => ("MacroScopes$Expander", "scopes", "LMacroScopes$Scopes;", true)
  | 4 => ("MacroScopes$Expander", "ruleCheck", "LMacroScopes$RuleCheck;", true)
  | 5 => ("MacroScopes$Expander", "matcher", "LMacroScopes$Matcher;", true)
  | 6 => ("MacroScopes$Expander", "maker", "LMacroScopes$Maker;", true)
  | 7 => ("MacroScopes$Expander", "frames", "LMacroScopes$Frames;", true)
  | 8 => ("MacroScopes$Expander", "nextTop", "I", false)
  | 9 => ("MacroScopes$Expander", "defined", "I", false)
  | 10 => ("MacroScopes$Expander", "fault", "I", false)
  | 11 => ("MacroScopes$Expander", "place", "I", false)
  | 12 => ("MacroScopes$Expander", "uses", "I", false)
  | 13 => ("MacroScopes$Expander", "layers", "I", false)
  | _ => ("MacroScopes$Expander", "variables", "I", false)
def tyX0 : Nat → FieldType := fun k => match k with
  | 0 => .object "MacroScopes$Forms"
  | 1 => .object "MacroScopes$Names"
  | 2 => .object "MacroScopes$Told"
  | 3 => .object "MacroScopes$Scopes"
  | 4 => .object "MacroScopes$RuleCheck"
  | 5 => .object "MacroScopes$Matcher"
  | 6 => .object "MacroScopes$Maker"
  | 7 => .object "MacroScopes$Frames"
  | 8 => .int
  | 9 => .int
  | 10 => .int
  | 11 => .int
  | 12 => .int
  | 13 => .int
  | _ => .int
abbrev wsX00 : List Cond := u_ws RX0 TX0 15
theorem nmX0 : ∀ a, a < 15 → ∀ b, b < 15 → a ≠ b → (TX0 a).2.1 ≠ (TX0 b).2.1 := by decide +kernel
theorem tyX0_ok : ∀ k, k < 15 → parseFieldDescriptor (TX0 k).2.2.1 = some (tyX0 k) := by decide +kernel
abbrev cX0_init : ByteArray := prog_2_method_1_code
def yX0_init : MethodName := ⟨RX0, "<init>", "(LMacroScopes$Forms;LMacroScopes$Names;LMacroScopes$Told;)V"⟩
abbrev cX0_tellText : ByteArray := prog_2_method_2_code
def yX0_tellText : MethodName := ⟨RX0, "tellText", "()I"⟩
abbrev cX0_startText : ByteArray := prog_2_method_3_code
def yX0_startText : MethodName := ⟨RX0, "startText", "()V"⟩
abbrev cX0_nextInFrame : ByteArray := prog_2_method_4_code
def yX0_nextInFrame : MethodName := ⟨RX0, "nextInFrame", "()I"⟩
abbrev cX0_leaveFrame : ByteArray := prog_2_method_5_code
def yX0_leaveFrame : MethodName := ⟨RX0, "leaveFrame", "()V"⟩
abbrev cX0_nextTopForm : ByteArray := prog_2_method_6_code
def yX0_nextTopForm : MethodName := ⟨RX0, "nextTopForm", "()I"⟩
abbrev cX0_remember : ByteArray := prog_2_method_7_code
def yX0_remember : MethodName := ⟨RX0, "remember", "()V"⟩
abbrev cX0_definesSymbol : ByteArray := prog_2_method_8_code
def yX0_definesSymbol : MethodName := ⟨RX0, "definesSymbol", "(I)Z"⟩
abbrev cX0_define : ByteArray := prog_2_method_9_code
def yX0_define : MethodName := ⟨RX0, "define", "(I)V"⟩
abbrev cX0_defineSyntax : ByteArray := prog_2_method_10_code
def yX0_defineSyntax : MethodName := ⟨RX0, "defineSyntax", "(I)V"⟩
abbrev cX0_expandAlone : ByteArray := prog_2_method_11_code
def yX0_expandAlone : MethodName := ⟨RX0, "expandAlone", "(I)V"⟩
abbrev cX0_headMeaning : ByteArray := prog_2_method_12_code
def yX0_headMeaning : MethodName := ⟨RX0, "headMeaning", "(I)I"⟩
abbrev cX0_canExpand : ByteArray := prog_2_method_13_code
def yX0_canExpand : MethodName := ⟨RX0, "canExpand", "(I)Z"⟩
abbrev cX0_expandPlain : ByteArray := prog_2_method_14_code
def yX0_expandPlain : MethodName := ⟨RX0, "expandPlain", "(I)V"⟩
abbrev cX0_expandUse : ByteArray := prog_2_method_15_code
def yX0_expandUse : MethodName := ⟨RX0, "expandUse", "(II)V"⟩
abbrev cX0_expandWord : ByteArray := prog_2_method_16_code
def yX0_expandWord : MethodName := ⟨RX0, "expandWord", "(II)V"⟩
abbrev cX0_expandIf : ByteArray := prog_2_method_17_code
def yX0_expandIf : MethodName := ⟨RX0, "expandIf", "(I)V"⟩
abbrev cX0_expandQuote : ByteArray := prog_2_method_18_code
def yX0_expandQuote : MethodName := ⟨RX0, "expandQuote", "(I)V"⟩
abbrev cX0_tellRoots : ByteArray := prog_2_method_19_code
def yX0_tellRoots : MethodName := ⟨RX0, "tellRoots", "(I)V"⟩
abbrev cX0_startLayer : ByteArray := prog_2_method_20_code
def yX0_startLayer : MethodName := ⟨RX0, "startLayer", "(I)Z"⟩
abbrev cX0_canBind : ByteArray := prog_2_method_21_code
def yX0_canBind : MethodName := ⟨RX0, "canBind", "(II)Z"⟩
abbrev cX0_expandLambda : ByteArray := prog_2_method_22_code
def yX0_expandLambda : MethodName := ⟨RX0, "expandLambda", "(I)V"⟩
abbrev cX0_bindVariables : ByteArray := prog_2_method_23_code
def yX0_bindVariables : MethodName := ⟨RX0, "bindVariables", "(I)V"⟩
abbrev cX0_expandLetSyntax : ByteArray := prog_2_method_24_code
def yX0_expandLetSyntax : MethodName := ⟨RX0, "expandLetSyntax", "(I)V"⟩
abbrev cX0_bindMacros : ByteArray := prog_2_method_25_code
def yX0_bindMacros : MethodName := ⟨RX0, "bindMacros", "(II)V"⟩
def RX1 : String := "MacroScopes$Forms"
def TX1 : u_T := fun k => match k with
  | 0 => ("MacroScopes$Forms", "what", "[I", false)
  | 1 => ("MacroScopes$Forms", "span", "[I", false)
  | 2 => ("MacroScopes$Forms", "top", "I", false)
  | _ => ("MacroScopes$Forms", "kept", "I", false)
def tyX1 : Nat → FieldType := fun k => match k with
  | 0 => .array .int
  | 1 => .array .int
  | 2 => .int
  | _ => .int
abbrev wsX10 : List Cond := u_ws RX1 TX1 4
theorem nmX1 : ∀ a, a < 4 → ∀ b, b < 4 → a ≠ b → (TX1 a).2.1 ≠ (TX1 b).2.1 := by decide +kernel
theorem tyX1_ok : ∀ k, k < 4 → parseFieldDescriptor (TX1 k).2.2.1 = some (tyX1 k) := by decide +kernel
abbrev cX1_init : ByteArray := prog_3_method_1_code
def yX1_init : MethodName := ⟨RX1, "<init>", "()V"⟩
abbrev cX1_startText : ByteArray := prog_3_method_2_code
def yX1_startText : MethodName := ⟨RX1, "startText", "()V"⟩
abbrev cX1_makeRoom : ByteArray := prog_3_method_3_code
def yX1_makeRoom : MethodName := ⟨RX1, "makeRoom", "()V"⟩
abbrev cX1_add : ByteArray := prog_3_method_4_code
def yX1_add : MethodName := ⟨RX1, "add", "(I)I"⟩
abbrev cX1_ofNumber : ByteArray := prog_3_method_5_code
def yX1_ofNumber : MethodName := ⟨RX1, "ofNumber", "(I)I"⟩
abbrev cX1_ofName : ByteArray := prog_3_method_6_code
def yX1_ofName : MethodName := ⟨RX1, "ofName", "(I)I"⟩
abbrev cX1_endList : ByteArray := prog_3_method_7_code
def yX1_endList : MethodName := ⟨RX1, "endList", "(I)V"⟩
abbrev cX1_whatIs : ByteArray := prog_3_method_8_code
def yX1_whatIs : MethodName := ⟨RX1, "whatIs", "(I)I"⟩
abbrev cX1_isList : ByteArray := prog_3_method_9_code
def yX1_isList : MethodName := ⟨RX1, "isList", "(I)Z"⟩
abbrev cX1_nameOf : ByteArray := prog_3_method_10_code
def yX1_nameOf : MethodName := ⟨RX1, "nameOf", "(I)I"⟩
abbrev cX1_numberOf : ByteArray := prog_3_method_11_code
def yX1_numberOf : MethodName := ⟨RX1, "numberOf", "(I)I"⟩
abbrev cX1_size : ByteArray := prog_3_method_12_code
def yX1_size : MethodName := ⟨RX1, "size", "(I)I"⟩
abbrev cX1_after : ByteArray := prog_3_method_13_code
def yX1_after : MethodName := ⟨RX1, "after", "(I)I"⟩
abbrev cX1_head : ByteArray := prog_3_method_14_code
def yX1_head : MethodName := ⟨RX1, "head", "(I)I"⟩
abbrev cX1_parts : ByteArray := prog_3_method_15_code
def yX1_parts : MethodName := ⟨RX1, "parts", "(I)I"⟩
abbrev cX1_part : ByteArray := prog_3_method_16_code
def yX1_part : MethodName := ⟨RX1, "part", "(II)I"⟩
abbrev cX1_holdsDots : ByteArray := prog_3_method_17_code
def yX1_holdsDots : MethodName := ⟨RX1, "holdsDots", "(I)Z"⟩
abbrev cX1_isRepeated : ByteArray := prog_3_method_18_code
def yX1_isRepeated : MethodName := ⟨RX1, "isRepeated", "(II)Z"⟩
abbrev cX1_keep : ByteArray := prog_3_method_19_code
def yX1_keep : MethodName := ⟨RX1, "keep", "(I)I"⟩
def RX2 : String := "MacroScopes$Frames"
def TX2 : u_T := fun k => match k with
  | 0 => ("MacroScopes$Frames", "next", "[I", true)
  | 1 => ("MacroScopes$Frames", "end", "[I", true)
  | 2 => ("MacroScopes$Frames", "closes", "[Z", true)
  | 3 => ("MacroScopes$Frames", "formsBefore", "[I", true)
  | 4 => ("MacroScopes$Frames", "namesBefore", "[I", true)
  | 5 => ("MacroScopes$Frames", "scopesBefore", "[I", true)
  | _ => ("MacroScopes$Frames", "top", "I", false)
def tyX2 : Nat → FieldType := fun k => match k with
  | 0 => .array .int
  | 1 => .array .int
  | 2 => .array .boolean
  | 3 => .array .int
  | 4 => .array .int
  | 5 => .array .int
  | _ => .int
abbrev wsX20 : List Cond := u_ws RX2 TX2 7
theorem nmX2 : ∀ a, a < 7 → ∀ b, b < 7 → a ≠ b → (TX2 a).2.1 ≠ (TX2 b).2.1 := by decide +kernel
theorem tyX2_ok : ∀ k, k < 7 → parseFieldDescriptor (TX2 k).2.2.1 = some (tyX2 k) := by decide +kernel
abbrev cX2_init : ByteArray := prog_4_method_1_code
def yX2_init : MethodName := ⟨RX2, "<init>", "()V"⟩
abbrev cX2_enter : ByteArray := prog_4_method_2_code
def yX2_enter : MethodName := ⟨RX2, "enter", "(IIZ)V"⟩
abbrev cX2_remember : ByteArray := prog_4_method_3_code
def yX2_remember : MethodName := ⟨RX2, "remember", "(III)V"⟩
abbrev cX2_nextForm : ByteArray := prog_4_method_4_code
def yX2_nextForm : MethodName := ⟨RX2, "nextForm", "(LMacroScopes$Forms;)I"⟩
def RX3 : String := "MacroScopes$Maker"
def TX3 : u_T := fun k => match k with
  | 0 => ("MacroScopes$Maker", "forms", "LMacroScopes$Forms;", true)
  | 1 => ("MacroScopes$Maker", "names", "LMacroScopes$Names;", true)
  | 2 => ("MacroScopes$Maker", "matches", "LMacroScopes$Matches;", true)
  | 3 => ("MacroScopes$Maker", "home", "I", false)
  | 4 => ("MacroScopes$Maker", "start", "I", false)
  | _ => ("MacroScopes$Maker", "tooMuch", "Z", false)
def tyX3 : Nat → FieldType := fun k => match k with
  | 0 => .object "MacroScopes$Forms"
  | 1 => .object "MacroScopes$Names"
  | 2 => .object "MacroScopes$Matches"
  | 3 => .int
  | 4 => .int
  | _ => .boolean
abbrev wsX30 : List Cond := u_ws RX3 TX3 6
theorem nmX3 : ∀ a, a < 6 → ∀ b, b < 6 → a ≠ b → (TX3 a).2.1 ≠ (TX3 b).2.1 := by decide +kernel
theorem tyX3_ok : ∀ k, k < 6 → parseFieldDescriptor (TX3 k).2.2.1 = some (tyX3 k) := by decide +kernel
abbrev cX3_init : ByteArray := prog_5_method_1_code
def yX3_init : MethodName := ⟨RX3, "<init>", "(LMacroScopes$Forms;LMacroScopes$Names;LMacroScopes$Matches;)V"⟩
abbrev cX3_make : ByteArray := prog_5_method_2_code
def yX3_make : MethodName := ⟨RX3, "make", "(II)I"⟩
abbrev cX3_isEven : ByteArray := prog_5_method_3_code
def yX3_isEven : MethodName := ⟨RX3, "isEven", "(I)Z"⟩
abbrev cX3_turnsOf : ByteArray := prog_5_method_4_code
def yX3_turnsOf : MethodName := ⟨RX3, "turnsOf", "(I)I"⟩
abbrev cX3_build : ByteArray := prog_5_method_5_code
def yX3_build : MethodName := ⟨RX3, "build", "(III)V"⟩
abbrev cX3_buildTurns : ByteArray := prog_5_method_6_code
def yX3_buildTurns : MethodName := ⟨RX3, "buildTurns", "(II)V"⟩
abbrev cX3_buildPart : ByteArray := prog_5_method_7_code
def yX3_buildPart : MethodName := ⟨RX3, "buildPart", "(III)V"⟩
abbrev cX3_aliasOf : ByteArray := prog_5_method_8_code
def yX3_aliasOf : MethodName := ⟨RX3, "aliasOf", "(I)I"⟩
abbrev cX3_copy : ByteArray := prog_5_method_9_code
def yX3_copy : MethodName := ⟨RX3, "copy", "(II)V"⟩
abbrev cX3_addList : ByteArray := prog_5_method_10_code
def yX3_addList : MethodName := ⟨RX3, "addList", "(I)I"⟩
abbrev cX3_add : ByteArray := prog_5_method_11_code
def yX3_add : MethodName := ⟨RX3, "add", "(I)I"⟩
def RX4 : String := "MacroScopes$Matcher"
def TX4 : u_T := fun k => match k with
  | 0 => ("MacroScopes$Matcher", "forms", "LMacroScopes$Forms;", true)
  | 1 => ("MacroScopes$Matcher", "names", "LMacroScopes$Names;", true)
  | 2 => ("MacroScopes$Matcher", "scopes", "LMacroScopes$Scopes;", true)
  | 3 => ("MacroScopes$Matcher", "matches", "LMacroScopes$Matches;", true)
  | 4 => ("MacroScopes$Matcher", "literals", "I", false)
  | _ => ("MacroScopes$Matcher", "home", "I", false)
def tyX4 : Nat → FieldType := fun k => match k with
  | 0 => .object "MacroScopes$Forms"
  | 1 => .object "MacroScopes$Names"
  | 2 => .object "MacroScopes$Scopes"
  | 3 => .object "MacroScopes$Matches"
  | 4 => .int
  | _ => .int
abbrev wsX40 : List Cond := u_ws RX4 TX4 6
theorem nmX4 : ∀ a, a < 6 → ∀ b, b < 6 → a ≠ b → (TX4 a).2.1 ≠ (TX4 b).2.1 := by decide +kernel
theorem tyX4_ok : ∀ k, k < 6 → parseFieldDescriptor (TX4 k).2.2.1 = some (tyX4 k) := by decide +kernel
abbrev cX4_init : ByteArray := prog_6_method_1_code
def yX4_init : MethodName := ⟨RX4, "<init>", "(LMacroScopes$Forms;LMacroScopes$Names;LMacroScopes$Scopes;LMacroScopes$Matches;)V"⟩
abbrev cX4_ruleFor : ByteArray := prog_6_method_2_code
def yX4_ruleFor : MethodName := ⟨RX4, "ruleFor", "(III)I"⟩
abbrev cX4_rowMatches : ByteArray := prog_6_method_3_code
def yX4_rowMatches : MethodName := ⟨RX4, "rowMatches", "(IIIIZ)Z"⟩
abbrev cX4_restMatches : ByteArray := prog_6_method_4_code
def yX4_restMatches : MethodName := ⟨RX4, "restMatches", "(III)Z"⟩
abbrev cX4_addVariables : ByteArray := prog_6_method_5_code
def yX4_addVariables : MethodName := ⟨RX4, "addVariables", "(I)V"⟩
abbrev cX4_formMatches : ByteArray := prog_6_method_6_code
def yX4_formMatches : MethodName := ⟨RX4, "formMatches", "(IIZ)Z"⟩
abbrev cX4_isVariable : ByteArray := prog_6_method_7_code
def yX4_isVariable : MethodName := ⟨RX4, "isVariable", "(I)Z"⟩
abbrev cX4_isMeant : ByteArray := prog_6_method_8_code
def yX4_isMeant : MethodName := ⟨RX4, "isMeant", "(II)Z"⟩
def RX5 : String := "MacroScopes$Matches"
def TX5 : u_T := fun k => match k with
  | 0 => ("MacroScopes$Matches", "first", "[I", true)
  | 1 => ("MacroScopes$Matches", "apart", "[I", true)
  | 2 => ("MacroScopes$Matches", "times", "[I", true)
  | 3 => ("MacroScopes$Matches", "matched", "[I", true)
  | 4 => ("MacroScopes$Matches", "variables", "I", false)
  | _ => ("MacroScopes$Matches", "forms", "I", false)
def tyX5 : Nat → FieldType := fun k => match k with
  | 0 => .array .int
  | 1 => .array .int
  | 2 => .array .int
  | 3 => .array .int
  | 4 => .int
  | _ => .int
abbrev wsX50 : List Cond := u_ws RX5 TX5 6
theorem nmX5 : ∀ a, a < 6 → ∀ b, b < 6 → a ≠ b → (TX5 a).2.1 ≠ (TX5 b).2.1 := by decide +kernel
theorem tyX5_ok : ∀ k, k < 6 → parseFieldDescriptor (TX5 k).2.2.1 = some (tyX5 k) := by decide +kernel
abbrev cX5_init : ByteArray := prog_7_method_1_code
def yX5_init : MethodName := ⟨RX5, "<init>", "()V"⟩
abbrev cX5_clear : ByteArray := prog_7_method_2_code
def yX5_clear : MethodName := ⟨RX5, "clear", "()V"⟩
abbrev cX5_addVariable : ByteArray := prog_7_method_3_code
def yX5_addVariable : MethodName := ⟨RX5, "addVariable", "(I)I"⟩
abbrev cX5_addForm : ByteArray := prog_7_method_4_code
def yX5_addForm : MethodName := ⟨RX5, "addForm", "(I)V"⟩
abbrev cX5_repeat : ByteArray := prog_7_method_5_code
def yX5_repeat : MethodName := ⟨RX5, "repeat", "(II)V"⟩
abbrev cX5_timesOf : ByteArray := prog_7_method_6_code
def yX5_timesOf : MethodName := ⟨RX5, "timesOf", "(I)I"⟩
abbrev cX5_formOf : ByteArray := prog_7_method_7_code
def yX5_formOf : MethodName := ⟨RX5, "formOf", "(II)I"⟩
def RX6 : String := "MacroScopes$Names"
def TX6 : u_T := fun k => match k with
  | 0 => ("MacroScopes$Names", "firstHalf", "[J", true)
  | 1 => ("MacroScopes$Names", "secondHalf", "[J", true)
  | 2 => ("MacroScopes$Names", "rules", "[I", true)
  | 3 => ("MacroScopes$Names", "rulesBefore", "[I", true)
  | 4 => ("MacroScopes$Names", "symbols", "I", false)
  | 5 => ("MacroScopes$Names", "symbolsBefore", "I", false)
  | 6 => ("MacroScopes$Names", "original", "[I", false)
  | 7 => ("MacroScopes$Names", "home", "[I", false)
  | 8 => ("MacroScopes$Names", "binding", "[I", false)
  | 9 => ("MacroScopes$Names", "mark", "[I", false)
  | 10 => ("MacroScopes$Names", "note", "[I", false)
  | 11 => ("MacroScopes$Names", "top", "I", false)
  | _ => ("MacroScopes$Names", "latestMark", "I", false)
def tyX6 : Nat → FieldType := fun k => match k with
  | 0 => .array .long
  | 1 => .array .long
  | 2 => .array .int
  | 3 => .array .int
  | 4 => .int
  | 5 => .int
  | 6 => .array .int
  | 7 => .array .int
  | 8 => .array .int
  | 9 => .array .int
  | 10 => .array .int
  | 11 => .int
  | _ => .int
abbrev wsX60 : List Cond := u_ws RX6 TX6 13
theorem nmX6 : ∀ a, a < 13 → ∀ b, b < 13 → a ≠ b → (TX6 a).2.1 ≠ (TX6 b).2.1 := by decide +kernel
theorem tyX6_ok : ∀ k, k < 13 → parseFieldDescriptor (TX6 k).2.2.1 = some (tyX6 k) := by decide +kernel
abbrev cX6_init : ByteArray := prog_8_method_1_code
def yX6_init : MethodName := ⟨RX6, "<init>", "()V"⟩
abbrev cX6_addGiven : ByteArray := prog_8_method_2_code
def yX6_addGiven : MethodName := ⟨RX6, "addGiven", "(Ljava/lang/String;)V"⟩
abbrev cX6_half : ByteArray := prog_8_method_3_code
def yX6_half : MethodName := ⟨RX6, "half", "([CII)J"⟩
abbrev cX6_startText : ByteArray := prog_8_method_4_code
def yX6_startText : MethodName := ⟨RX6, "startText", "()V"⟩
abbrev cX6_takeBack : ByteArray := prog_8_method_5_code
def yX6_takeBack : MethodName := ⟨RX6, "takeBack", "()V"⟩
abbrev cX6_take : ByteArray := prog_8_method_6_code
def yX6_take : MethodName := ⟨RX6, "take", "(Z)V"⟩
abbrev cX6_find : ByteArray := prog_8_method_7_code
def yX6_find : MethodName := ⟨RX6, "find", "(JJ)I"⟩
abbrev cX6_addSymbol : ByteArray := prog_8_method_8_code
def yX6_addSymbol : MethodName := ⟨RX6, "addSymbol", "(JJ)I"⟩
abbrev cX6_addName : ByteArray := prog_8_method_9_code
def yX6_addName : MethodName := ⟨RX6, "addName", "(II)I"⟩
abbrev cX6_makeRoom : ByteArray := prog_8_method_10_code
def yX6_makeRoom : MethodName := ⟨RX6, "makeRoom", "()V"⟩
abbrev cX6_has : ByteArray := prog_8_method_11_code
def yX6_has : MethodName := ⟨RX6, "has", "(I)Z"⟩
abbrev cX6_originalOf : ByteArray := prog_8_method_12_code
def yX6_originalOf : MethodName := ⟨RX6, "originalOf", "(I)I"⟩
abbrev cX6_root : ByteArray := prog_8_method_13_code
def yX6_root : MethodName := ⟨RX6, "root", "(I)I"⟩
abbrev cX6_rulesOf : ByteArray := prog_8_method_14_code
def yX6_rulesOf : MethodName := ⟨RX6, "rulesOf", "(I)I"⟩
abbrev cX6_setRules : ByteArray := prog_8_method_15_code
def yX6_setRules : MethodName := ⟨RX6, "setRules", "(II)V"⟩
abbrev cX6_macros : ByteArray := prog_8_method_16_code
def yX6_macros : MethodName := ⟨RX6, "macros", "()I"⟩
abbrev cX6_clearNotes : ByteArray := prog_8_method_17_code
def yX6_clearNotes : MethodName := ⟨RX6, "clearNotes", "()V"⟩
abbrev cX6_isNoted : ByteArray := prog_8_method_18_code
def yX6_isNoted : MethodName := ⟨RX6, "isNoted", "(I)Z"⟩
abbrev cX6_noteOf : ByteArray := prog_8_method_19_code
def yX6_noteOf : MethodName := ⟨RX6, "noteOf", "(I)I"⟩
abbrev cX6_setNote : ByteArray := prog_8_method_20_code
def yX6_setNote : MethodName := ⟨RX6, "setNote", "(II)V"⟩
abbrev cX6_canBeBound : ByteArray := prog_8_method_21_code
def yX6_canBeBound : MethodName := ⟨RX6, "canBeBound", "(I)Z"⟩
def RX7 : String := "MacroScopes$Reader"
def TX7 : u_T := fun k => match k with
  | 0 => ("MacroScopes$Reader", "forms", "LMacroScopes$Forms;", true)
  | 1 => ("MacroScopes$Reader", "names", "LMacroScopes$Names;", true)
  | 2 => ("MacroScopes$Reader", "open", "[I", true)
  | _ => ("MacroScopes$Reader", "opened", "I", false)
def tyX7 : Nat → FieldType := fun k => match k with
  | 0 => .object "MacroScopes$Forms"
  | 1 => .object "MacroScopes$Names"
  | 2 => .array .int
  | _ => .int
abbrev wsX70 : List Cond := u_ws RX7 TX7 4
theorem nmX7 : ∀ a, a < 4 → ∀ b, b < 4 → a ≠ b → (TX7 a).2.1 ≠ (TX7 b).2.1 := by decide +kernel
theorem tyX7_ok : ∀ k, k < 4 → parseFieldDescriptor (TX7 k).2.2.1 = some (tyX7 k) := by decide +kernel
abbrev cX7_init : ByteArray := prog_9_method_1_code
def yX7_init : MethodName := ⟨RX7, "<init>", "(LMacroScopes$Forms;LMacroScopes$Names;)V"⟩
abbrev cX7_addForms : ByteArray := prog_9_method_2_code
def yX7_addForms : MethodName := ⟨RX7, "addForms", "([CI)I"⟩
abbrev cX7_addToken : ByteArray := prog_9_method_3_code
def yX7_addToken : MethodName := ⟨RX7, "addToken", "([CII)I"⟩
abbrev cX7_openList : ByteArray := prog_9_method_4_code
def yX7_openList : MethodName := ⟨RX7, "openList", "()I"⟩
abbrev cX7_closeList : ByteArray := prog_9_method_5_code
def yX7_closeList : MethodName := ⟨RX7, "closeList", "()I"⟩
abbrev cX7_addNumber : ByteArray := prog_9_method_6_code
def yX7_addNumber : MethodName := ⟨RX7, "addNumber", "([CII)I"⟩
abbrev cX7_addSymbol : ByteArray := prog_9_method_7_code
def yX7_addSymbol : MethodName := ⟨RX7, "addSymbol", "([CII)I"⟩
abbrev cX7_tokenFrom : ByteArray := prog_9_method_8_code
def yX7_tokenFrom : MethodName := ⟨RX7, "tokenFrom", "([CII)I"⟩
abbrev cX7_tokenEnd : ByteArray := prog_9_method_9_code
def yX7_tokenEnd : MethodName := ⟨RX7, "tokenEnd", "([CII)I"⟩
abbrev cX7_isBreak : ByteArray := prog_9_method_10_code
def yX7_isBreak : MethodName := ⟨RX7, "isBreak", "(C)Z"⟩
abbrev cX7_isDigits : ByteArray := prog_9_method_11_code
def yX7_isDigits : MethodName := ⟨RX7, "isDigits", "([CII)Z"⟩
abbrev cX7_isNumber : ByteArray := prog_9_method_12_code
def yX7_isNumber : MethodName := ⟨RX7, "isNumber", "([CII)Z"⟩
abbrev cX7_isSymbol : ByteArray := prog_9_method_13_code
def yX7_isSymbol : MethodName := ⟨RX7, "isSymbol", "([CII)Z"⟩
abbrev cX7_symbolOf : ByteArray := prog_9_method_14_code
def yX7_symbolOf : MethodName := ⟨RX7, "symbolOf", "([CII)I"⟩
def RX8 : String := "MacroScopes$RuleCheck"
def TX8 : u_T := fun k => match k with
  | 0 => ("MacroScopes$RuleCheck", "forms", "LMacroScopes$Forms;", true)
  | 1 => ("MacroScopes$RuleCheck", "names", "LMacroScopes$Names;", true)
  | 2 => ("MacroScopes$RuleCheck", "scopes", "LMacroScopes$Scopes;", true)
  | _ => ("MacroScopes$RuleCheck", "literals", "I", false)
def tyX8 : Nat → FieldType := fun k => match k with
  | 0 => .object "MacroScopes$Forms"
  | 1 => .object "MacroScopes$Names"
  | 2 => .object "MacroScopes$Scopes"
  | _ => .int
abbrev wsX80 : List Cond := u_ws RX8 TX8 4
theorem nmX8 : ∀ a, a < 4 → ∀ b, b < 4 → a ≠ b → (TX8 a).2.1 ≠ (TX8 b).2.1 := by decide +kernel
theorem tyX8_ok : ∀ k, k < 4 → parseFieldDescriptor (TX8 k).2.2.1 = some (tyX8 k) := by decide +kernel
abbrev cX8_init : ByteArray := prog_10_method_1_code
def yX8_init : MethodName := ⟨RX8, "<init>", "(LMacroScopes$Forms;LMacroScopes$Names;LMacroScopes$Scopes;)V"⟩
abbrev cX8_fits : ByteArray := prog_10_method_2_code
def yX8_fits : MethodName := ⟨RX8, "fits", "(II)Z"⟩
abbrev cX8_literalsFit : ByteArray := prog_10_method_3_code
def yX8_literalsFit : MethodName := ⟨RX8, "literalsFit", "()Z"⟩
abbrev cX8_ruleFits : ByteArray := prog_10_method_4_code
def yX8_ruleFits : MethodName := ⟨RX8, "ruleFits", "(I)Z"⟩
abbrev cX8_patternsFit : ByteArray := prog_10_method_5_code
def yX8_patternsFit : MethodName := ⟨RX8, "patternsFit", "(III)Z"⟩
abbrev cX8_patternFits : ByteArray := prog_10_method_6_code
def yX8_patternFits : MethodName := ⟨RX8, "patternFits", "(IZI)Z"⟩
abbrev cX8_templateFits : ByteArray := prog_10_method_7_code
def yX8_templateFits : MethodName := ⟨RX8, "templateFits", "(II)Z"⟩
abbrev cX8_holdsRepeated : ByteArray := prog_10_method_8_code
def yX8_holdsRepeated : MethodName := ⟨RX8, "holdsRepeated", "(I)Z"⟩
abbrev cX8_isLiteral : ByteArray := prog_10_method_9_code
def yX8_isLiteral : MethodName := ⟨RX8, "isLiteral", "(LMacroScopes$Forms;II)Z"⟩
def RX9 : String := "MacroScopes$Scopes"
def TX9 : u_T := fun k => match k with
  | 0 => ("MacroScopes$Scopes", "names", "LMacroScopes$Names;", true)
  | 1 => ("MacroScopes$Scopes", "name", "[I", true)
  | 2 => ("MacroScopes$Scopes", "outer", "[I", true)
  | 3 => ("MacroScopes$Scopes", "value", "[I", true)
  | 4 => ("MacroScopes$Scopes", "home", "[I", true)
  | _ => ("MacroScopes$Scopes", "top", "I", false)
def tyX9 : Nat → FieldType := fun k => match k with
  | 0 => .object "MacroScopes$Names"
  | 1 => .array .int
  | 2 => .array .int
  | 3 => .array .int
  | 4 => .array .int
  | _ => .int
abbrev wsX90 : List Cond := u_ws RX9 TX9 6
theorem nmX9 : ∀ a, a < 6 → ∀ b, b < 6 → a ≠ b → (TX9 a).2.1 ≠ (TX9 b).2.1 := by decide +kernel
theorem tyX9_ok : ∀ k, k < 6 → parseFieldDescriptor (TX9 k).2.2.1 = some (tyX9 k) := by decide +kernel
abbrev cX9_init : ByteArray := prog_11_method_1_code
def yX9_init : MethodName := ⟨RX9, "<init>", "(LMacroScopes$Names;)V"⟩
abbrev cX9_bindVariable : ByteArray := prog_11_method_2_code
def yX9_bindVariable : MethodName := ⟨RX9, "bindVariable", "(II)V"⟩
abbrev cX9_bindMacro : ByteArray := prog_11_method_3_code
def yX9_bindMacro : MethodName := ⟨RX9, "bindMacro", "(III)V"⟩
abbrev cX9_bind : ByteArray := prog_11_method_4_code
def yX9_bind : MethodName := ⟨RX9, "bind", "(III)V"⟩
abbrev cX9_isBoundSince : ByteArray := prog_11_method_5_code
def yX9_isBoundSince : MethodName := ⟨RX9, "isBoundSince", "(II)Z"⟩
abbrev cX9_leaveTo : ByteArray := prog_11_method_6_code
def yX9_leaveTo : MethodName := ⟨RX9, "leaveTo", "(I)V"⟩
abbrev cX9_meaning : ByteArray := prog_11_method_7_code
def yX9_meaning : MethodName := ⟨RX9, "meaning", "(II)I"⟩
abbrev cX9_isWord : ByteArray := prog_11_method_8_code
def yX9_isWord : MethodName := ⟨RX9, "isWord", "(I)Z"⟩
abbrev cX9_isMacro : ByteArray := prog_11_method_9_code
def yX9_isMacro : MethodName := ⟨RX9, "isMacro", "(I)Z"⟩
abbrev cX9_rulesOf : ByteArray := prog_11_method_10_code
def yX9_rulesOf : MethodName := ⟨RX9, "rulesOf", "(I)I"⟩
abbrev cX9_homeOf : ByteArray := prog_11_method_11_code
def yX9_homeOf : MethodName := ⟨RX9, "homeOf", "(I)I"⟩
def RX10 : String := "MacroScopes$Told"
def TX10 : u_T := fun k => match k with
  | 0 => ("MacroScopes$Told", "taken", "[C", false)
  | 1 => ("MacroScopes$Told", "takenLength", "I", false)
  | 2 => ("MacroScopes$Told", "text", "[C", false)
  | 3 => ("MacroScopes$Told", "length", "I", false)
  | _ => ("MacroScopes$Told", "last", "C", false)
def tyX10 : Nat → FieldType := fun k => match k with
  | 0 => .array .char
  | 1 => .int
  | 2 => .array .char
  | 3 => .int
  | _ => .char
abbrev wsX100 : List Cond := u_ws RX10 TX10 5
theorem nmX10 : ∀ a, a < 5 → ∀ b, b < 5 → a ≠ b → (TX10 a).2.1 ≠ (TX10 b).2.1 := by decide +kernel
theorem tyX10_ok : ∀ k, k < 5 → parseFieldDescriptor (TX10 k).2.2.1 = some (tyX10 k) := by decide +kernel
abbrev cX10_init : ByteArray := prog_12_method_1_code
def yX10_init : MethodName := ⟨RX10, "<init>", "()V"⟩
abbrev cX10_startText : ByteArray := prog_12_method_2_code
def yX10_startText : MethodName := ⟨RX10, "startText", "()V"⟩
abbrev cX10_take : ByteArray := prog_12_method_3_code
def yX10_take : MethodName := ⟨RX10, "take", "()V"⟩
abbrev cX10_add : ByteArray := prog_12_method_4_code
def yX10_add : MethodName := ⟨RX10, "add", "(C)V"⟩
abbrev cX10_addBlank : ByteArray := prog_12_method_5_code
def yX10_addBlank : MethodName := ⟨RX10, "addBlank", "()V"⟩
abbrev cX10_open : ByteArray := prog_12_method_6_code
def yX10_open : MethodName := ⟨RX10, "open", "()V"⟩
abbrev cX10_close : ByteArray := prog_12_method_7_code
def yX10_close : MethodName := ⟨RX10, "close", "()V"⟩
abbrev cX10_addNumber : ByteArray := prog_12_method_8_code
def yX10_addNumber : MethodName := ⟨RX10, "addNumber", "(I)V"⟩
abbrev cX10_addVariable : ByteArray := prog_12_method_9_code
def yX10_addVariable : MethodName := ⟨RX10, "addVariable", "(I)V"⟩
abbrev cX10_addDigits : ByteArray := prog_12_method_10_code
def yX10_addDigits : MethodName := ⟨RX10, "addDigits", "(I)V"⟩
abbrev cX10_addSymbol : ByteArray := prog_12_method_11_code
def yX10_addSymbol : MethodName := ⟨RX10, "addSymbol", "(LMacroScopes$Names;I)V"⟩
abbrev cX10_addHalf : ByteArray := prog_12_method_12_code
def yX10_addHalf : MethodName := ⟨RX10, "addHalf", "(J)V"⟩
abbrev cX10_at : ByteArray := prog_12_method_13_code
def yX10_at : MethodName := ⟨RX10, "at", "(I)I"⟩
abbrev cX10_canBeRead : ByteArray := prog_12_method_14_code
def yX10_canBeRead : MethodName := ⟨RX10, "canBeRead", "()Z"⟩
def RX11 : String := "MacroScopes"
def TX11 : u_T := fun k => match k with
  | 0 => ("MacroScopes", "typed", "[C", true)
  | 1 => ("MacroScopes", "names", "LMacroScopes$Names;", true)
  | 2 => ("MacroScopes", "forms", "LMacroScopes$Forms;", true)
  | 3 => ("MacroScopes", "told", "LMacroScopes$Told;", true)
  | 4 => ("MacroScopes", "reader", "LMacroScopes$Reader;", true)
  | 5 => ("MacroScopes", "expander", "LMacroScopes$Expander;", true)
  | 6 => ("MacroScopes", "typedLength", "I", false)
  | 7 => ("MacroScopes", "place", "I", false)
  | 8 => ("MacroScopes", "uses", "I", false)
  | 9 => ("MacroScopes", "variables", "I", false)
  | _ => ("MacroScopes", "topForms", "I", false)
def tyX11 : Nat → FieldType := fun k => match k with
  | 0 => .array .char
  | 1 => .object "MacroScopes$Names"
  | 2 => .object "MacroScopes$Forms"
  | 3 => .object "MacroScopes$Told"
  | 4 => .object "MacroScopes$Reader"
  | 5 => .object "MacroScopes$Expander"
  | 6 => .int
  | 7 => .int
  | 8 => .int
  | 9 => .int
  | _ => .int
abbrev wsX110 : List Cond := u_ws RX11 TX11 11
theorem nmX11 : ∀ a, a < 11 → ∀ b, b < 11 → a ≠ b → (TX11 a).2.1 ≠ (TX11 b).2.1 := by decide +kernel
theorem tyX11_ok : ∀ k, k < 11 → parseFieldDescriptor (TX11 k).2.2.1 = some (tyX11 k) := by decide +kernel
abbrev cX11_init : ByteArray := prog_1_method_1_code
def yX11_init : MethodName := ⟨RX11, "<init>", "()V"⟩
abbrev cX11_type : ByteArray := prog_1_method_2_code
def yX11_type : MethodName := ⟨RX11, "type", "(JI)I"⟩
abbrev cX11_read : ByteArray := prog_1_method_3_code
def yX11_read : MethodName := ⟨RX11, "read", "()I"⟩
abbrev cX11_place : ByteArray := prog_1_method_4_code
def yX11_place : MethodName := ⟨RX11, "place", "()I"⟩
abbrev cX11_count : ByteArray := prog_1_method_5_code
def yX11_count : MethodName := ⟨RX11, "count", "(I)I"⟩
abbrev cX11_character : ByteArray := prog_1_method_6_code
def yX11_character : MethodName := ⟨RX11, "character", "(I)I"⟩
abbrev cX11_means : ByteArray := prog_1_method_7_code
def yX11_means : MethodName := ⟨RX11, "means", "()I"⟩
abbrev cX11_check : ByteArray := prog_1_method_8_code
def yX11_check : MethodName := ⟨RX11, "check", "()I"⟩
abbrev cX11_byteOf : ByteArray := prog_1_method_9_code
def yX11_byteOf : MethodName := ⟨RX11, "byteOf", "(JI)I"⟩
abbrev cX11_takeText : ByteArray := prog_1_method_10_code
def yX11_takeText : MethodName := ⟨RX11, "takeText", "(Z)V"⟩
def RX12 : String := "MacroScopesModel"
def TX12 : u_T := fun k => match k with
  | 0 => ("MacroScopesModel", "thrown", "I", false)
  | 1 => ("MacroScopesModel", "text", "[B", true)
  | 2 => ("MacroScopesModel", "length", "I", false)
  | 3 => ("MacroScopesModel", "place", "I", false)
  | 4 => ("MacroScopesModel", "letters", "[B", true)
  | 5 => ("MacroScopesModel", "letterFrom", "[I", true)
  | 6 => ("MacroScopesModel", "symbols", "I", false)
  | 7 => ("MacroScopesModel", "defined", "[I", true)
  | 8 => ("MacroScopesModel", "definedBefore", "[I", true)
  | 9 => ("MacroScopesModel", "ruleSize", "I", false)
  | 10 => ("MacroScopesModel", "kinds", "[B", true)
  | 11 => ("MacroScopesModel", "values", "[I", true)
  | 12 => ("MacroScopesModel", "counts", "[I", true)
  | 13 => ("MacroScopesModel", "parts", "[I", true)
  | 14 => ("MacroScopesModel", "forms", "I", false)
  | 15 => ("MacroScopesModel", "partCount", "I", false)
  | 16 => ("MacroScopesModel", "staying", "I", false)
  | 17 => ("MacroScopesModel", "stayingParts", "I", false)
  | 18 => ("MacroScopesModel", "aliasFor", "[I", true)
  | 19 => ("MacroScopesModel", "aliasIn", "[I", true)
  | 20 => ("MacroScopesModel", "aliases", "I", false)
  | 21 => ("MacroScopesModel", "around", "[I", true)
  | 22 => ("MacroScopesModel", "bindingFrom", "[I", true)
  | 23 => ("MacroScopesModel", "environments", "I", false)
  | 24 => ("MacroScopesModel", "boundNames", "[I", true)
  | 25 => ("MacroScopesModel", "variableOf", "[I", true)
  | 26 => ("MacroScopesModel", "rulesOf", "[I", true)
  | 27 => ("MacroScopesModel", "bindings", "I", false)
  | 28 => ("MacroScopesModel", "tasks", "[B", true)
  | 29 => ("MacroScopesModel", "taskForms", "[I", true)
  | 30 => ("MacroScopesModel", "taskIn", "[I", true)
  | 31 => ("MacroScopesModel", "taskDeep", "[I", true)
  | 32 => ("MacroScopesModel", "todo", "I", false)
  | 33 => ("MacroScopesModel", "fault", "I", false)
  | 34 => ("MacroScopesModel", "variables", "I", false)
  | 35 => ("MacroScopesModel", "uses", "I", false)
  | 36 => ("MacroScopesModel", "binders", "I", false)
  | 37 => ("MacroScopesModel", "told", "[B", true)
  | 38 => ("MacroScopesModel", "toldSize", "I", false)
  | 39 => ("MacroScopesModel", "kept", "[B", true)
  | 40 => ("MacroScopesModel", "keptSize", "I", false)
  | 41 => ("MacroScopesModel", "keptUses", "I", false)
  | 42 => ("MacroScopesModel", "keptVariables", "I", false)
  | 43 => ("MacroScopesModel", "keptTops", "I", false)
  | 44 => ("MacroScopesModel", "waiting", "[I", true)
  | 45 => ("MacroScopesModel", "waits", "I", false)
  | 46 => ("MacroScopesModel", "opened", "[I", true)
  | 47 => ("MacroScopesModel", "variableNames", "[I", true)
  | 48 => ("MacroScopesModel", "repeated", "[Z", true)
  | 49 => ("MacroScopesModel", "variableCount", "I", false)
  | 50 => ("MacroScopesModel", "look", "[I", true)
  | 51 => ("MacroScopesModel", "lookHow", "[I", true)
  | 52 => ("MacroScopesModel", "lookOther", "[I", true)
  | 53 => ("MacroScopesModel", "looks", "I", false)
  | 54 => ("MacroScopesModel", "inner", "[I", true)
  | 55 => ("MacroScopesModel", "matchFrom", "[I", true)
  | 56 => ("MacroScopesModel", "matchCount", "[I", true)
  | 57 => ("MacroScopesModel", "matched", "[I", true)
  | 58 => ("MacroScopesModel", "copyKinds", "[B", true)
  | 59 => ("MacroScopesModel", "copyValues", "[I", true)
  | 60 => ("MacroScopesModel", "copyCounts", "[I", true)
  | 61 => ("MacroScopesModel", "copyParts", "[I", true)
  | 62 => ("MacroScopesModel", "copies", "I", false)
  | _ => ("MacroScopesModel", "copiedParts", "I", false)
def tyX12 : Nat → FieldType := fun k => match k with
  | 0 => .int
  | 1 => .array .byte
  | 2 => .int
  | 3 => .int
  | 4 => .array .byte
  | 5 => .array .int
  | 6 => .int
  | 7 => .array .int
  | 8 => .array .int
  | 9 => .int
  | 10 => .array .byte
  | 11 => .array .int
  | 12 => .array .int
  | 13 => .array .int
  | 14 => .int
  | 15 => .int
  | 16 => .int
  | 17 => .int
  | 18 => .array .int
  | 19 => .array .int
  | 20 => .int
  | 21 => .array .int
  | 22 => .array .int
  | 23 => .int
  | 24 => .array .int
  | 25 => .array .int
  | 26 => .array .int
  | 27 => .int
  | 28 => .array .byte
  | 29 => .array .int
  | 30 => .array .int
  | 31 => .array .int
  | 32 => .int
  | 33 => .int
  | 34 => .int
  | 35 => .int
  | 36 => .int
  | 37 => .array .byte
  | 38 => .int
  | 39 => .array .byte
  | 40 => .int
  | 41 => .int
  | 42 => .int
  | 43 => .int
  | 44 => .array .int
  | 45 => .int
  | 46 => .array .int
  | 47 => .array .int
  | 48 => .array .boolean
  | 49 => .int
  | 50 => .array .int
  | 51 => .array .int
  | 52 => .array .int
  | 53 => .int
  | 54 => .array .int
  | 55 => .array .int
  | 56 => .array .int
  | 57 => .array .int
  | 58 => .array .byte
  | 59 => .array .int
  | 60 => .array .int
  | 61 => .array .int
  | 62 => .int
  | _ => .int
abbrev wsX120 : List Cond := u_ws RX12 TX12 64
theorem nmX12 : ∀ a, a < 64 → ∀ b, b < 64 → a ≠ b → (TX12 a).2.1 ≠ (TX12 b).2.1 := by decide +kernel
theorem tyX12_ok : ∀ k, k < 64 → parseFieldDescriptor (TX12 k).2.2.1 = some (tyX12 k) := by decide +kernel
abbrev cX12_init : ByteArray := prog_14_method_1_code
def yX12_init : MethodName := ⟨RX12, "<init>", "()V"⟩
abbrev cX12_word : ByteArray := prog_14_method_2_code
def yX12_word : MethodName := ⟨RX12, "word", "(JI)V"⟩
abbrev cX12_more : ByteArray := prog_14_method_3_code
def yX12_more : MethodName := ⟨RX12, "more", "(JI)V"⟩
abbrev cX12_type : ByteArray := prog_14_method_5_code
def yX12_type : MethodName := ⟨RX12, "type", "(JI)I"⟩
abbrev cX12_rootOf : ByteArray := prog_14_method_6_code
def yX12_rootOf : MethodName := ⟨RX12, "rootOf", "(I)I"⟩
abbrev cX12_meaning : ByteArray := prog_14_method_7_code
def yX12_meaning : MethodName := ⟨RX12, "meaning", "(II)I"⟩
abbrev cX12_isName : ByteArray := prog_14_method_8_code
def yX12_isName : MethodName := ⟨RX12, "isName", "(I)Z"⟩
abbrev cX12_isList : ByteArray := prog_14_method_9_code
def yX12_isList : MethodName := ⟨RX12, "isList", "(II)Z"⟩
abbrev cX12_part : ByteArray := prog_14_method_10_code
def yX12_part : MethodName := ⟨RX12, "part", "(II)I"⟩
abbrev cX12_isFrom : ByteArray := prog_14_method_11_code
def yX12_isFrom : MethodName := ⟨RX12, "isFrom", "(II)Z"⟩
abbrev cX12_isBindable : ByteArray := prog_14_method_12_code
def yX12_isBindable : MethodName := ⟨RX12, "isBindable", "(I)Z"⟩
abbrev cX12_isEllipsis : ByteArray := prog_14_method_13_code
def yX12_isEllipsis : MethodName := ⟨RX12, "isEllipsis", "(II)Z"⟩
abbrev cX12_newForm : ByteArray := prog_14_method_14_code
def yX12_newForm : MethodName := ⟨RX12, "newForm", "(III)I"⟩
abbrev cX12_isSymbol : ByteArray := prog_14_method_15_code
def yX12_isSymbol : MethodName := ⟨RX12, "isSymbol", "(III)Z"⟩
abbrev cX12_symbolAt : ByteArray := prog_14_method_16_code
def yX12_symbolAt : MethodName := ⟨RX12, "symbolAt", "(II)I"⟩
abbrev cX12_token : ByteArray := prog_14_method_17_code
def yX12_token : MethodName := ⟨RX12, "token", "(II)Z"⟩
abbrev cX12_parse : ByteArray := prog_14_method_18_code
def yX12_parse : MethodName := ⟨RX12, "parse", "()Z"⟩
abbrev cX12_endList : ByteArray := prog_14_method_19_code
def yX12_endList : MethodName := ⟨RX12, "endList", "(I)V"⟩
abbrev cX12_say : ByteArray := prog_14_method_20_code
def yX12_say : MethodName := ⟨RX12, "say", "(I)V"⟩
abbrev cX12_sayNumber : ByteArray := prog_14_method_21_code
def yX12_sayNumber : MethodName := ⟨RX12, "sayNumber", "(I)V"⟩
abbrev cX12_saySymbol : ByteArray := prog_14_method_22_code
def yX12_saySymbol : MethodName := ⟨RX12, "saySymbol", "(I)V"⟩
abbrev cX12_task : ByteArray := prog_14_method_23_code
def yX12_task : MethodName := ⟨RX12, "task", "(IIII)V"⟩
abbrev cX12_taskParts : ByteArray := prog_14_method_24_code
def yX12_taskParts : MethodName := ⟨RX12, "taskParts", "(IIIII)V"⟩
abbrev cX12_fail : ByteArray := prog_14_method_25_code
def yX12_fail : MethodName := ⟨RX12, "fail", "(I)V"⟩
abbrev cX12_need : ByteArray := prog_14_method_26_code
def yX12_need : MethodName := ⟨RX12, "need", "(ZI)Z"⟩
abbrev cX12_sayPlain : ByteArray := prog_14_method_27_code
def yX12_sayPlain : MethodName := ⟨RX12, "sayPlain", "(I)V"⟩
abbrev cX12_sayName : ByteArray := prog_14_method_28_code
def yX12_sayName : MethodName := ⟨RX12, "sayName", "(II)V"⟩
abbrev cX12_expand : ByteArray := prog_14_method_29_code
def yX12_expand : MethodName := ⟨RX12, "expand", "(III)V"⟩
abbrev cX12_expandList : ByteArray := prog_14_method_30_code
def yX12_expandList : MethodName := ⟨RX12, "expandList", "(III)V"⟩
abbrev cX12_environmentOf : ByteArray := prog_14_method_31_code
def yX12_environmentOf : MethodName := ⟨RX12, "environmentOf", "(I)I"⟩
abbrev cX12_expandWord : ByteArray := prog_14_method_32_code
def yX12_expandWord : MethodName := ⟨RX12, "expandWord", "(IIII)V"⟩
abbrev cX12_bind : ByteArray := prog_14_method_33_code
def yX12_bind : MethodName := ⟨RX12, "bind", "(III)V"⟩
abbrev cX12_newEnvironment : ByteArray := prog_14_method_34_code
def yX12_newEnvironment : MethodName := ⟨RX12, "newEnvironment", "(I)I"⟩
abbrev cX12_lambda : ByteArray := prog_14_method_35_code
def yX12_lambda : MethodName := ⟨RX12, "lambda", "(III)V"⟩
abbrev cX12_letSyntax : ByteArray := prog_14_method_36_code
def yX12_letSyntax : MethodName := ⟨RX12, "letSyntax", "(III)V"⟩
abbrev cX12_lookAt : ByteArray := prog_14_method_37_code
def yX12_lookAt : MethodName := ⟨RX12, "lookAt", "(III)V"⟩
abbrev cX12_isLiteral : ByteArray := prog_14_method_38_code
def yX12_isLiteral : MethodName := ⟨RX12, "isLiteral", "(II)Z"⟩
abbrev cX12_variable : ByteArray := prog_14_method_39_code
def yX12_variable : MethodName := ⟨RX12, "variable", "(I)I"⟩
abbrev cX12_areRules : ByteArray := prog_14_method_40_code
def yX12_areRules : MethodName := ⟨RX12, "areRules", "(II)Z"⟩
abbrev cX12_isPattern : ByteArray := prog_14_method_41_code
def yX12_isPattern : MethodName := ⟨RX12, "isPattern", "(II)Z"⟩
abbrev cX12_isRepeated : ByteArray := prog_14_method_42_code
def yX12_isRepeated : MethodName := ⟨RX12, "isRepeated", "(I)Z"⟩
abbrev cX12_hasRepeated : ByteArray := prog_14_method_43_code
def yX12_hasRepeated : MethodName := ⟨RX12, "hasRepeated", "(I)Z"⟩
abbrev cX12_isTemplate : ByteArray := prog_14_method_44_code
def yX12_isTemplate : MethodName := ⟨RX12, "isTemplate", "(I)Z"⟩
abbrev cX12_matches : ByteArray := prog_14_method_45_code
def yX12_matches : MethodName := ⟨RX12, "matches", "(IIIII)Z"⟩
abbrev cX12_lookAtParts : ByteArray := prog_14_method_46_code
def yX12_lookAtParts : MethodName := ⟨RX12, "lookAtParts", "(III)Z"⟩
abbrev cX12_setCounts : ByteArray := prog_14_method_47_code
def yX12_setCounts : MethodName := ⟨RX12, "setCounts", "(II)V"⟩
abbrev cX12_keepMatches : ByteArray := prog_14_method_48_code
def yX12_keepMatches : MethodName := ⟨RX12, "keepMatches", "(II)V"⟩
abbrev cX12_keepParts : ByteArray := prog_14_method_49_code
def yX12_keepParts : MethodName := ⟨RX12, "keepParts", "(IIII)V"⟩
abbrev cX12_use : ByteArray := prog_14_method_50_code
def yX12_use : MethodName := ⟨RX12, "use", "(IIIII)V"⟩
abbrev cX12_turnsOf : ByteArray := prog_14_method_51_code
def yX12_turnsOf : MethodName := ⟨RX12, "turnsOf", "(I)I"⟩
abbrev cX12_areCountsAlike : ByteArray := prog_14_method_52_code
def yX12_areCountsAlike : MethodName := ⟨RX12, "areCountsAlike", "(I)Z"⟩
abbrev cX12_sizeOf : ByteArray := prog_14_method_53_code
def yX12_sizeOf : MethodName := ⟨RX12, "sizeOf", "(I)I"⟩
abbrev cX12_nested : ByteArray := prog_14_method_54_code
def yX12_nested : MethodName := ⟨RX12, "nested", "(I)I"⟩
abbrev cX12_sizeMade : ByteArray := prog_14_method_55_code
def yX12_sizeMade : MethodName := ⟨RX12, "sizeMade", "(I)I"⟩
abbrev cX12_alias : ByteArray := prog_14_method_56_code
def yX12_alias : MethodName := ⟨RX12, "alias", "(III)I"⟩
abbrev cX12_begin : ByteArray := prog_14_method_57_code
def yX12_begin : MethodName := ⟨RX12, "begin", "(IIII)I"⟩
abbrev cX12_make : ByteArray := prog_14_method_58_code
def yX12_make : MethodName := ⟨RX12, "make", "(II)I"⟩
abbrev cX12_isDefinition : ByteArray := prog_14_method_59_code
def yX12_isDefinition : MethodName := ⟨RX12, "isDefinition", "(II)Z"⟩
abbrev cX12_doAll : ByteArray := prog_14_method_60_code
def yX12_doAll : MethodName := ⟨RX12, "doAll", "()V"⟩
abbrev cX12_defineSyntax : ByteArray := prog_14_method_61_code
def yX12_defineSyntax : MethodName := ⟨RX12, "defineSyntax", "(II)V"⟩
abbrev cX12_top : ByteArray := prog_14_method_62_code
def yX12_top : MethodName := ⟨RX12, "top", "(I)V"⟩
abbrev cX12_beginText : ByteArray := prog_14_method_63_code
def yX12_beginText : MethodName := ⟨RX12, "beginText", "()V"⟩
abbrev cX12_read : ByteArray := prog_14_method_64_code
def yX12_read : MethodName := ⟨RX12, "read", "()I"⟩
abbrev cX12_copyOne : ByteArray := prog_14_method_65_code
def yX12_copyOne : MethodName := ⟨RX12, "copyOne", "(I)I"⟩
abbrev cX12_stay : ByteArray := prog_14_method_66_code
def yX12_stay : MethodName := ⟨RX12, "stay", "()V"⟩
abbrev cX12_place : ByteArray := prog_14_method_67_code
def yX12_place : MethodName := ⟨RX12, "place", "()I"⟩
abbrev cX12_count : ByteArray := prog_14_method_68_code
def yX12_count : MethodName := ⟨RX12, "count", "(I)I"⟩
abbrev cX12_character : ByteArray := prog_14_method_69_code
def yX12_character : MethodName := ⟨RX12, "character", "(I)I"⟩
abbrev cX12_means : ByteArray := prog_14_method_70_code
def yX12_means : MethodName := ⟨RX12, "means", "()I"⟩
abbrev cX12_check : ByteArray := prog_14_method_71_code
def yX12_check : MethodName := ⟨RX12, "check", "()I"⟩
def RJx8e188 : String := "java/lang/Cloneable"
def TJx8e188 : u_T := fun k => match k with
  | _ => ("", "", "", false)
def tyJx8e188 : Nat → FieldType := fun k => match k with
  | _ => .int
abbrev wsJx8e1880 : List Cond := u_ws RJx8e188 TJx8e188 0
theorem nmJx8e188 : ∀ a, a < 0 → ∀ b, b < 0 → a ≠ b → (TJx8e188 a).2.1 ≠ (TJx8e188 b).2.1 := by decide +kernel
theorem tyJx8e188_ok : ∀ k, k < 0 → parseFieldDescriptor (TJx8e188 k).2.2.1 = some (tyJx8e188 k) := by decide +kernel
def RJ9 : String := "java/lang/Math"
def TJ9 : u_T := fun k => match k with
  | _ => ("", "", "", false)
def tyJ9 : Nat → FieldType := fun k => match k with
  | _ => .int
abbrev wsJ90 : List Cond := u_ws RJ9 TJ9 0
theorem nmJ9 : ∀ a, a < 0 → ∀ b, b < 0 → a ≠ b → (TJ9 a).2.1 ≠ (TJ9 b).2.1 := by decide +kernel
theorem tyJ9_ok : ∀ k, k < 0 → parseFieldDescriptor (TJ9 k).2.2.1 = some (tyJ9 k) := by decide +kernel
abbrev cJ9_max_7cf53 : ByteArray := prog_16_method_65_code
def yJ9_max_7cf53 : MethodName := ⟨RJ9, "max", "(II)I"⟩
abbrev cJ9_min_7cf53 : ByteArray := prog_16_method_69_code
def yJ9_min_7cf53 : MethodName := ⟨RJ9, "min", "(II)I"⟩
def RJ0 : String := "java/lang/String"
def TJ0 : u_T := fun k => match k with
  | _ => ("", "", "", false)
def tyJ0 : Nat → FieldType := fun k => match k with
  | _ => .int
abbrev wsJ00 : List Cond := u_ws RJ0 TJ0 0
theorem nmJ0 : ∀ a, a < 0 → ∀ b, b < 0 → a ≠ b → (TJ0 a).2.1 ≠ (TJ0 b).2.1 := by decide +kernel
theorem tyJ0_ok : ∀ k, k < 0 → parseFieldDescriptor (TJ0 k).2.2.1 = some (tyJ0 k) := by decide +kernel
abbrev cJ0_toCharArray_70df3 : ByteArray := prog_17_method_129_code
def yJ0_toCharArray_70df3 : MethodName := ⟨RJ0, "toCharArray", "()[C"⟩
abbrev cJ0_isLatin1_aae02 : ByteArray := prog_17_method_154_code
def yJ0_isLatin1_aae02 : MethodName := ⟨RJ0, "isLatin1", "()Z"⟩
abbrev cJ0_checkBoundsOffCount_cabcc : ByteArray := prog_17_method_157_code
def yJ0_checkBoundsOffCount_cabcc : MethodName := ⟨RJ0, "checkBoundsOffCount", "(III)I"⟩
def RJ1 : String := "java/lang/StringLatin1"
def TJ1 : u_T := fun k => match k with
  | _ => ("", "", "", false)
def tyJ1 : Nat → FieldType := fun k => match k with
  | _ => .int
abbrev wsJ10 : List Cond := u_ws RJ1 TJ1 0
theorem nmJ1 : ∀ a, a < 0 → ∀ b, b < 0 → a ≠ b → (TJ1 a).2.1 ≠ (TJ1 b).2.1 := by decide +kernel
theorem tyJ1_ok : ∀ k, k < 0 → parseFieldDescriptor (TJ1 k).2.2.1 = some (tyJ1 k) := by decide +kernel
abbrev cJ1_toChars_9d188 : ByteArray := prog_18_method_9_code
def yJ1_toChars_9d188 : MethodName := ⟨RJ1, "toChars", "([B)[C"⟩
abbrev cJ1_inflate_03870 : ByteArray := prog_18_method_49_code
def yJ1_inflate_03870 : MethodName := ⟨RJ1, "inflate", "([BI[CII)V"⟩
def RJ2 : String := "java/lang/StringUTF16"
def TJ2 : u_T := fun k => match k with
  | _ => ("", "", "", false)
def tyJ2 : Nat → FieldType := fun k => match k with
  | _ => .int
abbrev wsJ20 : List Cond := u_ws RJ2 TJ2 0
theorem nmJ2 : ∀ a, a < 0 → ∀ b, b < 0 → a ≠ b → (TJ2 a).2.1 ≠ (TJ2 b).2.1 := by decide +kernel
theorem tyJ2_ok : ∀ k, k < 0 → parseFieldDescriptor (TJ2 k).2.2.1 = some (tyJ2 k) := by decide +kernel
abbrev cJ2_getChar_3b067 : ByteArray := prog_19_method_5_code
def yJ2_getChar_3b067 : MethodName := ⟨RJ2, "getChar", "([BI)C"⟩
abbrev cJ2_length_9d52b : ByteArray := prog_19_method_6_code
def yJ2_length_9d52b : MethodName := ⟨RJ2, "length", "([B)I"⟩
abbrev cJ2_toChars_9d188 : ByteArray := prog_19_method_13_code
def yJ2_toChars_9d188 : MethodName := ⟨RJ2, "toChars", "([B)[C"⟩
abbrev cJ2_getChars_a1a8b : ByteArray := prog_19_method_26_code
def yJ2_getChars_a1a8b : MethodName := ⟨RJ2, "getChars", "([BII[CI)V"⟩
abbrev cJ2_checkBoundsOffCount_d044e : ByteArray := prog_19_method_94_code
def yJ2_checkBoundsOffCount_d044e : MethodName := ⟨RJ2, "checkBoundsOffCount", "(II[B)V"⟩
def RJ10 : String := "java/lang/System"
def TJ10 : u_T := fun k => match k with
  | _ => ("", "", "", false)
def tyJ10 : Nat → FieldType := fun k => match k with
  | _ => .int
abbrev wsJ100 : List Cond := u_ws RJ10 TJ10 0
theorem nmJ10 : ∀ a, a < 0 → ∀ b, b < 0 → a ≠ b → (TJ10 a).2.1 ≠ (TJ10 b).2.1 := by decide +kernel
theorem tyJ10_ok : ∀ k, k < 0 → parseFieldDescriptor (TJ10 k).2.2.1 = some (tyJ10 k) := by decide +kernel
def RJ7 : String := "java/util/Arrays"
def TJ7 : u_T := fun k => match k with
  | _ => ("", "", "", false)
def tyJ7 : Nat → FieldType := fun k => match k with
  | _ => .int
abbrev wsJ70 : List Cond := u_ws RJ7 TJ7 0
theorem nmJ7 : ∀ a, a < 0 → ∀ b, b < 0 → a ≠ b → (TJ7 a).2.1 ≠ (TJ7 b).2.1 := by decide +kernel
theorem tyJ7_ok : ∀ k, k < 0 → parseFieldDescriptor (TJ7 k).2.2.1 = some (tyJ7 k) := by decide +kernel
abbrev cJ7_copyOf_59c91 : ByteArray := prog_21_method_123_code
def yJ7_copyOf_59c91 : MethodName := ⟨RJ7, "copyOf", "([II)[I"⟩
def RJ3 : String := "jdk/internal/util/Preconditions"
def TJ3 : u_T := fun k => match k with
  | _ => ("", "", "", false)
def tyJ3 : Nat → FieldType := fun k => match k with
  | _ => .int
abbrev wsJ30 : List Cond := u_ws RJ3 TJ3 0
theorem nmJ3 : ∀ a, a < 0 → ∀ b, b < 0 → a ≠ b → (TJ3 a).2.1 ≠ (TJ3 b).2.1 := by decide +kernel
theorem tyJ3_ok : ∀ k, k < 0 → parseFieldDescriptor (TJ3 k).2.2.1 = some (tyJ3 k) := by decide +kernel
abbrev cJ3_checkFromIndexSize_8c36e : ByteArray := prog_22_method_13_code
def yJ3_checkFromIndexSize_8c36e : MethodName := ⟨RJ3, "checkFromIndexSize", "(IIILjava/util/function/BiFunction;)I"⟩
def RL : String := "MacroScopesLaw"
abbrev cL_law : ByteArray := code
def yL_law : MethodName := ⟨RL, "law", "([I)Z"⟩
abbrev vwCl : List vw_C := [(RX0, TX0, 15), (RX1, TX1, 4), (RX2, TX2, 7), (RX3, TX3, 6), (RX4, TX4, 6), (RX5, TX5, 6), (RX6, TX6, 13), (RX7, TX7, 4), (RX8, TX8, 4), (RX9, TX9, 6), (RX10, TX10, 5), (RX11, TX11, 11), (RX12, TX12, 64)]
