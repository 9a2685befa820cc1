section
-- ===== PART A: goes FIRST, ahead of the names: the tables' words, and 'selects' of the private methods out of them =====
/-- a private method of a class that the tables say can be made, by its rows of tables_1 -/
def lw_okq (q : MethodName × Nat) : Prop := (q.1.cls ≠ "java/lang/invoke/MethodHandle" ∧ q.1.cls ≠ "java/lang/invoke/VarHandle") ∧ Cond.instantiable q.1.cls q.2 ∈ tables_1 ∧ Cond.privateMethod q.1 ∈ tables_1 ∧ Cond.instanceMethod q.1 ∈ tables_1
theorem lw_p0 : lw_okq (⟨"MacroScopes$Names", "addGiven", "(Ljava/lang/String;)V"⟩, 13) := ⟨⟨by decide +kernel, by decide +kernel⟩, List.mem_of_getElem? (i := 30) (by decide +kernel), List.mem_of_getElem? (i := 37) (by decide +kernel), List.mem_of_getElem? (i := 38) (by decide +kernel)⟩
theorem lw_p1 : lw_okq (⟨"MacroScopes$Reader", "addToken", "([CII)I"⟩, 4) := ⟨⟨by decide +kernel, by decide +kernel⟩, List.mem_of_getElem? (i := 201) (by decide +kernel), List.mem_of_getElem? (i := 507) (by decide +kernel), List.mem_of_getElem? (i := 508) (by decide +kernel)⟩
theorem lw_p2 : lw_okq (⟨"MacroScopes$Reader", "openList", "()I"⟩, 4) := ⟨⟨by decide +kernel, by decide +kernel⟩, List.mem_of_getElem? (i := 201) (by decide +kernel), List.mem_of_getElem? (i := 511) (by decide +kernel), List.mem_of_getElem? (i := 512) (by decide +kernel)⟩
theorem lw_p3 : lw_okq (⟨"MacroScopes$Reader", "closeList", "()I"⟩, 4) := ⟨⟨by decide +kernel, by decide +kernel⟩, List.mem_of_getElem? (i := 201) (by decide +kernel), List.mem_of_getElem? (i := 519) (by decide +kernel), List.mem_of_getElem? (i := 520) (by decide +kernel)⟩
theorem lw_p4 : lw_okq (⟨"MacroScopes$Reader", "addNumber", "([CII)I"⟩, 4) := ⟨⟨by decide +kernel, by decide +kernel⟩, List.mem_of_getElem? (i := 201) (by decide +kernel), List.mem_of_getElem? (i := 533) (by decide +kernel), List.mem_of_getElem? (i := 534) (by decide +kernel)⟩
theorem lw_p5 : lw_okq (⟨"MacroScopes$Reader", "addSymbol", "([CII)I"⟩, 4) := ⟨⟨by decide +kernel, by decide +kernel⟩, List.mem_of_getElem? (i := 201) (by decide +kernel), List.mem_of_getElem? (i := 553) (by decide +kernel), List.mem_of_getElem? (i := 554) (by decide +kernel)⟩
theorem lw_p6 : lw_okq (⟨"MacroScopes$Expander", "startText", "()V"⟩, 15) := ⟨⟨by decide +kernel, by decide +kernel⟩, List.mem_of_getElem? (i := 220) (by decide +kernel), List.mem_of_getElem? (i := 568) (by decide +kernel), List.mem_of_getElem? (i := 569) (by decide +kernel)⟩
theorem lw_p7 : lw_okq (⟨"MacroScopes$Expander", "nextInFrame", "()I"⟩, 15) := ⟨⟨by decide +kernel, by decide +kernel⟩, List.mem_of_getElem? (i := 220) (by decide +kernel), List.mem_of_getElem? (i := 573) (by decide +kernel), List.mem_of_getElem? (i := 574) (by decide +kernel)⟩
theorem lw_p8 : lw_okq (⟨"MacroScopes$Expander", "leaveFrame", "()V"⟩, 15) := ⟨⟨by decide +kernel, by decide +kernel⟩, List.mem_of_getElem? (i := 220) (by decide +kernel), List.mem_of_getElem? (i := 585) (by decide +kernel), List.mem_of_getElem? (i := 586) (by decide +kernel)⟩
theorem lw_p9 : lw_okq (⟨"MacroScopes$Told", "add", "(C)V"⟩, 5) := ⟨⟨by decide +kernel, by decide +kernel⟩, List.mem_of_getElem? (i := 177) (by decide +kernel), List.mem_of_getElem? (i := 593) (by decide +kernel), List.mem_of_getElem? (i := 594) (by decide +kernel)⟩
theorem lw_p10 : lw_okq (⟨"MacroScopes$Expander", "nextTopForm", "()I"⟩, 15) := ⟨⟨by decide +kernel, by decide +kernel⟩, List.mem_of_getElem? (i := 220) (by decide +kernel), List.mem_of_getElem? (i := 609) (by decide +kernel), List.mem_of_getElem? (i := 610) (by decide +kernel)⟩
theorem lw_p11 : lw_okq (⟨"MacroScopes$Expander", "remember", "()V"⟩, 15) := ⟨⟨by decide +kernel, by decide +kernel⟩, List.mem_of_getElem? (i := 220) (by decide +kernel), List.mem_of_getElem? (i := 614) (by decide +kernel), List.mem_of_getElem? (i := 615) (by decide +kernel)⟩
theorem lw_p12 : lw_okq (⟨"MacroScopes$Expander", "define", "(I)V"⟩, 15) := ⟨⟨by decide +kernel, by decide +kernel⟩, List.mem_of_getElem? (i := 220) (by decide +kernel), List.mem_of_getElem? (i := 638) (by decide +kernel), List.mem_of_getElem? (i := 639) (by decide +kernel)⟩
theorem lw_p13 : lw_okq (⟨"MacroScopes$Expander", "definesSymbol", "(I)Z"⟩, 15) := ⟨⟨by decide +kernel, by decide +kernel⟩, List.mem_of_getElem? (i := 220) (by decide +kernel), List.mem_of_getElem? (i := 642) (by decide +kernel), List.mem_of_getElem? (i := 643) (by decide +kernel)⟩
theorem lw_p14 : lw_okq (⟨"MacroScopes$Told", "addBlank", "()V"⟩, 5) := ⟨⟨by decide +kernel, by decide +kernel⟩, List.mem_of_getElem? (i := 177) (by decide +kernel), List.mem_of_getElem? (i := 660) (by decide +kernel), List.mem_of_getElem? (i := 661) (by decide +kernel)⟩
theorem lw_p15 : lw_okq (⟨"MacroScopes$Told", "addHalf", "(J)V"⟩, 5) := ⟨⟨by decide +kernel, by decide +kernel⟩, List.mem_of_getElem? (i := 177) (by decide +kernel), List.mem_of_getElem? (i := 668) (by decide +kernel), List.mem_of_getElem? (i := 669) (by decide +kernel)⟩
def lw_privs_1 : List (MethodName × Nat) := [(⟨"MacroScopes$Names", "addGiven", "(Ljava/lang/String;)V"⟩, 13), (⟨"MacroScopes$Reader", "addToken", "([CII)I"⟩, 4), (⟨"MacroScopes$Reader", "openList", "()I"⟩, 4), (⟨"MacroScopes$Reader", "closeList", "()I"⟩, 4), (⟨"MacroScopes$Reader", "addNumber", "([CII)I"⟩, 4), (⟨"MacroScopes$Reader", "addSymbol", "([CII)I"⟩, 4), (⟨"MacroScopes$Expander", "startText", "()V"⟩, 15), (⟨"MacroScopes$Expander", "nextInFrame", "()I"⟩, 15), (⟨"MacroScopes$Expander", "leaveFrame", "()V"⟩, 15), (⟨"MacroScopes$Told", "add", "(C)V"⟩, 5), (⟨"MacroScopes$Expander", "nextTopForm", "()I"⟩, 15), (⟨"MacroScopes$Expander", "remember", "()V"⟩, 15), (⟨"MacroScopes$Expander", "define", "(I)V"⟩, 15), (⟨"MacroScopes$Expander", "definesSymbol", "(I)Z"⟩, 15), (⟨"MacroScopes$Told", "addBlank", "()V"⟩, 5), (⟨"MacroScopes$Told", "addHalf", "(J)V"⟩, 5)]
theorem lw_r1 : ∀ q ∈ lw_privs_1, lw_okq q := List.forall_mem_cons.mpr ⟨lw_p0, List.forall_mem_cons.mpr ⟨lw_p1, List.forall_mem_cons.mpr ⟨lw_p2, List.forall_mem_cons.mpr ⟨lw_p3, List.forall_mem_cons.mpr ⟨lw_p4, List.forall_mem_cons.mpr ⟨lw_p5, List.forall_mem_cons.mpr ⟨lw_p6, List.forall_mem_cons.mpr ⟨lw_p7, List.forall_mem_cons.mpr ⟨lw_p8, List.forall_mem_cons.mpr ⟨lw_p9, List.forall_mem_cons.mpr ⟨lw_p10, List.forall_mem_cons.mpr ⟨lw_p11, List.forall_mem_cons.mpr ⟨lw_p12, List.forall_mem_cons.mpr ⟨lw_p13, List.forall_mem_cons.mpr ⟨lw_p14, List.forall_mem_cons.mpr ⟨lw_p15, fun _ h => absurd h List.not_mem_nil⟩⟩⟩⟩⟩⟩⟩⟩⟩⟩⟩⟩⟩⟩⟩⟩
theorem lw_p16 : lw_okq (⟨"MacroScopes$Expander", "defineSyntax", "(I)V"⟩, 15) := ⟨⟨by decide +kernel, by decide +kernel⟩, List.mem_of_getElem? (i := 220) (by decide +kernel), List.mem_of_getElem? (i := 677) (by decide +kernel), List.mem_of_getElem? (i := 678) (by decide +kernel)⟩
theorem lw_p17 : lw_okq (⟨"MacroScopes$RuleCheck", "literalsFit", "()Z"⟩, 4) := ⟨⟨by decide +kernel, by decide +kernel⟩, List.mem_of_getElem? (i := 314) (by decide +kernel), List.mem_of_getElem? (i := 699) (by decide +kernel), List.mem_of_getElem? (i := 700) (by decide +kernel)⟩
theorem lw_p18 : lw_okq (⟨"MacroScopes$RuleCheck", "ruleFits", "(I)Z"⟩, 4) := ⟨⟨by decide +kernel, by decide +kernel⟩, List.mem_of_getElem? (i := 314) (by decide +kernel), List.mem_of_getElem? (i := 709) (by decide +kernel), List.mem_of_getElem? (i := 710) (by decide +kernel)⟩
theorem lw_p19 : lw_okq (⟨"MacroScopes$RuleCheck", "patternsFit", "(III)Z"⟩, 4) := ⟨⟨by decide +kernel, by decide +kernel⟩, List.mem_of_getElem? (i := 314) (by decide +kernel), List.mem_of_getElem? (i := 717) (by decide +kernel), List.mem_of_getElem? (i := 718) (by decide +kernel)⟩
theorem lw_p20 : lw_okq (⟨"MacroScopes$RuleCheck", "patternFits", "(IZI)Z"⟩, 4) := ⟨⟨by decide +kernel, by decide +kernel⟩, List.mem_of_getElem? (i := 314) (by decide +kernel), List.mem_of_getElem? (i := 725) (by decide +kernel), List.mem_of_getElem? (i := 726) (by decide +kernel)⟩
theorem lw_p21 : lw_okq (⟨"MacroScopes$RuleCheck", "templateFits", "(II)Z"⟩, 4) := ⟨⟨by decide +kernel, by decide +kernel⟩, List.mem_of_getElem? (i := 314) (by decide +kernel), List.mem_of_getElem? (i := 745) (by decide +kernel), List.mem_of_getElem? (i := 746) (by decide +kernel)⟩
theorem lw_p22 : lw_okq (⟨"MacroScopes$RuleCheck", "holdsRepeated", "(I)Z"⟩, 4) := ⟨⟨by decide +kernel, by decide +kernel⟩, List.mem_of_getElem? (i := 314) (by decide +kernel), List.mem_of_getElem? (i := 749) (by decide +kernel), List.mem_of_getElem? (i := 750) (by decide +kernel)⟩
theorem lw_p23 : lw_okq (⟨"MacroScopes$Expander", "headMeaning", "(I)I"⟩, 15) := ⟨⟨by decide +kernel, by decide +kernel⟩, List.mem_of_getElem? (i := 220) (by decide +kernel), List.mem_of_getElem? (i := 762) (by decide +kernel), List.mem_of_getElem? (i := 763) (by decide +kernel)⟩
theorem lw_p24 : lw_okq (⟨"MacroScopes$Expander", "expandAlone", "(I)V"⟩, 15) := ⟨⟨by decide +kernel, by decide +kernel⟩, List.mem_of_getElem? (i := 220) (by decide +kernel), List.mem_of_getElem? (i := 768) (by decide +kernel), List.mem_of_getElem? (i := 769) (by decide +kernel)⟩
theorem lw_p25 : lw_okq (⟨"MacroScopes$Told", "addDigits", "(I)V"⟩, 5) := ⟨⟨by decide +kernel, by decide +kernel⟩, List.mem_of_getElem? (i := 177) (by decide +kernel), List.mem_of_getElem? (i := 784) (by decide +kernel), List.mem_of_getElem? (i := 785) (by decide +kernel)⟩
theorem lw_p26 : lw_okq (⟨"MacroScopes$Expander", "canExpand", "(I)Z"⟩, 15) := ⟨⟨by decide +kernel, by decide +kernel⟩, List.mem_of_getElem? (i := 220) (by decide +kernel), List.mem_of_getElem? (i := 806) (by decide +kernel), List.mem_of_getElem? (i := 807) (by decide +kernel)⟩
theorem lw_p27 : lw_okq (⟨"MacroScopes$Expander", "expandUse", "(II)V"⟩, 15) := ⟨⟨by decide +kernel, by decide +kernel⟩, List.mem_of_getElem? (i := 220) (by decide +kernel), List.mem_of_getElem? (i := 811) (by decide +kernel), List.mem_of_getElem? (i := 812) (by decide +kernel)⟩
theorem lw_p28 : lw_okq (⟨"MacroScopes$Matcher", "rowMatches", "(IIIIZ)Z"⟩, 6) := ⟨⟨by decide +kernel, by decide +kernel⟩, List.mem_of_getElem? (i := 333) (by decide +kernel), List.mem_of_getElem? (i := 834) (by decide +kernel), List.mem_of_getElem? (i := 835) (by decide +kernel)⟩
theorem lw_p29 : lw_okq (⟨"MacroScopes$Matcher", "restMatches", "(III)Z"⟩, 6) := ⟨⟨by decide +kernel, by decide +kernel⟩, List.mem_of_getElem? (i := 333) (by decide +kernel), List.mem_of_getElem? (i := 839) (by decide +kernel), List.mem_of_getElem? (i := 840) (by decide +kernel)⟩
theorem lw_p30 : lw_okq (⟨"MacroScopes$Matcher", "addVariables", "(I)V"⟩, 6) := ⟨⟨by decide +kernel, by decide +kernel⟩, List.mem_of_getElem? (i := 333) (by decide +kernel), List.mem_of_getElem? (i := 843) (by decide +kernel), List.mem_of_getElem? (i := 844) (by decide +kernel)⟩
theorem lw_p31 : lw_okq (⟨"MacroScopes$Matcher", "isVariable", "(I)Z"⟩, 6) := ⟨⟨by decide +kernel, by decide +kernel⟩, List.mem_of_getElem? (i := 333) (by decide +kernel), List.mem_of_getElem? (i := 848) (by decide +kernel), List.mem_of_getElem? (i := 849) (by decide +kernel)⟩
def lw_privs_2 : List (MethodName × Nat) := [(⟨"MacroScopes$Expander", "defineSyntax", "(I)V"⟩, 15), (⟨"MacroScopes$RuleCheck", "literalsFit", "()Z"⟩, 4), (⟨"MacroScopes$RuleCheck", "ruleFits", "(I)Z"⟩, 4), (⟨"MacroScopes$RuleCheck", "patternsFit", "(III)Z"⟩, 4), (⟨"MacroScopes$RuleCheck", "patternFits", "(IZI)Z"⟩, 4), (⟨"MacroScopes$RuleCheck", "templateFits", "(II)Z"⟩, 4), (⟨"MacroScopes$RuleCheck", "holdsRepeated", "(I)Z"⟩, 4), (⟨"MacroScopes$Expander", "headMeaning", "(I)I"⟩, 15), (⟨"MacroScopes$Expander", "expandAlone", "(I)V"⟩, 15), (⟨"MacroScopes$Told", "addDigits", "(I)V"⟩, 5), (⟨"MacroScopes$Expander", "canExpand", "(I)Z"⟩, 15), (⟨"MacroScopes$Expander", "expandUse", "(II)V"⟩, 15), (⟨"MacroScopes$Matcher", "rowMatches", "(IIIIZ)Z"⟩, 6), (⟨"MacroScopes$Matcher", "restMatches", "(III)Z"⟩, 6), (⟨"MacroScopes$Matcher", "addVariables", "(I)V"⟩, 6), (⟨"MacroScopes$Matcher", "isVariable", "(I)Z"⟩, 6)]
theorem lw_r2 : ∀ q ∈ lw_privs_2, lw_okq q := List.forall_mem_cons.mpr ⟨lw_p16, List.forall_mem_cons.mpr ⟨lw_p17, List.forall_mem_cons.mpr ⟨lw_p18, List.forall_mem_cons.mpr ⟨lw_p19, List.forall_mem_cons.mpr ⟨lw_p20, List.forall_mem_cons.mpr ⟨lw_p21, List.forall_mem_cons.mpr ⟨lw_p22, List.forall_mem_cons.mpr ⟨lw_p23, List.forall_mem_cons.mpr ⟨lw_p24, List.forall_mem_cons.mpr ⟨lw_p25, List.forall_mem_cons.mpr ⟨lw_p26, List.forall_mem_cons.mpr ⟨lw_p27, List.forall_mem_cons.mpr ⟨lw_p28, List.forall_mem_cons.mpr ⟨lw_p29, List.forall_mem_cons.mpr ⟨lw_p30, List.forall_mem_cons.mpr ⟨lw_p31, fun _ h => absurd h List.not_mem_nil⟩⟩⟩⟩⟩⟩⟩⟩⟩⟩⟩⟩⟩⟩⟩⟩
theorem lw_p32 : lw_okq (⟨"MacroScopes$Matcher", "formMatches", "(IIZ)Z"⟩, 6) := ⟨⟨by decide +kernel, by decide +kernel⟩, List.mem_of_getElem? (i := 333) (by decide +kernel), List.mem_of_getElem? (i := 859) (by decide +kernel), List.mem_of_getElem? (i := 860) (by decide +kernel)⟩
theorem lw_p33 : lw_okq (⟨"MacroScopes$Matcher", "isMeant", "(II)Z"⟩, 6) := ⟨⟨by decide +kernel, by decide +kernel⟩, List.mem_of_getElem? (i := 333) (by decide +kernel), List.mem_of_getElem? (i := 867) (by decide +kernel), List.mem_of_getElem? (i := 868) (by decide +kernel)⟩
theorem lw_p34 : lw_okq (⟨"MacroScopes$Maker", "isEven", "(I)Z"⟩, 6) := ⟨⟨by decide +kernel, by decide +kernel⟩, List.mem_of_getElem? (i := 358) (by decide +kernel), List.mem_of_getElem? (i := 883) (by decide +kernel), List.mem_of_getElem? (i := 884) (by decide +kernel)⟩
theorem lw_p35 : lw_okq (⟨"MacroScopes$Maker", "turnsOf", "(I)I"⟩, 6) := ⟨⟨by decide +kernel, by decide +kernel⟩, List.mem_of_getElem? (i := 358) (by decide +kernel), List.mem_of_getElem? (i := 889) (by decide +kernel), List.mem_of_getElem? (i := 890) (by decide +kernel)⟩
theorem lw_p36 : lw_okq (⟨"MacroScopes$Maker", "build", "(III)V"⟩, 6) := ⟨⟨by decide +kernel, by decide +kernel⟩, List.mem_of_getElem? (i := 358) (by decide +kernel), List.mem_of_getElem? (i := 923) (by decide +kernel), List.mem_of_getElem? (i := 924) (by decide +kernel)⟩
theorem lw_p37 : lw_okq (⟨"MacroScopes$Maker", "buildPart", "(III)V"⟩, 6) := ⟨⟨by decide +kernel, by decide +kernel⟩, List.mem_of_getElem? (i := 358) (by decide +kernel), List.mem_of_getElem? (i := 928) (by decide +kernel), List.mem_of_getElem? (i := 929) (by decide +kernel)⟩
theorem lw_p38 : lw_okq (⟨"MacroScopes$Maker", "add", "(I)I"⟩, 6) := ⟨⟨by decide +kernel, by decide +kernel⟩, List.mem_of_getElem? (i := 358) (by decide +kernel), List.mem_of_getElem? (i := 934) (by decide +kernel), List.mem_of_getElem? (i := 935) (by decide +kernel)⟩
theorem lw_p39 : lw_okq (⟨"MacroScopes$Maker", "copy", "(II)V"⟩, 6) := ⟨⟨by decide +kernel, by decide +kernel⟩, List.mem_of_getElem? (i := 358) (by decide +kernel), List.mem_of_getElem? (i := 943) (by decide +kernel), List.mem_of_getElem? (i := 944) (by decide +kernel)⟩
theorem lw_p40 : lw_okq (⟨"MacroScopes$Maker", "addList", "(I)I"⟩, 6) := ⟨⟨by decide +kernel, by decide +kernel⟩, List.mem_of_getElem? (i := 358) (by decide +kernel), List.mem_of_getElem? (i := 947) (by decide +kernel), List.mem_of_getElem? (i := 948) (by decide +kernel)⟩
theorem lw_p41 : lw_okq (⟨"MacroScopes$Maker", "aliasOf", "(I)I"⟩, 6) := ⟨⟨by decide +kernel, by decide +kernel⟩, List.mem_of_getElem? (i := 358) (by decide +kernel), List.mem_of_getElem? (i := 952) (by decide +kernel), List.mem_of_getElem? (i := 953) (by decide +kernel)⟩
theorem lw_p42 : lw_okq (⟨"MacroScopes$Maker", "buildTurns", "(II)V"⟩, 6) := ⟨⟨by decide +kernel, by decide +kernel⟩, List.mem_of_getElem? (i := 358) (by decide +kernel), List.mem_of_getElem? (i := 960) (by decide +kernel), List.mem_of_getElem? (i := 961) (by decide +kernel)⟩
theorem lw_p43 : lw_okq (⟨"MacroScopes$Expander", "expandWord", "(II)V"⟩, 15) := ⟨⟨by decide +kernel, by decide +kernel⟩, List.mem_of_getElem? (i := 220) (by decide +kernel), List.mem_of_getElem? (i := 964) (by decide +kernel), List.mem_of_getElem? (i := 965) (by decide +kernel)⟩
theorem lw_p44 : lw_okq (⟨"MacroScopes$Expander", "expandLambda", "(I)V"⟩, 15) := ⟨⟨by decide +kernel, by decide +kernel⟩, List.mem_of_getElem? (i := 220) (by decide +kernel), List.mem_of_getElem? (i := 968) (by decide +kernel), List.mem_of_getElem? (i := 969) (by decide +kernel)⟩
theorem lw_p45 : lw_okq (⟨"MacroScopes$Expander", "startLayer", "(I)Z"⟩, 15) := ⟨⟨by decide +kernel, by decide +kernel⟩, List.mem_of_getElem? (i := 220) (by decide +kernel), List.mem_of_getElem? (i := 972) (by decide +kernel), List.mem_of_getElem? (i := 973) (by decide +kernel)⟩
theorem lw_p46 : lw_okq (⟨"MacroScopes$Expander", "bindVariables", "(I)V"⟩, 15) := ⟨⟨by decide +kernel, by decide +kernel⟩, List.mem_of_getElem? (i := 220) (by decide +kernel), List.mem_of_getElem? (i := 976) (by decide +kernel), List.mem_of_getElem? (i := 977) (by decide +kernel)⟩
theorem lw_p47 : lw_okq (⟨"MacroScopes$Expander", "canBind", "(II)Z"⟩, 15) := ⟨⟨by decide +kernel, by decide +kernel⟩, List.mem_of_getElem? (i := 220) (by decide +kernel), List.mem_of_getElem? (i := 980) (by decide +kernel), List.mem_of_getElem? (i := 981) (by decide +kernel)⟩
def lw_privs_3 : List (MethodName × Nat) := [(⟨"MacroScopes$Matcher", "formMatches", "(IIZ)Z"⟩, 6), (⟨"MacroScopes$Matcher", "isMeant", "(II)Z"⟩, 6), (⟨"MacroScopes$Maker", "isEven", "(I)Z"⟩, 6), (⟨"MacroScopes$Maker", "turnsOf", "(I)I"⟩, 6), (⟨"MacroScopes$Maker", "build", "(III)V"⟩, 6), (⟨"MacroScopes$Maker", "buildPart", "(III)V"⟩, 6), (⟨"MacroScopes$Maker", "add", "(I)I"⟩, 6), (⟨"MacroScopes$Maker", "copy", "(II)V"⟩, 6), (⟨"MacroScopes$Maker", "addList", "(I)I"⟩, 6), (⟨"MacroScopes$Maker", "aliasOf", "(I)I"⟩, 6), (⟨"MacroScopes$Maker", "buildTurns", "(II)V"⟩, 6), (⟨"MacroScopes$Expander", "expandWord", "(II)V"⟩, 15), (⟨"MacroScopes$Expander", "expandLambda", "(I)V"⟩, 15), (⟨"MacroScopes$Expander", "startLayer", "(I)Z"⟩, 15), (⟨"MacroScopes$Expander", "bindVariables", "(I)V"⟩, 15), (⟨"MacroScopes$Expander", "canBind", "(II)Z"⟩, 15)]
theorem lw_r3 : ∀ q ∈ lw_privs_3, lw_okq q := List.forall_mem_cons.mpr ⟨lw_p32, List.forall_mem_cons.mpr ⟨lw_p33, List.forall_mem_cons.mpr ⟨lw_p34, List.forall_mem_cons.mpr ⟨lw_p35, List.forall_mem_cons.mpr ⟨lw_p36, List.forall_mem_cons.mpr ⟨lw_p37, List.forall_mem_cons.mpr ⟨lw_p38, List.forall_mem_cons.mpr ⟨lw_p39, List.forall_mem_cons.mpr ⟨lw_p40, List.forall_mem_cons.mpr ⟨lw_p41, List.forall_mem_cons.mpr ⟨lw_p42, List.forall_mem_cons.mpr ⟨lw_p43, List.forall_mem_cons.mpr ⟨lw_p44, List.forall_mem_cons.mpr ⟨lw_p45, List.forall_mem_cons.mpr ⟨lw_p46, List.forall_mem_cons.mpr ⟨lw_p47, fun _ h => absurd h List.not_mem_nil⟩⟩⟩⟩⟩⟩⟩⟩⟩⟩⟩⟩⟩⟩⟩⟩
theorem lw_p48 : lw_okq (⟨"MacroScopes$Scopes", "bind", "(III)V"⟩, 6) := ⟨⟨by decide +kernel, by decide +kernel⟩, List.mem_of_getElem? (i := 287) (by decide +kernel), List.mem_of_getElem? (i := 993) (by decide +kernel), List.mem_of_getElem? (i := 994) (by decide +kernel)⟩
theorem lw_p49 : lw_okq (⟨"MacroScopes$Expander", "expandLetSyntax", "(I)V"⟩, 15) := ⟨⟨by decide +kernel, by decide +kernel⟩, List.mem_of_getElem? (i := 220) (by decide +kernel), List.mem_of_getElem? (i := 997) (by decide +kernel), List.mem_of_getElem? (i := 998) (by decide +kernel)⟩
theorem lw_p50 : lw_okq (⟨"MacroScopes$Expander", "bindMacros", "(II)V"⟩, 15) := ⟨⟨by decide +kernel, by decide +kernel⟩, List.mem_of_getElem? (i := 220) (by decide +kernel), List.mem_of_getElem? (i := 1001) (by decide +kernel), List.mem_of_getElem? (i := 1002) (by decide +kernel)⟩
theorem lw_p51 : lw_okq (⟨"MacroScopes$Expander", "expandIf", "(I)V"⟩, 15) := ⟨⟨by decide +kernel, by decide +kernel⟩, List.mem_of_getElem? (i := 220) (by decide +kernel), List.mem_of_getElem? (i := 1009) (by decide +kernel), List.mem_of_getElem? (i := 1010) (by decide +kernel)⟩
theorem lw_p52 : lw_okq (⟨"MacroScopes$Expander", "expandQuote", "(I)V"⟩, 15) := ⟨⟨by decide +kernel, by decide +kernel⟩, List.mem_of_getElem? (i := 220) (by decide +kernel), List.mem_of_getElem? (i := 1013) (by decide +kernel), List.mem_of_getElem? (i := 1014) (by decide +kernel)⟩
theorem lw_p53 : lw_okq (⟨"MacroScopes$Expander", "tellRoots", "(I)V"⟩, 15) := ⟨⟨by decide +kernel, by decide +kernel⟩, List.mem_of_getElem? (i := 220) (by decide +kernel), List.mem_of_getElem? (i := 1017) (by decide +kernel), List.mem_of_getElem? (i := 1018) (by decide +kernel)⟩
theorem lw_p54 : lw_okq (⟨"MacroScopes$Expander", "expandPlain", "(I)V"⟩, 15) := ⟨⟨by decide +kernel, by decide +kernel⟩, List.mem_of_getElem? (i := 220) (by decide +kernel), List.mem_of_getElem? (i := 1021) (by decide +kernel), List.mem_of_getElem? (i := 1022) (by decide +kernel)⟩
theorem lw_p55 : lw_okq (⟨"MacroScopes", "takeText", "(Z)V"⟩, 11) := ⟨⟨by decide +kernel, by decide +kernel⟩, List.mem_of_getElem? (i := 22) (by decide +kernel), List.mem_of_getElem? (i := 1025) (by decide +kernel), List.mem_of_getElem? (i := 1026) (by decide +kernel)⟩
theorem lw_p56 : lw_okq (⟨"MacroScopesModel", "word", "(JI)V"⟩, 64) := ⟨⟨by decide +kernel, by decide +kernel⟩, List.mem_of_getElem? (i := 1078) (by decide +kernel), List.mem_of_getElem? (i := 1089) (by decide +kernel), List.mem_of_getElem? (i := 1090) (by decide +kernel)⟩
theorem lw_p57 : lw_okq (⟨"MacroScopesModel", "more", "(JI)V"⟩, 64) := ⟨⟨by decide +kernel, by decide +kernel⟩, List.mem_of_getElem? (i := 1078) (by decide +kernel), List.mem_of_getElem? (i := 1093) (by decide +kernel), List.mem_of_getElem? (i := 1094) (by decide +kernel)⟩
theorem lw_p58 : lw_okq (⟨"MacroScopesModel", "beginText", "()V"⟩, 64) := ⟨⟨by decide +kernel, by decide +kernel⟩, List.mem_of_getElem? (i := 1078) (by decide +kernel), List.mem_of_getElem? (i := 1312) (by decide +kernel), List.mem_of_getElem? (i := 1313) (by decide +kernel)⟩
theorem lw_p59 : lw_okq (⟨"MacroScopesModel", "parse", "()Z"⟩, 64) := ⟨⟨by decide +kernel, by decide +kernel⟩, List.mem_of_getElem? (i := 1078) (by decide +kernel), List.mem_of_getElem? (i := 1316) (by decide +kernel), List.mem_of_getElem? (i := 1317) (by decide +kernel)⟩
theorem lw_p60 : lw_okq (⟨"MacroScopesModel", "endList", "(I)V"⟩, 64) := ⟨⟨by decide +kernel, by decide +kernel⟩, List.mem_of_getElem? (i := 1078) (by decide +kernel), List.mem_of_getElem? (i := 1320) (by decide +kernel), List.mem_of_getElem? (i := 1321) (by decide +kernel)⟩
theorem lw_p61 : lw_okq (⟨"MacroScopesModel", "newForm", "(III)I"⟩, 64) := ⟨⟨by decide +kernel, by decide +kernel⟩, List.mem_of_getElem? (i := 1078) (by decide +kernel), List.mem_of_getElem? (i := 1324) (by decide +kernel), List.mem_of_getElem? (i := 1325) (by decide +kernel)⟩
theorem lw_p62 : lw_okq (⟨"MacroScopesModel", "token", "(II)Z"⟩, 64) := ⟨⟨by decide +kernel, by decide +kernel⟩, List.mem_of_getElem? (i := 1078) (by decide +kernel), List.mem_of_getElem? (i := 1328) (by decide +kernel), List.mem_of_getElem? (i := 1329) (by decide +kernel)⟩
theorem lw_p63 : lw_okq (⟨"MacroScopesModel", "isSymbol", "(III)Z"⟩, 64) := ⟨⟨by decide +kernel, by decide +kernel⟩, List.mem_of_getElem? (i := 1078) (by decide +kernel), List.mem_of_getElem? (i := 1332) (by decide +kernel), List.mem_of_getElem? (i := 1333) (by decide +kernel)⟩
def lw_privs_4 : List (MethodName × Nat) := [(⟨"MacroScopes$Scopes", "bind", "(III)V"⟩, 6), (⟨"MacroScopes$Expander", "expandLetSyntax", "(I)V"⟩, 15), (⟨"MacroScopes$Expander", "bindMacros", "(II)V"⟩, 15), (⟨"MacroScopes$Expander", "expandIf", "(I)V"⟩, 15), (⟨"MacroScopes$Expander", "expandQuote", "(I)V"⟩, 15), (⟨"MacroScopes$Expander", "tellRoots", "(I)V"⟩, 15), (⟨"MacroScopes$Expander", "expandPlain", "(I)V"⟩, 15), (⟨"MacroScopes", "takeText", "(Z)V"⟩, 11), (⟨"MacroScopesModel", "word", "(JI)V"⟩, 64), (⟨"MacroScopesModel", "more", "(JI)V"⟩, 64), (⟨"MacroScopesModel", "beginText", "()V"⟩, 64), (⟨"MacroScopesModel", "parse", "()Z"⟩, 64), (⟨"MacroScopesModel", "endList", "(I)V"⟩, 64), (⟨"MacroScopesModel", "newForm", "(III)I"⟩, 64), (⟨"MacroScopesModel", "token", "(II)Z"⟩, 64), (⟨"MacroScopesModel", "isSymbol", "(III)Z"⟩, 64)]
theorem lw_r4 : ∀ q ∈ lw_privs_4, lw_okq q := List.forall_mem_cons.mpr ⟨lw_p48, List.forall_mem_cons.mpr ⟨lw_p49, List.forall_mem_cons.mpr ⟨lw_p50, List.forall_mem_cons.mpr ⟨lw_p51, List.forall_mem_cons.mpr ⟨lw_p52, List.forall_mem_cons.mpr ⟨lw_p53, List.forall_mem_cons.mpr ⟨lw_p54, List.forall_mem_cons.mpr ⟨lw_p55, List.forall_mem_cons.mpr ⟨lw_p56, List.forall_mem_cons.mpr ⟨lw_p57, List.forall_mem_cons.mpr ⟨lw_p58, List.forall_mem_cons.mpr ⟨lw_p59, List.forall_mem_cons.mpr ⟨lw_p60, List.forall_mem_cons.mpr ⟨lw_p61, List.forall_mem_cons.mpr ⟨lw_p62, List.forall_mem_cons.mpr ⟨lw_p63, fun _ h => absurd h List.not_mem_nil⟩⟩⟩⟩⟩⟩⟩⟩⟩⟩⟩⟩⟩⟩⟩⟩
theorem lw_p64 : lw_okq (⟨"MacroScopesModel", "symbolAt", "(II)I"⟩, 64) := ⟨⟨by decide +kernel, by decide +kernel⟩, List.mem_of_getElem? (i := 1078) (by decide +kernel), List.mem_of_getElem? (i := 1336) (by decide +kernel), List.mem_of_getElem? (i := 1337) (by decide +kernel)⟩
theorem lw_p65 : lw_okq (⟨"MacroScopesModel", "top", "(I)V"⟩, 64) := ⟨⟨by decide +kernel, by decide +kernel⟩, List.mem_of_getElem? (i := 1078) (by decide +kernel), List.mem_of_getElem? (i := 1340) (by decide +kernel), List.mem_of_getElem? (i := 1341) (by decide +kernel)⟩
theorem lw_p66 : lw_okq (⟨"MacroScopesModel", "isDefinition", "(II)Z"⟩, 64) := ⟨⟨by decide +kernel, by decide +kernel⟩, List.mem_of_getElem? (i := 1078) (by decide +kernel), List.mem_of_getElem? (i := 1344) (by decide +kernel), List.mem_of_getElem? (i := 1345) (by decide +kernel)⟩
theorem lw_p67 : lw_okq (⟨"MacroScopesModel", "part", "(II)I"⟩, 64) := ⟨⟨by decide +kernel, by decide +kernel⟩, List.mem_of_getElem? (i := 1078) (by decide +kernel), List.mem_of_getElem? (i := 1348) (by decide +kernel), List.mem_of_getElem? (i := 1349) (by decide +kernel)⟩
theorem lw_p68 : lw_okq (⟨"MacroScopesModel", "isName", "(I)Z"⟩, 64) := ⟨⟨by decide +kernel, by decide +kernel⟩, List.mem_of_getElem? (i := 1078) (by decide +kernel), List.mem_of_getElem? (i := 1352) (by decide +kernel), List.mem_of_getElem? (i := 1353) (by decide +kernel)⟩
theorem lw_p69 : lw_okq (⟨"MacroScopesModel", "say", "(I)V"⟩, 64) := ⟨⟨by decide +kernel, by decide +kernel⟩, List.mem_of_getElem? (i := 1078) (by decide +kernel), List.mem_of_getElem? (i := 1356) (by decide +kernel), List.mem_of_getElem? (i := 1357) (by decide +kernel)⟩
theorem lw_p70 : lw_okq (⟨"MacroScopesModel", "isList", "(II)Z"⟩, 64) := ⟨⟨by decide +kernel, by decide +kernel⟩, List.mem_of_getElem? (i := 1078) (by decide +kernel), List.mem_of_getElem? (i := 1360) (by decide +kernel), List.mem_of_getElem? (i := 1361) (by decide +kernel)⟩
theorem lw_p71 : lw_okq (⟨"MacroScopesModel", "need", "(ZI)Z"⟩, 64) := ⟨⟨by decide +kernel, by decide +kernel⟩, List.mem_of_getElem? (i := 1078) (by decide +kernel), List.mem_of_getElem? (i := 1364) (by decide +kernel), List.mem_of_getElem? (i := 1365) (by decide +kernel)⟩
theorem lw_p72 : lw_okq (⟨"MacroScopesModel", "fail", "(I)V"⟩, 64) := ⟨⟨by decide +kernel, by decide +kernel⟩, List.mem_of_getElem? (i := 1078) (by decide +kernel), List.mem_of_getElem? (i := 1368) (by decide +kernel), List.mem_of_getElem? (i := 1369) (by decide +kernel)⟩
theorem lw_p73 : lw_okq (⟨"MacroScopesModel", "defineSyntax", "(II)V"⟩, 64) := ⟨⟨by decide +kernel, by decide +kernel⟩, List.mem_of_getElem? (i := 1078) (by decide +kernel), List.mem_of_getElem? (i := 1372) (by decide +kernel), List.mem_of_getElem? (i := 1373) (by decide +kernel)⟩
theorem lw_p74 : lw_okq (⟨"MacroScopesModel", "areRules", "(II)Z"⟩, 64) := ⟨⟨by decide +kernel, by decide +kernel⟩, List.mem_of_getElem? (i := 1078) (by decide +kernel), List.mem_of_getElem? (i := 1376) (by decide +kernel), List.mem_of_getElem? (i := 1377) (by decide +kernel)⟩
theorem lw_p75 : lw_okq (⟨"MacroScopesModel", "meaning", "(II)I"⟩, 64) := ⟨⟨by decide +kernel, by decide +kernel⟩, List.mem_of_getElem? (i := 1078) (by decide +kernel), List.mem_of_getElem? (i := 1380) (by decide +kernel), List.mem_of_getElem? (i := 1381) (by decide +kernel)⟩
theorem lw_p76 : lw_okq (⟨"MacroScopesModel", "isBindable", "(I)Z"⟩, 64) := ⟨⟨by decide +kernel, by decide +kernel⟩, List.mem_of_getElem? (i := 1078) (by decide +kernel), List.mem_of_getElem? (i := 1384) (by decide +kernel), List.mem_of_getElem? (i := 1385) (by decide +kernel)⟩
theorem lw_p77 : lw_okq (⟨"MacroScopesModel", "isFrom", "(II)Z"⟩, 64) := ⟨⟨by decide +kernel, by decide +kernel⟩, List.mem_of_getElem? (i := 1078) (by decide +kernel), List.mem_of_getElem? (i := 1388) (by decide +kernel), List.mem_of_getElem? (i := 1389) (by decide +kernel)⟩
theorem lw_p78 : lw_okq (⟨"MacroScopesModel", "rootOf", "(I)I"⟩, 64) := ⟨⟨by decide +kernel, by decide +kernel⟩, List.mem_of_getElem? (i := 1078) (by decide +kernel), List.mem_of_getElem? (i := 1392) (by decide +kernel), List.mem_of_getElem? (i := 1393) (by decide +kernel)⟩
theorem lw_p79 : lw_okq (⟨"MacroScopesModel", "isPattern", "(II)Z"⟩, 64) := ⟨⟨by decide +kernel, by decide +kernel⟩, List.mem_of_getElem? (i := 1078) (by decide +kernel), List.mem_of_getElem? (i := 1396) (by decide +kernel), List.mem_of_getElem? (i := 1397) (by decide +kernel)⟩
def lw_privs_5 : List (MethodName × Nat) := [(⟨"MacroScopesModel", "symbolAt", "(II)I"⟩, 64), (⟨"MacroScopesModel", "top", "(I)V"⟩, 64), (⟨"MacroScopesModel", "isDefinition", "(II)Z"⟩, 64), (⟨"MacroScopesModel", "part", "(II)I"⟩, 64), (⟨"MacroScopesModel", "isName", "(I)Z"⟩, 64), (⟨"MacroScopesModel", "say", "(I)V"⟩, 64), (⟨"MacroScopesModel", "isList", "(II)Z"⟩, 64), (⟨"MacroScopesModel", "need", "(ZI)Z"⟩, 64), (⟨"MacroScopesModel", "fail", "(I)V"⟩, 64), (⟨"MacroScopesModel", "defineSyntax", "(II)V"⟩, 64), (⟨"MacroScopesModel", "areRules", "(II)Z"⟩, 64), (⟨"MacroScopesModel", "meaning", "(II)I"⟩, 64), (⟨"MacroScopesModel", "isBindable", "(I)Z"⟩, 64), (⟨"MacroScopesModel", "isFrom", "(II)Z"⟩, 64), (⟨"MacroScopesModel", "rootOf", "(I)I"⟩, 64), (⟨"MacroScopesModel", "isPattern", "(II)Z"⟩, 64)]
theorem lw_r5 : ∀ q ∈ lw_privs_5, lw_okq q := List.forall_mem_cons.mpr ⟨lw_p64, List.forall_mem_cons.mpr ⟨lw_p65, List.forall_mem_cons.mpr ⟨lw_p66, List.forall_mem_cons.mpr ⟨lw_p67, List.forall_mem_cons.mpr ⟨lw_p68, List.forall_mem_cons.mpr ⟨lw_p69, List.forall_mem_cons.mpr ⟨lw_p70, List.forall_mem_cons.mpr ⟨lw_p71, List.forall_mem_cons.mpr ⟨lw_p72, List.forall_mem_cons.mpr ⟨lw_p73, List.forall_mem_cons.mpr ⟨lw_p74, List.forall_mem_cons.mpr ⟨lw_p75, List.forall_mem_cons.mpr ⟨lw_p76, List.forall_mem_cons.mpr ⟨lw_p77, List.forall_mem_cons.mpr ⟨lw_p78, List.forall_mem_cons.mpr ⟨lw_p79, fun _ h => absurd h List.not_mem_nil⟩⟩⟩⟩⟩⟩⟩⟩⟩⟩⟩⟩⟩⟩⟩⟩
theorem lw_p80 : lw_okq (⟨"MacroScopesModel", "lookAt", "(III)V"⟩, 64) := ⟨⟨by decide +kernel, by decide +kernel⟩, List.mem_of_getElem? (i := 1078) (by decide +kernel), List.mem_of_getElem? (i := 1400) (by decide +kernel), List.mem_of_getElem? (i := 1401) (by decide +kernel)⟩
theorem lw_p81 : lw_okq (⟨"MacroScopesModel", "isEllipsis", "(II)Z"⟩, 64) := ⟨⟨by decide +kernel, by decide +kernel⟩, List.mem_of_getElem? (i := 1078) (by decide +kernel), List.mem_of_getElem? (i := 1404) (by decide +kernel), List.mem_of_getElem? (i := 1405) (by decide +kernel)⟩
theorem lw_p82 : lw_okq (⟨"MacroScopesModel", "isLiteral", "(II)Z"⟩, 64) := ⟨⟨by decide +kernel, by decide +kernel⟩, List.mem_of_getElem? (i := 1078) (by decide +kernel), List.mem_of_getElem? (i := 1408) (by decide +kernel), List.mem_of_getElem? (i := 1409) (by decide +kernel)⟩
theorem lw_p83 : lw_okq (⟨"MacroScopesModel", "variable", "(I)I"⟩, 64) := ⟨⟨by decide +kernel, by decide +kernel⟩, List.mem_of_getElem? (i := 1078) (by decide +kernel), List.mem_of_getElem? (i := 1412) (by decide +kernel), List.mem_of_getElem? (i := 1413) (by decide +kernel)⟩
theorem lw_p84 : lw_okq (⟨"MacroScopesModel", "isTemplate", "(I)Z"⟩, 64) := ⟨⟨by decide +kernel, by decide +kernel⟩, List.mem_of_getElem? (i := 1078) (by decide +kernel), List.mem_of_getElem? (i := 1416) (by decide +kernel), List.mem_of_getElem? (i := 1417) (by decide +kernel)⟩
theorem lw_p85 : lw_okq (⟨"MacroScopesModel", "isRepeated", "(I)Z"⟩, 64) := ⟨⟨by decide +kernel, by decide +kernel⟩, List.mem_of_getElem? (i := 1078) (by decide +kernel), List.mem_of_getElem? (i := 1420) (by decide +kernel), List.mem_of_getElem? (i := 1421) (by decide +kernel)⟩
theorem lw_p86 : lw_okq (⟨"MacroScopesModel", "hasRepeated", "(I)Z"⟩, 64) := ⟨⟨by decide +kernel, by decide +kernel⟩, List.mem_of_getElem? (i := 1078) (by decide +kernel), List.mem_of_getElem? (i := 1424) (by decide +kernel), List.mem_of_getElem? (i := 1425) (by decide +kernel)⟩
theorem lw_p87 : lw_okq (⟨"MacroScopesModel", "sizeOf", "(I)I"⟩, 64) := ⟨⟨by decide +kernel, by decide +kernel⟩, List.mem_of_getElem? (i := 1078) (by decide +kernel), List.mem_of_getElem? (i := 1428) (by decide +kernel), List.mem_of_getElem? (i := 1429) (by decide +kernel)⟩
theorem lw_p88 : lw_okq (⟨"MacroScopesModel", "saySymbol", "(I)V"⟩, 64) := ⟨⟨by decide +kernel, by decide +kernel⟩, List.mem_of_getElem? (i := 1078) (by decide +kernel), List.mem_of_getElem? (i := 1432) (by decide +kernel), List.mem_of_getElem? (i := 1433) (by decide +kernel)⟩
theorem lw_p89 : lw_okq (⟨"MacroScopesModel", "task", "(IIII)V"⟩, 64) := ⟨⟨by decide +kernel, by decide +kernel⟩, List.mem_of_getElem? (i := 1078) (by decide +kernel), List.mem_of_getElem? (i := 1436) (by decide +kernel), List.mem_of_getElem? (i := 1437) (by decide +kernel)⟩
theorem lw_p90 : lw_okq (⟨"MacroScopesModel", "doAll", "()V"⟩, 64) := ⟨⟨by decide +kernel, by decide +kernel⟩, List.mem_of_getElem? (i := 1078) (by decide +kernel), List.mem_of_getElem? (i := 1440) (by decide +kernel), List.mem_of_getElem? (i := 1441) (by decide +kernel)⟩
theorem lw_p91 : lw_okq (⟨"MacroScopesModel", "expand", "(III)V"⟩, 64) := ⟨⟨by decide +kernel, by decide +kernel⟩, List.mem_of_getElem? (i := 1078) (by decide +kernel), List.mem_of_getElem? (i := 1444) (by decide +kernel), List.mem_of_getElem? (i := 1445) (by decide +kernel)⟩
theorem lw_p92 : lw_okq (⟨"MacroScopesModel", "sayNumber", "(I)V"⟩, 64) := ⟨⟨by decide +kernel, by decide +kernel⟩, List.mem_of_getElem? (i := 1078) (by decide +kernel), List.mem_of_getElem? (i := 1448) (by decide +kernel), List.mem_of_getElem? (i := 1449) (by decide +kernel)⟩
theorem lw_p93 : lw_okq (⟨"MacroScopesModel", "sayName", "(II)V"⟩, 64) := ⟨⟨by decide +kernel, by decide +kernel⟩, List.mem_of_getElem? (i := 1078) (by decide +kernel), List.mem_of_getElem? (i := 1452) (by decide +kernel), List.mem_of_getElem? (i := 1453) (by decide +kernel)⟩
theorem lw_p94 : lw_okq (⟨"MacroScopesModel", "expandList", "(III)V"⟩, 64) := ⟨⟨by decide +kernel, by decide +kernel⟩, List.mem_of_getElem? (i := 1078) (by decide +kernel), List.mem_of_getElem? (i := 1456) (by decide +kernel), List.mem_of_getElem? (i := 1457) (by decide +kernel)⟩
theorem lw_p95 : lw_okq (⟨"MacroScopesModel", "environmentOf", "(I)I"⟩, 64) := ⟨⟨by decide +kernel, by decide +kernel⟩, List.mem_of_getElem? (i := 1078) (by decide +kernel), List.mem_of_getElem? (i := 1460) (by decide +kernel), List.mem_of_getElem? (i := 1461) (by decide +kernel)⟩
def lw_privs_6 : List (MethodName × Nat) := [(⟨"MacroScopesModel", "lookAt", "(III)V"⟩, 64), (⟨"MacroScopesModel", "isEllipsis", "(II)Z"⟩, 64), (⟨"MacroScopesModel", "isLiteral", "(II)Z"⟩, 64), (⟨"MacroScopesModel", "variable", "(I)I"⟩, 64), (⟨"MacroScopesModel", "isTemplate", "(I)Z"⟩, 64), (⟨"MacroScopesModel", "isRepeated", "(I)Z"⟩, 64), (⟨"MacroScopesModel", "hasRepeated", "(I)Z"⟩, 64), (⟨"MacroScopesModel", "sizeOf", "(I)I"⟩, 64), (⟨"MacroScopesModel", "saySymbol", "(I)V"⟩, 64), (⟨"MacroScopesModel", "task", "(IIII)V"⟩, 64), (⟨"MacroScopesModel", "doAll", "()V"⟩, 64), (⟨"MacroScopesModel", "expand", "(III)V"⟩, 64), (⟨"MacroScopesModel", "sayNumber", "(I)V"⟩, 64), (⟨"MacroScopesModel", "sayName", "(II)V"⟩, 64), (⟨"MacroScopesModel", "expandList", "(III)V"⟩, 64), (⟨"MacroScopesModel", "environmentOf", "(I)I"⟩, 64)]
theorem lw_r6 : ∀ q ∈ lw_privs_6, lw_okq q := List.forall_mem_cons.mpr ⟨lw_p80, List.forall_mem_cons.mpr ⟨lw_p81, List.forall_mem_cons.mpr ⟨lw_p82, List.forall_mem_cons.mpr ⟨lw_p83, List.forall_mem_cons.mpr ⟨lw_p84, List.forall_mem_cons.mpr ⟨lw_p85, List.forall_mem_cons.mpr ⟨lw_p86, List.forall_mem_cons.mpr ⟨lw_p87, List.forall_mem_cons.mpr ⟨lw_p88, List.forall_mem_cons.mpr ⟨lw_p89, List.forall_mem_cons.mpr ⟨lw_p90, List.forall_mem_cons.mpr ⟨lw_p91, List.forall_mem_cons.mpr ⟨lw_p92, List.forall_mem_cons.mpr ⟨lw_p93, List.forall_mem_cons.mpr ⟨lw_p94, List.forall_mem_cons.mpr ⟨lw_p95, fun _ h => absurd h List.not_mem_nil⟩⟩⟩⟩⟩⟩⟩⟩⟩⟩⟩⟩⟩⟩⟩⟩
theorem lw_p96 : lw_okq (⟨"MacroScopesModel", "use", "(IIIII)V"⟩, 64) := ⟨⟨by decide +kernel, by decide +kernel⟩, List.mem_of_getElem? (i := 1078) (by decide +kernel), List.mem_of_getElem? (i := 1464) (by decide +kernel), List.mem_of_getElem? (i := 1465) (by decide +kernel)⟩
theorem lw_p97 : lw_okq (⟨"MacroScopesModel", "matches", "(IIIII)Z"⟩, 64) := ⟨⟨by decide +kernel, by decide +kernel⟩, List.mem_of_getElem? (i := 1078) (by decide +kernel), List.mem_of_getElem? (i := 1468) (by decide +kernel), List.mem_of_getElem? (i := 1469) (by decide +kernel)⟩
theorem lw_p98 : lw_okq (⟨"MacroScopesModel", "lookAtParts", "(III)Z"⟩, 64) := ⟨⟨by decide +kernel, by decide +kernel⟩, List.mem_of_getElem? (i := 1078) (by decide +kernel), List.mem_of_getElem? (i := 1472) (by decide +kernel), List.mem_of_getElem? (i := 1473) (by decide +kernel)⟩
theorem lw_p99 : lw_okq (⟨"MacroScopesModel", "keepMatches", "(II)V"⟩, 64) := ⟨⟨by decide +kernel, by decide +kernel⟩, List.mem_of_getElem? (i := 1078) (by decide +kernel), List.mem_of_getElem? (i := 1476) (by decide +kernel), List.mem_of_getElem? (i := 1477) (by decide +kernel)⟩
theorem lw_p100 : lw_okq (⟨"MacroScopesModel", "keepParts", "(IIII)V"⟩, 64) := ⟨⟨by decide +kernel, by decide +kernel⟩, List.mem_of_getElem? (i := 1078) (by decide +kernel), List.mem_of_getElem? (i := 1480) (by decide +kernel), List.mem_of_getElem? (i := 1481) (by decide +kernel)⟩
theorem lw_p101 : lw_okq (⟨"MacroScopesModel", "setCounts", "(II)V"⟩, 64) := ⟨⟨by decide +kernel, by decide +kernel⟩, List.mem_of_getElem? (i := 1078) (by decide +kernel), List.mem_of_getElem? (i := 1484) (by decide +kernel), List.mem_of_getElem? (i := 1485) (by decide +kernel)⟩
theorem lw_p102 : lw_okq (⟨"MacroScopesModel", "areCountsAlike", "(I)Z"⟩, 64) := ⟨⟨by decide +kernel, by decide +kernel⟩, List.mem_of_getElem? (i := 1078) (by decide +kernel), List.mem_of_getElem? (i := 1488) (by decide +kernel), List.mem_of_getElem? (i := 1489) (by decide +kernel)⟩
theorem lw_p103 : lw_okq (⟨"MacroScopesModel", "turnsOf", "(I)I"⟩, 64) := ⟨⟨by decide +kernel, by decide +kernel⟩, List.mem_of_getElem? (i := 1078) (by decide +kernel), List.mem_of_getElem? (i := 1492) (by decide +kernel), List.mem_of_getElem? (i := 1493) (by decide +kernel)⟩
theorem lw_p104 : lw_okq (⟨"MacroScopesModel", "sizeMade", "(I)I"⟩, 64) := ⟨⟨by decide +kernel, by decide +kernel⟩, List.mem_of_getElem? (i := 1078) (by decide +kernel), List.mem_of_getElem? (i := 1496) (by decide +kernel), List.mem_of_getElem? (i := 1497) (by decide +kernel)⟩
theorem lw_p105 : lw_okq (⟨"MacroScopesModel", "make", "(II)I"⟩, 64) := ⟨⟨by decide +kernel, by decide +kernel⟩, List.mem_of_getElem? (i := 1078) (by decide +kernel), List.mem_of_getElem? (i := 1501) (by decide +kernel), List.mem_of_getElem? (i := 1502) (by decide +kernel)⟩
theorem lw_p106 : lw_okq (⟨"MacroScopesModel", "begin", "(IIII)I"⟩, 64) := ⟨⟨by decide +kernel, by decide +kernel⟩, List.mem_of_getElem? (i := 1078) (by decide +kernel), List.mem_of_getElem? (i := 1505) (by decide +kernel), List.mem_of_getElem? (i := 1506) (by decide +kernel)⟩
theorem lw_p107 : lw_okq (⟨"MacroScopesModel", "alias", "(III)I"⟩, 64) := ⟨⟨by decide +kernel, by decide +kernel⟩, List.mem_of_getElem? (i := 1078) (by decide +kernel), List.mem_of_getElem? (i := 1509) (by decide +kernel), List.mem_of_getElem? (i := 1510) (by decide +kernel)⟩
theorem lw_p108 : lw_okq (⟨"MacroScopesModel", "nested", "(I)I"⟩, 64) := ⟨⟨by decide +kernel, by decide +kernel⟩, List.mem_of_getElem? (i := 1078) (by decide +kernel), List.mem_of_getElem? (i := 1513) (by decide +kernel), List.mem_of_getElem? (i := 1514) (by decide +kernel)⟩
theorem lw_p109 : lw_okq (⟨"MacroScopesModel", "expandWord", "(IIII)V"⟩, 64) := ⟨⟨by decide +kernel, by decide +kernel⟩, List.mem_of_getElem? (i := 1078) (by decide +kernel), List.mem_of_getElem? (i := 1517) (by decide +kernel), List.mem_of_getElem? (i := 1518) (by decide +kernel)⟩
theorem lw_p110 : lw_okq (⟨"MacroScopesModel", "taskParts", "(IIIII)V"⟩, 64) := ⟨⟨by decide +kernel, by decide +kernel⟩, List.mem_of_getElem? (i := 1078) (by decide +kernel), List.mem_of_getElem? (i := 1521) (by decide +kernel), List.mem_of_getElem? (i := 1522) (by decide +kernel)⟩
theorem lw_p111 : lw_okq (⟨"MacroScopesModel", "lambda", "(III)V"⟩, 64) := ⟨⟨by decide +kernel, by decide +kernel⟩, List.mem_of_getElem? (i := 1078) (by decide +kernel), List.mem_of_getElem? (i := 1525) (by decide +kernel), List.mem_of_getElem? (i := 1526) (by decide +kernel)⟩
def lw_privs_7 : List (MethodName × Nat) := [(⟨"MacroScopesModel", "use", "(IIIII)V"⟩, 64), (⟨"MacroScopesModel", "matches", "(IIIII)Z"⟩, 64), (⟨"MacroScopesModel", "lookAtParts", "(III)Z"⟩, 64), (⟨"MacroScopesModel", "keepMatches", "(II)V"⟩, 64), (⟨"MacroScopesModel", "keepParts", "(IIII)V"⟩, 64), (⟨"MacroScopesModel", "setCounts", "(II)V"⟩, 64), (⟨"MacroScopesModel", "areCountsAlike", "(I)Z"⟩, 64), (⟨"MacroScopesModel", "turnsOf", "(I)I"⟩, 64), (⟨"MacroScopesModel", "sizeMade", "(I)I"⟩, 64), (⟨"MacroScopesModel", "make", "(II)I"⟩, 64), (⟨"MacroScopesModel", "begin", "(IIII)I"⟩, 64), (⟨"MacroScopesModel", "alias", "(III)I"⟩, 64), (⟨"MacroScopesModel", "nested", "(I)I"⟩, 64), (⟨"MacroScopesModel", "expandWord", "(IIII)V"⟩, 64), (⟨"MacroScopesModel", "taskParts", "(IIIII)V"⟩, 64), (⟨"MacroScopesModel", "lambda", "(III)V"⟩, 64)]
theorem lw_r7 : ∀ q ∈ lw_privs_7, lw_okq q := List.forall_mem_cons.mpr ⟨lw_p96, List.forall_mem_cons.mpr ⟨lw_p97, List.forall_mem_cons.mpr ⟨lw_p98, List.forall_mem_cons.mpr ⟨lw_p99, List.forall_mem_cons.mpr ⟨lw_p100, List.forall_mem_cons.mpr ⟨lw_p101, List.forall_mem_cons.mpr ⟨lw_p102, List.forall_mem_cons.mpr ⟨lw_p103, List.forall_mem_cons.mpr ⟨lw_p104, List.forall_mem_cons.mpr ⟨lw_p105, List.forall_mem_cons.mpr ⟨lw_p106, List.forall_mem_cons.mpr ⟨lw_p107, List.forall_mem_cons.mpr ⟨lw_p108, List.forall_mem_cons.mpr ⟨lw_p109, List.forall_mem_cons.mpr ⟨lw_p110, List.forall_mem_cons.mpr ⟨lw_p111, fun _ h => absurd h List.not_mem_nil⟩⟩⟩⟩⟩⟩⟩⟩⟩⟩⟩⟩⟩⟩⟩⟩
theorem lw_p112 : lw_okq (⟨"MacroScopesModel", "newEnvironment", "(I)I"⟩, 64) := ⟨⟨by decide +kernel, by decide +kernel⟩, List.mem_of_getElem? (i := 1078) (by decide +kernel), List.mem_of_getElem? (i := 1529) (by decide +kernel), List.mem_of_getElem? (i := 1530) (by decide +kernel)⟩
theorem lw_p113 : lw_okq (⟨"MacroScopesModel", "bind", "(III)V"⟩, 64) := ⟨⟨by decide +kernel, by decide +kernel⟩, List.mem_of_getElem? (i := 1078) (by decide +kernel), List.mem_of_getElem? (i := 1533) (by decide +kernel), List.mem_of_getElem? (i := 1534) (by decide +kernel)⟩
theorem lw_p114 : lw_okq (⟨"MacroScopesModel", "letSyntax", "(III)V"⟩, 64) := ⟨⟨by decide +kernel, by decide +kernel⟩, List.mem_of_getElem? (i := 1078) (by decide +kernel), List.mem_of_getElem? (i := 1537) (by decide +kernel), List.mem_of_getElem? (i := 1538) (by decide +kernel)⟩
theorem lw_p115 : lw_okq (⟨"MacroScopesModel", "sayPlain", "(I)V"⟩, 64) := ⟨⟨by decide +kernel, by decide +kernel⟩, List.mem_of_getElem? (i := 1078) (by decide +kernel), List.mem_of_getElem? (i := 1541) (by decide +kernel), List.mem_of_getElem? (i := 1542) (by decide +kernel)⟩
theorem lw_p116 : lw_okq (⟨"MacroScopesModel", "stay", "()V"⟩, 64) := ⟨⟨by decide +kernel, by decide +kernel⟩, List.mem_of_getElem? (i := 1078) (by decide +kernel), List.mem_of_getElem? (i := 1545) (by decide +kernel), List.mem_of_getElem? (i := 1546) (by decide +kernel)⟩
theorem lw_p117 : lw_okq (⟨"MacroScopesModel", "copyOne", "(I)I"⟩, 64) := ⟨⟨by decide +kernel, by decide +kernel⟩, List.mem_of_getElem? (i := 1078) (by decide +kernel), List.mem_of_getElem? (i := 1549) (by decide +kernel), List.mem_of_getElem? (i := 1550) (by decide +kernel)⟩
def lw_privs_8 : List (MethodName × Nat) := [(⟨"MacroScopesModel", "newEnvironment", "(I)I"⟩, 64), (⟨"MacroScopesModel", "bind", "(III)V"⟩, 64), (⟨"MacroScopesModel", "letSyntax", "(III)V"⟩, 64), (⟨"MacroScopesModel", "sayPlain", "(I)V"⟩, 64), (⟨"MacroScopesModel", "stay", "()V"⟩, 64), (⟨"MacroScopesModel", "copyOne", "(I)I"⟩, 64)]
theorem lw_r8 : ∀ q ∈ lw_privs_8, lw_okq q := List.forall_mem_cons.mpr ⟨lw_p112, List.forall_mem_cons.mpr ⟨lw_p113, List.forall_mem_cons.mpr ⟨lw_p114, List.forall_mem_cons.mpr ⟨lw_p115, List.forall_mem_cons.mpr ⟨lw_p116, List.forall_mem_cons.mpr ⟨lw_p117, fun _ h => absurd h List.not_mem_nil⟩⟩⟩⟩⟩⟩
def lw_privs : List (MethodName × Nat) := lw_privs_1 ++ (lw_privs_2 ++ (lw_privs_3 ++ (lw_privs_4 ++ (lw_privs_5 ++ (lw_privs_6 ++ (lw_privs_7 ++ (lw_privs_8)))))))
def lw_tbl : List Cond := k2_sels lw_privs ++ tables_1
theorem lw_privs_ok : ∀ q ∈ lw_privs, lw_okq q := by
  show ∀ q ∈ lw_privs_1 ++ (lw_privs_2 ++ (lw_privs_3 ++ (lw_privs_4 ++ (lw_privs_5 ++ (lw_privs_6 ++ (lw_privs_7 ++ (lw_privs_8))))))), lw_okq q
  exact List.forall_mem_append.mpr ⟨lw_r1, List.forall_mem_append.mpr ⟨lw_r2, List.forall_mem_append.mpr ⟨lw_r3, List.forall_mem_append.mpr ⟨lw_r4, List.forall_mem_append.mpr ⟨lw_r5, List.forall_mem_append.mpr ⟨lw_r6, List.forall_mem_append.mpr ⟨lw_r7, lw_r8⟩⟩⟩⟩⟩⟩⟩

/-! ===== BEGIN words of one list among another's, by their places ===== -/
theorem goodIn_r {big : List Cond} (ws : List Cond) (ps : List Nat) (hp : ws = ps.filterMap (fun i => big[i]?)) (h : ws.all goodWord = true) : GoodIn big ws := by
  intro w hw
  have h1 := List.all_eq_true.mp h w hw
  rw [hp] at hw
  obtain ⟨i, -, hi⟩ := List.mem_filterMap.mp hw
  have hm : w ∈ big := by first | exact List.mem_of_getElem? hi | exact List.getElem?_mem hi
  exact ⟨hm, good_of_word h1⟩
theorem goodIn_app {big a b : List Cond} (ha : GoodIn big a) (hb : GoodIn big b) : GoodIn big (a ++ b) := fun w h => (List.mem_append.mp h).elim (ha w) (hb w)
theorem goodIn_ca {big a b : List Cond} {c : Cond} (ha : GoodIn big (c :: a)) (hb : GoodIn big b) : GoodIn big (c :: (a ++ b)) := fun w h => (List.mem_cons.mp h).elim (fun e => ha w (List.mem_cons.mpr (Or.inl e))) (fun h => (List.mem_append.mp h).elim (fun h => ha w (List.mem_cons.mpr (Or.inr h))) (hb w))
theorem goodIn_sub {big ws : List Cond} (hm : ∀ w ∈ ws, w ∈ big) (h : ws.all goodWord = true) : GoodIn big ws := fun w hw => ⟨hm w hw, good_of_word (List.all_eq_true.mp h w hw)⟩
/-! ===== END ===== -/

/-! ===== BEGIN printed: names, fields, word lists, decode rows ===== -/
def RX0 : String := "MacroScopes$Expander"
def TX0 : u_T := fun k => match k with
  | 0 => ("MacroScopes$Expander", "forms", "LMacroScopes$Forms;", true)
  | 1 => ("MacroScopes$Expander", "names", "LMacroScopes$Names;", true)
  | 2 => ("MacroScopes$Expander", "told", "LMacroScopes$Told;", true)
  | 3 => ("MacroScopes$Expander", "scopes", "LMacroScopes$Scopes;", true)
  | 4 => ("MacroScopes$Expander", "ruleCheck", "LMacroScopes$RuleCheck;", true)
  | 5 => ("MacroScopes$Expander", "matcher", "LMacroScopes$Matcher;", true)
  | 6 => ("MacroScopes$Expander", "maker", "LMacroScopes$Maker;", true)
  | 7 => ("MacroScopes$Expander", "frames", "LMacroScopes$Frames;", true)
  | 8 => ("MacroScopes$Expander", "nextTop", "I", false)
  | 9 => ("MacroScopes$Expander", "defined", "I", false)
  | 10 => ("MacroScopes$Expander", "fault", "I", false)
  | 11 => ("MacroScopes$Expander", "place", "I", false)
  | 12 => ("MacroScopes$Expander", "uses", "I", false)
  | 13 => ("MacroScopes$Expander", "layers", "I", false)
  | _ => ("MacroScopes$Expander", "variables", "I", false)
def tyX0 : Nat → FieldType := fun k => match k with
  | 0 => .object "MacroScopes$Forms"
  | 1 => .object "MacroScopes$Names"
  | 2 => .object "MacroScopes$Told"
  | 3 => .object "MacroScopes$Scopes"
  | 4 => .object "MacroScopes$RuleCheck"
  | 5 => .object "MacroScopes$Matcher"
  | 6 => .object "MacroScopes$Maker"
  | 7 => .object "MacroScopes$Frames"
  | 8 => .int
  | 9 => .int
  | 10 => .int
  | 11 => .int
  | 12 => .int
  | 13 => .int
  | _ => .int
abbrev wsX00 : List Cond := u_ws RX0 TX0 15
theorem nmX0 : ∀ a, a < 15 → ∀ b, b < 15 → a ≠ b → (TX0 a).2.1 ≠ (TX0 b).2.1 := by decide +kernel
theorem tyX0_ok : ∀ k, k < 15 → parseFieldDescriptor (TX0 k).2.2.1 = some (tyX0 k) := by decide +kernel
abbrev cX0_init : ByteArray := prog_2_method_1_code
def yX0_init : MethodName := ⟨RX0, "<init>", "(LMacroScopes$Forms;LMacroScopes$Names;LMacroScopes$Told;)V"⟩
abbrev cX0_tellText : ByteArray := prog_2_method_2_code
def yX0_tellText : MethodName := ⟨RX0, "tellText", "()I"⟩
abbrev cX0_startText : ByteArray := prog_2_method_3_code
def yX0_startText : MethodName := ⟨RX0, "startText", "()V"⟩
abbrev cX0_nextInFrame : ByteArray := prog_2_method_4_code
def yX0_nextInFrame : MethodName := ⟨RX0, "nextInFrame", "()I"⟩
abbrev cX0_leaveFrame : ByteArray := prog_2_method_5_code
def yX0_leaveFrame : MethodName := ⟨RX0, "leaveFrame", "()V"⟩
abbrev cX0_nextTopForm : ByteArray := prog_2_method_6_code
def yX0_nextTopForm : MethodName := ⟨RX0, "nextTopForm", "()I"⟩
abbrev cX0_remember : ByteArray := prog_2_method_7_code
def yX0_remember : MethodName := ⟨RX0, "remember", "()V"⟩
abbrev cX0_definesSymbol : ByteArray := prog_2_method_8_code
def yX0_definesSymbol : MethodName := ⟨RX0, "definesSymbol", "(I)Z"⟩
abbrev cX0_define : ByteArray := prog_2_method_9_code
def yX0_define : MethodName := ⟨RX0, "define", "(I)V"⟩
abbrev cX0_defineSyntax : ByteArray := prog_2_method_10_code
def yX0_defineSyntax : MethodName := ⟨RX0, "defineSyntax", "(I)V"⟩
abbrev cX0_expandAlone : ByteArray := prog_2_method_11_code
def yX0_expandAlone : MethodName := ⟨RX0, "expandAlone", "(I)V"⟩
abbrev cX0_headMeaning : ByteArray := prog_2_method_12_code
def yX0_headMeaning : MethodName := ⟨RX0, "headMeaning", "(I)I"⟩
abbrev cX0_canExpand : ByteArray := prog_2_method_13_code
def yX0_canExpand : MethodName := ⟨RX0, "canExpand", "(I)Z"⟩
abbrev cX0_expandPlain : ByteArray := prog_2_method_14_code
def yX0_expandPlain : MethodName := ⟨RX0, "expandPlain", "(I)V"⟩
abbrev cX0_expandUse : ByteArray := prog_2_method_15_code
def yX0_expandUse : MethodName := ⟨RX0, "expandUse", "(II)V"⟩
abbrev cX0_expandWord : ByteArray := prog_2_method_16_code
def yX0_expandWord : MethodName := ⟨RX0, "expandWord", "(II)V"⟩
abbrev cX0_expandIf : ByteArray := prog_2_method_17_code
def yX0_expandIf : MethodName := ⟨RX0, "expandIf", "(I)V"⟩
abbrev cX0_expandQuote : ByteArray := prog_2_method_18_code
def yX0_expandQuote : MethodName := ⟨RX0, "expandQuote", "(I)V"⟩
abbrev cX0_tellRoots : ByteArray := prog_2_method_19_code
def yX0_tellRoots : MethodName := ⟨RX0, "tellRoots", "(I)V"⟩
abbrev cX0_startLayer : ByteArray := prog_2_method_20_code
def yX0_startLayer : MethodName := ⟨RX0, "startLayer", "(I)Z"⟩
abbrev cX0_canBind : ByteArray := prog_2_method_21_code
def yX0_canBind : MethodName := ⟨RX0, "canBind", "(II)Z"⟩
abbrev cX0_expandLambda : ByteArray := prog_2_method_22_code
def yX0_expandLambda : MethodName := ⟨RX0, "expandLambda", "(I)V"⟩
abbrev cX0_bindVariables : ByteArray := prog_2_method_23_code
def yX0_bindVariables : MethodName := ⟨RX0, "bindVariables", "(I)V"⟩
abbrev cX0_expandLetSyntax : ByteArray := prog_2_method_24_code
def yX0_expandLetSyntax : MethodName := ⟨RX0, "expandLetSyntax", "(I)V"⟩
abbrev cX0_bindMacros : ByteArray := prog_2_method_25_code
def yX0_bindMacros : MethodName := ⟨RX0, "bindMacros", "(II)V"⟩
def RX1 : String := "MacroScopes$Forms"
def TX1 : u_T := fun k => match k with
  | 0 => ("MacroScopes$Forms", "what", "[I", false)
  | 1 => ("MacroScopes$Forms", "span", "[I", false)
  | 2 => ("MacroScopes$Forms", "top", "I", false)
  | _ => ("MacroScopes$Forms", "kept", "I", false)
def tyX1 : Nat → FieldType := fun k => match k with
  | 0 => .array .int
  | 1 => .array .int
  | 2 => .int
  | _ => .int
abbrev wsX10 : List Cond := u_ws RX1 TX1 4
theorem nmX1 : ∀ a, a < 4 → ∀ b, b < 4 → a ≠ b → (TX1 a).2.1 ≠ (TX1 b).2.1 := by decide +kernel
theorem tyX1_ok : ∀ k, k < 4 → parseFieldDescriptor (TX1 k).2.2.1 = some (tyX1 k) := by decide +kernel
abbrev cX1_init : ByteArray := prog_3_method_1_code
def yX1_init : MethodName := ⟨RX1, "<init>", "()V"⟩
abbrev cX1_startText : ByteArray := prog_3_method_2_code
def yX1_startText : MethodName := ⟨RX1, "startText", "()V"⟩
abbrev cX1_makeRoom : ByteArray := prog_3_method_3_code
def yX1_makeRoom : MethodName := ⟨RX1, "makeRoom", "()V"⟩
abbrev cX1_add : ByteArray := prog_3_method_4_code
def yX1_add : MethodName := ⟨RX1, "add", "(I)I"⟩
abbrev cX1_ofNumber : ByteArray := prog_3_method_5_code
def yX1_ofNumber : MethodName := ⟨RX1, "ofNumber", "(I)I"⟩
abbrev cX1_ofName : ByteArray := prog_3_method_6_code
def yX1_ofName : MethodName := ⟨RX1, "ofName", "(I)I"⟩
abbrev cX1_endList : ByteArray := prog_3_method_7_code
def yX1_endList : MethodName := ⟨RX1, "endList", "(I)V"⟩
abbrev cX1_whatIs : ByteArray := prog_3_method_8_code
def yX1_whatIs : MethodName := ⟨RX1, "whatIs", "(I)I"⟩
abbrev cX1_isList : ByteArray := prog_3_method_9_code
def yX1_isList : MethodName := ⟨RX1, "isList", "(I)Z"⟩
abbrev cX1_nameOf : ByteArray := prog_3_method_10_code
def yX1_nameOf : MethodName := ⟨RX1, "nameOf", "(I)I"⟩
abbrev cX1_numberOf : ByteArray := prog_3_method_11_code
def yX1_numberOf : MethodName := ⟨RX1, "numberOf", "(I)I"⟩
abbrev cX1_size : ByteArray := prog_3_method_12_code
def yX1_size : MethodName := ⟨RX1, "size", "(I)I"⟩
abbrev cX1_after : ByteArray := prog_3_method_13_code
def yX1_after : MethodName := ⟨RX1, "after", "(I)I"⟩
abbrev cX1_head : ByteArray := prog_3_method_14_code
def yX1_head : MethodName := ⟨RX1, "head", "(I)I"⟩
abbrev cX1_parts : ByteArray := prog_3_method_15_code
def yX1_parts : MethodName := ⟨RX1, "parts", "(I)I"⟩
abbrev cX1_part : ByteArray := prog_3_method_16_code
def yX1_part : MethodName := ⟨RX1, "part", "(II)I"⟩
abbrev cX1_holdsDots : ByteArray := prog_3_method_17_code
def yX1_holdsDots : MethodName := ⟨RX1, "holdsDots", "(I)Z"⟩
abbrev cX1_isRepeated : ByteArray := prog_3_method_18_code
def yX1_isRepeated : MethodName := ⟨RX1, "isRepeated", "(II)Z"⟩
abbrev cX1_keep : ByteArray := prog_3_method_19_code
def yX1_keep : MethodName := ⟨RX1, "keep", "(I)I"⟩
def RX2 : String := "MacroScopes$Frames"
def TX2 : u_T := fun k => match k with
  | 0 => ("MacroScopes$Frames", "next", "[I", true)
  | 1 => ("MacroScopes$Frames", "end", "[I", true)
  | 2 => ("MacroScopes$Frames", "closes", "[Z", true)
  | 3 => ("MacroScopes$Frames", "formsBefore", "[I", true)
  | 4 => ("MacroScopes$Frames", "namesBefore", "[I", true)
  | 5 => ("MacroScopes$Frames", "scopesBefore", "[I", true)
  | _ => ("MacroScopes$Frames", "top", "I", false)
def tyX2 : Nat → FieldType := fun k => match k with
  | 0 => .array .int
  | 1 => .array .int
  | 2 => .array .boolean
  | 3 => .array .int
  | 4 => .array .int
  | 5 => .array .int
  | _ => .int
abbrev wsX20 : List Cond := u_ws RX2 TX2 7
theorem nmX2 : ∀ a, a < 7 → ∀ b, b < 7 → a ≠ b → (TX2 a).2.1 ≠ (TX2 b).2.1 := by decide +kernel
theorem tyX2_ok : ∀ k, k < 7 → parseFieldDescriptor (TX2 k).2.2.1 = some (tyX2 k) := by decide +kernel
abbrev cX2_init : ByteArray := prog_4_method_1_code
def yX2_init : MethodName := ⟨RX2, "<init>", "()V"⟩
abbrev cX2_enter : ByteArray := prog_4_method_2_code
def yX2_enter : MethodName := ⟨RX2, "enter", "(IIZ)V"⟩
abbrev cX2_remember : ByteArray := prog_4_method_3_code
def yX2_remember : MethodName := ⟨RX2, "remember", "(III)V"⟩
abbrev cX2_nextForm : ByteArray := prog_4_method_4_code
def yX2_nextForm : MethodName := ⟨RX2, "nextForm", "(LMacroScopes$Forms;)I"⟩
def RX3 : String := "MacroScopes$Maker"
def TX3 : u_T := fun k => match k with
  | 0 => ("MacroScopes$Maker", "forms", "LMacroScopes$Forms;", true)
  | 1 => ("MacroScopes$Maker", "names", "LMacroScopes$Names;", true)
  | 2 => ("MacroScopes$Maker", "matches", "LMacroScopes$Matches;", true)
  | 3 => ("MacroScopes$Maker", "home", "I", false)
  | 4 => ("MacroScopes$Maker", "start", "I", false)
  | _ => ("MacroScopes$Maker", "tooMuch", "Z", false)
def tyX3 : Nat → FieldType := fun k => match k with
  | 0 => .object "MacroScopes$Forms"
  | 1 => .object "MacroScopes$Names"
  | 2 => .object "MacroScopes$Matches"
  | 3 => .int
  | 4 => .int
  | _ => .boolean
abbrev wsX30 : List Cond := u_ws RX3 TX3 6
theorem nmX3 : ∀ a, a < 6 → ∀ b, b < 6 → a ≠ b → (TX3 a).2.1 ≠ (TX3 b).2.1 := by decide +kernel
theorem tyX3_ok : ∀ k, k < 6 → parseFieldDescriptor (TX3 k).2.2.1 = some (tyX3 k) := by decide +kernel
abbrev cX3_init : ByteArray := prog_5_method_1_code
def yX3_init : MethodName := ⟨RX3, "<init>", "(LMacroScopes$Forms;LMacroScopes$Names;LMacroScopes$Matches;)V"⟩
abbrev cX3_make : ByteArray := prog_5_method_2_code
def yX3_make : MethodName := ⟨RX3, "make", "(II)I"⟩
abbrev cX3_isEven : ByteArray := prog_5_method_3_code
def yX3_isEven : MethodName := ⟨RX3, "isEven", "(I)Z"⟩
abbrev cX3_turnsOf : ByteArray := prog_5_method_4_code
def yX3_turnsOf : MethodName := ⟨RX3, "turnsOf", "(I)I"⟩
abbrev cX3_build : ByteArray := prog_5_method_5_code
def yX3_build : MethodName := ⟨RX3, "build", "(III)V"⟩
abbrev cX3_buildTurns : ByteArray := prog_5_method_6_code
def yX3_buildTurns : MethodName := ⟨RX3, "buildTurns", "(II)V"⟩
abbrev cX3_buildPart : ByteArray := prog_5_method_7_code
def yX3_buildPart : MethodName := ⟨RX3, "buildPart", "(III)V"⟩
abbrev cX3_aliasOf : ByteArray := prog_5_method_8_code
def yX3_aliasOf : MethodName := ⟨RX3, "aliasOf", "(I)I"⟩
abbrev cX3_copy : ByteArray := prog_5_method_9_code
def yX3_copy : MethodName := ⟨RX3, "copy", "(II)V"⟩
abbrev cX3_addList : ByteArray := prog_5_method_10_code
def yX3_addList : MethodName := ⟨RX3, "addList", "(I)I"⟩
abbrev cX3_add : ByteArray := prog_5_method_11_code
def yX3_add : MethodName := ⟨RX3, "add", "(I)I"⟩
def RX4 : String := "MacroScopes$Matcher"
def TX4 : u_T := fun k => match k with
  | 0 => ("MacroScopes$Matcher", "forms", "LMacroScopes$Forms;", true)
  | 1 => ("MacroScopes$Matcher", "names", "LMacroScopes$Names;", true)
  | 2 => ("MacroScopes$Matcher", "scopes", "LMacroScopes$Scopes;", true)
  | 3 => ("MacroScopes$Matcher", "matches", "LMacroScopes$Matches;", true)
  | 4 => ("MacroScopes$Matcher", "literals", "I", false)
  | _ => ("MacroScopes$Matcher", "home", "I", false)
def tyX4 : Nat → FieldType := fun k => match k with
  | 0 => .object "MacroScopes$Forms"
  | 1 => .object "MacroScopes$Names"
  | 2 => .object "MacroScopes$Scopes"
  | 3 => .object "MacroScopes$Matches"
  | 4 => .int
  | _ => .int
abbrev wsX40 : List Cond := u_ws RX4 TX4 6
theorem nmX4 : ∀ a, a < 6 → ∀ b, b < 6 → a ≠ b → (TX4 a).2.1 ≠ (TX4 b).2.1 := by decide +kernel
theorem tyX4_ok : ∀ k, k < 6 → parseFieldDescriptor (TX4 k).2.2.1 = some (tyX4 k) := by decide +kernel
abbrev cX4_init : ByteArray := prog_6_method_1_code
def yX4_init : MethodName := ⟨RX4, "<init>", "(LMacroScopes$Forms;LMacroScopes$Names;LMacroScopes$Scopes;LMacroScopes$Matches;)V"⟩
abbrev cX4_ruleFor : ByteArray := prog_6_method_2_code
def yX4_ruleFor : MethodName := ⟨RX4, "ruleFor", "(III)I"⟩
abbrev cX4_rowMatches : ByteArray := prog_6_method_3_code
def yX4_rowMatches : MethodName := ⟨RX4, "rowMatches", "(IIIIZ)Z"⟩
abbrev cX4_restMatches : ByteArray := prog_6_method_4_code
def yX4_restMatches : MethodName := ⟨RX4, "restMatches", "(III)Z"⟩
abbrev cX4_addVariables : ByteArray := prog_6_method_5_code
def yX4_addVariables : MethodName := ⟨RX4, "addVariables", "(I)V"⟩
abbrev cX4_formMatches : ByteArray := prog_6_method_6_code
def yX4_formMatches : MethodName := ⟨RX4, "formMatches", "(IIZ)Z"⟩
abbrev cX4_isVariable : ByteArray := prog_6_method_7_code
def yX4_isVariable : MethodName := ⟨RX4, "isVariable", "(I)Z"⟩
abbrev cX4_isMeant : ByteArray := prog_6_method_8_code
def yX4_isMeant : MethodName := ⟨RX4, "isMeant", "(II)Z"⟩
def RX5 : String := "MacroScopes$Matches"
def TX5 : u_T := fun k => match k with
  | 0 => ("MacroScopes$Matches", "first", "[I", true)
  | 1 => ("MacroScopes$Matches", "apart", "[I", true)
  | 2 => ("MacroScopes$Matches", "times", "[I", true)
  | 3 => ("MacroScopes$Matches", "matched", "[I", true)
  | 4 => ("MacroScopes$Matches", "variables", "I", false)
  | _ => ("MacroScopes$Matches", "forms", "I", false)
def tyX5 : Nat → FieldType := fun k => match k with
  | 0 => .array .int
  | 1 => .array .int
  | 2 => .array .int
  | 3 => .array .int
  | 4 => .int
  | _ => .int
abbrev wsX50 : List Cond := u_ws RX5 TX5 6
theorem nmX5 : ∀ a, a < 6 → ∀ b, b < 6 → a ≠ b → (TX5 a).2.1 ≠ (TX5 b).2.1 := by decide +kernel
theorem tyX5_ok : ∀ k, k < 6 → parseFieldDescriptor (TX5 k).2.2.1 = some (tyX5 k) := by decide +kernel
abbrev cX5_init : ByteArray := prog_7_method_1_code
def yX5_init : MethodName := ⟨RX5, "<init>", "()V"⟩
abbrev cX5_clear : ByteArray := prog_7_method_2_code
def yX5_clear : MethodName := ⟨RX5, "clear", "()V"⟩
abbrev cX5_addVariable : ByteArray := prog_7_method_3_code
def yX5_addVariable : MethodName := ⟨RX5, "addVariable", "(I)I"⟩
abbrev cX5_addForm : ByteArray := prog_7_method_4_code
def yX5_addForm : MethodName := ⟨RX5, "addForm", "(I)V"⟩
abbrev cX5_repeat : ByteArray := prog_7_method_5_code
def yX5_repeat : MethodName := ⟨RX5, "repeat", "(II)V"⟩
abbrev cX5_timesOf : ByteArray := prog_7_method_6_code
def yX5_timesOf : MethodName := ⟨RX5, "timesOf", "(I)I"⟩
abbrev cX5_formOf : ByteArray := prog_7_method_7_code
def yX5_formOf : MethodName := ⟨RX5, "formOf", "(II)I"⟩
def RX6 : String := "MacroScopes$Names"
def TX6 : u_T := fun k => match k with
  | 0 => ("MacroScopes$Names", "firstHalf", "[J", true)
  | 1 => ("MacroScopes$Names", "secondHalf", "[J", true)
  | 2 => ("MacroScopes$Names", "rules", "[I", true)
  | 3 => ("MacroScopes$Names", "rulesBefore", "[I", true)
  | 4 => ("MacroScopes$Names", "symbols", "I", false)
  | 5 => ("MacroScopes$Names", "symbolsBefore", "I", false)
  | 6 => ("MacroScopes$Names", "original", "[I", false)
  | 7 => ("MacroScopes$Names", "home", "[I", false)
  | 8 => ("MacroScopes$Names", "binding", "[I", false)
  | 9 => ("MacroScopes$Names", "mark", "[I", false)
  | 10 => ("MacroScopes$Names", "note", "[I", false)
  | 11 => ("MacroScopes$Names", "top", "I", false)
  | _ => ("MacroScopes$Names", "latestMark", "I", false)
def tyX6 : Nat → FieldType := fun k => match k with
  | 0 => .array .long
  | 1 => .array .long
  | 2 => .array .int
  | 3 => .array .int
  | 4 => .int
  | 5 => .int
  | 6 => .array .int
  | 7 => .array .int
  | 8 => .array .int
  | 9 => .array .int
  | 10 => .array .int
  | 11 => .int
  | _ => .int
abbrev wsX60 : List Cond := u_ws RX6 TX6 13
theorem nmX6 : ∀ a, a < 13 → ∀ b, b < 13 → a ≠ b → (TX6 a).2.1 ≠ (TX6 b).2.1 := by decide +kernel
theorem tyX6_ok : ∀ k, k < 13 → parseFieldDescriptor (TX6 k).2.2.1 = some (tyX6 k) := by decide +kernel
abbrev cX6_init : ByteArray := prog_8_method_1_code
def yX6_init : MethodName := ⟨RX6, "<init>", "()V"⟩
abbrev cX6_addGiven : ByteArray := prog_8_method_2_code
def yX6_addGiven : MethodName := ⟨RX6, "addGiven", "(Ljava/lang/String;)V"⟩
abbrev cX6_half : ByteArray := prog_8_method_3_code
def yX6_half : MethodName := ⟨RX6, "half", "([CII)J"⟩
abbrev cX6_startText : ByteArray := prog_8_method_4_code
def yX6_startText : MethodName := ⟨RX6, "startText", "()V"⟩
abbrev cX6_takeBack : ByteArray := prog_8_method_5_code
def yX6_takeBack : MethodName := ⟨RX6, "takeBack", "()V"⟩
abbrev cX6_take : ByteArray := prog_8_method_6_code
def yX6_take : MethodName := ⟨RX6, "take", "(Z)V"⟩
abbrev cX6_find : ByteArray := prog_8_method_7_code
def yX6_find : MethodName := ⟨RX6, "find", "(JJ)I"⟩
abbrev cX6_addSymbol : ByteArray := prog_8_method_8_code
def yX6_addSymbol : MethodName := ⟨RX6, "addSymbol", "(JJ)I"⟩
abbrev cX6_addName : ByteArray := prog_8_method_9_code
def yX6_addName : MethodName := ⟨RX6, "addName", "(II)I"⟩
abbrev cX6_makeRoom : ByteArray := prog_8_method_10_code
def yX6_makeRoom : MethodName := ⟨RX6, "makeRoom", "()V"⟩
abbrev cX6_has : ByteArray := prog_8_method_11_code
def yX6_has : MethodName := ⟨RX6, "has", "(I)Z"⟩
abbrev cX6_originalOf : ByteArray := prog_8_method_12_code
def yX6_originalOf : MethodName := ⟨RX6, "originalOf", "(I)I"⟩
abbrev cX6_root : ByteArray := prog_8_method_13_code
def yX6_root : MethodName := ⟨RX6, "root", "(I)I"⟩
abbrev cX6_rulesOf : ByteArray := prog_8_method_14_code
def yX6_rulesOf : MethodName := ⟨RX6, "rulesOf", "(I)I"⟩
abbrev cX6_setRules : ByteArray := prog_8_method_15_code
def yX6_setRules : MethodName := ⟨RX6, "setRules", "(II)V"⟩
abbrev cX6_macros : ByteArray := prog_8_method_16_code
def yX6_macros : MethodName := ⟨RX6, "macros", "()I"⟩
abbrev cX6_clearNotes : ByteArray := prog_8_method_17_code
def yX6_clearNotes : MethodName := ⟨RX6, "clearNotes", "()V"⟩
abbrev cX6_isNoted : ByteArray := prog_8_method_18_code
def yX6_isNoted : MethodName := ⟨RX6, "isNoted", "(I)Z"⟩
abbrev cX6_noteOf : ByteArray := prog_8_method_19_code
def yX6_noteOf : MethodName := ⟨RX6, "noteOf", "(I)I"⟩
abbrev cX6_setNote : ByteArray := prog_8_method_20_code
def yX6_setNote : MethodName := ⟨RX6, "setNote", "(II)V"⟩
abbrev cX6_canBeBound : ByteArray := prog_8_method_21_code
def yX6_canBeBound : MethodName := ⟨RX6, "canBeBound", "(I)Z"⟩
def RX7 : String := "MacroScopes$Reader"
def TX7 : u_T := fun k => match k with
  | 0 => ("MacroScopes$Reader", "forms", "LMacroScopes$Forms;", true)
  | 1 => ("MacroScopes$Reader", "names", "LMacroScopes$Names;", true)
  | 2 => ("MacroScopes$Reader", "open", "[I", true)
  | _ => ("MacroScopes$Reader", "opened", "I", false)
def tyX7 : Nat → FieldType := fun k => match k with
  | 0 => .object "MacroScopes$Forms"
  | 1 => .object "MacroScopes$Names"
  | 2 => .array .int
  | _ => .int
abbrev wsX70 : List Cond := u_ws RX7 TX7 4
theorem nmX7 : ∀ a, a < 4 → ∀ b, b < 4 → a ≠ b → (TX7 a).2.1 ≠ (TX7 b).2.1 := by decide +kernel
theorem tyX7_ok : ∀ k, k < 4 → parseFieldDescriptor (TX7 k).2.2.1 = some (tyX7 k) := by decide +kernel
abbrev cX7_init : ByteArray := prog_9_method_1_code
def yX7_init : MethodName := ⟨RX7, "<init>", "(LMacroScopes$Forms;LMacroScopes$Names;)V"⟩
abbrev cX7_addForms : ByteArray := prog_9_method_2_code
def yX7_addForms : MethodName := ⟨RX7, "addForms", "([CI)I"⟩
abbrev cX7_addToken : ByteArray := prog_9_method_3_code
def yX7_addToken : MethodName := ⟨RX7, "addToken", "([CII)I"⟩
abbrev cX7_openList : ByteArray := prog_9_method_4_code
def yX7_openList : MethodName := ⟨RX7, "openList", "()I"⟩
abbrev cX7_closeList : ByteArray := prog_9_method_5_code
def yX7_closeList : MethodName := ⟨RX7, "closeList", "()I"⟩
abbrev cX7_addNumber : ByteArray := prog_9_method_6_code
def yX7_addNumber : MethodName := ⟨RX7, "addNumber", "([CII)I"⟩
abbrev cX7_addSymbol : ByteArray := prog_9_method_7_code
def yX7_addSymbol : MethodName := ⟨RX7, "addSymbol", "([CII)I"⟩
abbrev cX7_tokenFrom : ByteArray := prog_9_method_8_code
def yX7_tokenFrom : MethodName := ⟨RX7, "tokenFrom", "([CII)I"⟩
abbrev cX7_tokenEnd : ByteArray := prog_9_method_9_code
def yX7_tokenEnd : MethodName := ⟨RX7, "tokenEnd", "([CII)I"⟩
abbrev cX7_isBreak : ByteArray := prog_9_method_10_code
def yX7_isBreak : MethodName := ⟨RX7, "isBreak", "(C)Z"⟩
abbrev cX7_isDigits : ByteArray := prog_9_method_11_code
def yX7_isDigits : MethodName := ⟨RX7, "isDigits", "([CII)Z"⟩
abbrev cX7_isNumber : ByteArray := prog_9_method_12_code
def yX7_isNumber : MethodName := ⟨RX7, "isNumber", "([CII)Z"⟩
abbrev cX7_isSymbol : ByteArray := prog_9_method_13_code
def yX7_isSymbol : MethodName := ⟨RX7, "isSymbol", "([CII)Z"⟩
abbrev cX7_symbolOf : ByteArray := prog_9_method_14_code
def yX7_symbolOf : MethodName := ⟨RX7, "symbolOf", "([CII)I"⟩
def RX8 : String := "MacroScopes$RuleCheck"
def TX8 : u_T := fun k => match k with
  | 0 => ("MacroScopes$RuleCheck", "forms", "LMacroScopes$Forms;", true)
  | 1 => ("MacroScopes$RuleCheck", "names", "LMacroScopes$Names;", true)
  | 2 => ("MacroScopes$RuleCheck", "scopes", "LMacroScopes$Scopes;", true)
  | _ => ("MacroScopes$RuleCheck", "literals", "I", false)
def tyX8 : Nat → FieldType := fun k => match k with
  | 0 => .object "MacroScopes$Forms"
  | 1 => .object "MacroScopes$Names"
  | 2 => .object "MacroScopes$Scopes"
  | _ => .int
abbrev wsX80 : List Cond := u_ws RX8 TX8 4
theorem nmX8 : ∀ a, a < 4 → ∀ b, b < 4 → a ≠ b → (TX8 a).2.1 ≠ (TX8 b).2.1 := by decide +kernel
theorem tyX8_ok : ∀ k, k < 4 → parseFieldDescriptor (TX8 k).2.2.1 = some (tyX8 k) := by decide +kernel
abbrev cX8_init : ByteArray := prog_10_method_1_code
def yX8_init : MethodName := ⟨RX8, "<init>", "(LMacroScopes$Forms;LMacroScopes$Names;LMacroScopes$Scopes;)V"⟩
abbrev cX8_fits : ByteArray := prog_10_method_2_code
def yX8_fits : MethodName := ⟨RX8, "fits", "(II)Z"⟩
abbrev cX8_literalsFit : ByteArray := prog_10_method_3_code
def yX8_literalsFit : MethodName := ⟨RX8, "literalsFit", "()Z"⟩
abbrev cX8_ruleFits : ByteArray := prog_10_method_4_code
def yX8_ruleFits : MethodName := ⟨RX8, "ruleFits", "(I)Z"⟩
abbrev cX8_patternsFit : ByteArray := prog_10_method_5_code
def yX8_patternsFit : MethodName := ⟨RX8, "patternsFit", "(III)Z"⟩
abbrev cX8_patternFits : ByteArray := prog_10_method_6_code
def yX8_patternFits : MethodName := ⟨RX8, "patternFits", "(IZI)Z"⟩
abbrev cX8_templateFits : ByteArray := prog_10_method_7_code
def yX8_templateFits : MethodName := ⟨RX8, "templateFits", "(II)Z"⟩
abbrev cX8_holdsRepeated : ByteArray := prog_10_method_8_code
def yX8_holdsRepeated : MethodName := ⟨RX8, "holdsRepeated", "(I)Z"⟩
abbrev cX8_isLiteral : ByteArray := prog_10_method_9_code
def yX8_isLiteral : MethodName := ⟨RX8, "isLiteral", "(LMacroScopes$Forms;II)Z"⟩
def RX9 : String := "MacroScopes$Scopes"
def TX9 : u_T := fun k => match k with
  | 0 => ("MacroScopes$Scopes", "names", "LMacroScopes$Names;", true)
  | 1 => ("MacroScopes$Scopes", "name", "[I", true)
  | 2 => ("MacroScopes$Scopes", "outer", "[I", true)
  | 3 => ("MacroScopes$Scopes", "value", "[I", true)
  | 4 => ("MacroScopes$Scopes", "home", "[I", true)
  | _ => ("MacroScopes$Scopes", "top", "I", false)
def tyX9 : Nat → FieldType := fun k => match k with
  | 0 => .object "MacroScopes$Names"
  | 1 => .array .int
  | 2 => .array .int
  | 3 => .array .int
  | 4 => .array .int
  | _ => .int
abbrev wsX90 : List Cond := u_ws RX9 TX9 6
theorem nmX9 : ∀ a, a < 6 → ∀ b, b < 6 → a ≠ b → (TX9 a).2.1 ≠ (TX9 b).2.1 := by decide +kernel
theorem tyX9_ok : ∀ k, k < 6 → parseFieldDescriptor (TX9 k).2.2.1 = some (tyX9 k) := by decide +kernel
abbrev cX9_init : ByteArray := prog_11_method_1_code
def yX9_init : MethodName := ⟨RX9, "<init>", "(LMacroScopes$Names;)V"⟩
abbrev cX9_bindVariable : ByteArray := prog_11_method_2_code
def yX9_bindVariable : MethodName := ⟨RX9, "bindVariable", "(II)V"⟩
abbrev cX9_bindMacro : ByteArray := prog_11_method_3_code
def yX9_bindMacro : MethodName := ⟨RX9, "bindMacro", "(III)V"⟩
abbrev cX9_bind : ByteArray := prog_11_method_4_code
def yX9_bind : MethodName := ⟨RX9, "bind", "(III)V"⟩
abbrev cX9_isBoundSince : ByteArray := prog_11_method_5_code
def yX9_isBoundSince : MethodName := ⟨RX9, "isBoundSince", "(II)Z"⟩
abbrev cX9_leaveTo : ByteArray := prog_11_method_6_code
def yX9_leaveTo : MethodName := ⟨RX9, "leaveTo", "(I)V"⟩
abbrev cX9_meaning : ByteArray := prog_11_method_7_code
def yX9_meaning : MethodName := ⟨RX9, "meaning", "(II)I"⟩
abbrev cX9_isWord : ByteArray := prog_11_method_8_code
def yX9_isWord : MethodName := ⟨RX9, "isWord", "(I)Z"⟩
abbrev cX9_isMacro : ByteArray := prog_11_method_9_code
def yX9_isMacro : MethodName := ⟨RX9, "isMacro", "(I)Z"⟩
abbrev cX9_rulesOf : ByteArray := prog_11_method_10_code
def yX9_rulesOf : MethodName := ⟨RX9, "rulesOf", "(I)I"⟩
abbrev cX9_homeOf : ByteArray := prog_11_method_11_code
def yX9_homeOf : MethodName := ⟨RX9, "homeOf", "(I)I"⟩
def RX10 : String := "MacroScopes$Told"
def TX10 : u_T := fun k => match k with
  | 0 => ("MacroScopes$Told", "taken", "[C", false)
  | 1 => ("MacroScopes$Told", "takenLength", "I", false)
  | 2 => ("MacroScopes$Told", "text", "[C", false)
  | 3 => ("MacroScopes$Told", "length", "I", false)
  | _ => ("MacroScopes$Told", "last", "C", false)
def tyX10 : Nat → FieldType := fun k => match k with
  | 0 => .array .char
  | 1 => .int
  | 2 => .array .char
  | 3 => .int
  | _ => .char
abbrev wsX100 : List Cond := u_ws RX10 TX10 5
theorem nmX10 : ∀ a, a < 5 → ∀ b, b < 5 → a ≠ b → (TX10 a).2.1 ≠ (TX10 b).2.1 := by decide +kernel
theorem tyX10_ok : ∀ k, k < 5 → parseFieldDescriptor (TX10 k).2.2.1 = some (tyX10 k) := by decide +kernel
abbrev cX10_init : ByteArray := prog_12_method_1_code
def yX10_init : MethodName := ⟨RX10, "<init>", "()V"⟩
abbrev cX10_startText : ByteArray := prog_12_method_2_code
def yX10_startText : MethodName := ⟨RX10, "startText", "()V"⟩
abbrev cX10_take : ByteArray := prog_12_method_3_code
def yX10_take : MethodName := ⟨RX10, "take", "()V"⟩
abbrev cX10_add : ByteArray := prog_12_method_4_code
def yX10_add : MethodName := ⟨RX10, "add", "(C)V"⟩
abbrev cX10_addBlank : ByteArray := prog_12_method_5_code
def yX10_addBlank : MethodName := ⟨RX10, "addBlank", "()V"⟩
abbrev cX10_open : ByteArray := prog_12_method_6_code
def yX10_open : MethodName := ⟨RX10, "open", "()V"⟩
abbrev cX10_close : ByteArray := prog_12_method_7_code
def yX10_close : MethodName := ⟨RX10, "close", "()V"⟩
abbrev cX10_addNumber : ByteArray := prog_12_method_8_code
def yX10_addNumber : MethodName := ⟨RX10, "addNumber", "(I)V"⟩
abbrev cX10_addVariable : ByteArray := prog_12_method_9_code
def yX10_addVariable : MethodName := ⟨RX10, "addVariable", "(I)V"⟩
abbrev cX10_addDigits : ByteArray := prog_12_method_10_code
def yX10_addDigits : MethodName := ⟨RX10, "addDigits", "(I)V"⟩
abbrev cX10_addSymbol : ByteArray := prog_12_method_11_code
def yX10_addSymbol : MethodName := ⟨RX10, "addSymbol", "(LMacroScopes$Names;I)V"⟩
abbrev cX10_addHalf : ByteArray := prog_12_method_12_code
def yX10_addHalf : MethodName := ⟨RX10, "addHalf", "(J)V"⟩
abbrev cX10_at : ByteArray := prog_12_method_13_code
def yX10_at : MethodName := ⟨RX10, "at", "(I)I"⟩
abbrev cX10_canBeRead : ByteArray := prog_12_method_14_code
def yX10_canBeRead : MethodName := ⟨RX10, "canBeRead", "()Z"⟩
def RX11 : String := "MacroScopes"
def TX11 : u_T := fun k => match k with
  | 0 => ("MacroScopes", "typed", "[C", true)
  | 1 => ("MacroScopes", "names", "LMacroScopes$Names;", true)
  | 2 => ("MacroScopes", "forms", "LMacroScopes$Forms;", true)
  | 3 => ("MacroScopes", "told", "LMacroScopes$Told;", true)
  | 4 => ("MacroScopes", "reader", "LMacroScopes$Reader;", true)
  | 5 => ("MacroScopes", "expander", "LMacroScopes$Expander;", true)
  | 6 => ("MacroScopes", "typedLength", "I", false)
  | 7 => ("MacroScopes", "place", "I", false)
  | 8 => ("MacroScopes", "uses", "I", false)
  | 9 => ("MacroScopes", "variables", "I", false)
  | _ => ("MacroScopes", "topForms", "I", false)
def tyX11 : Nat → FieldType := fun k => match k with
  | 0 => .array .char
  | 1 => .object "MacroScopes$Names"
  | 2 => .object "MacroScopes$Forms"
  | 3 => .object "MacroScopes$Told"
  | 4 => .object "MacroScopes$Reader"
  | 5 => .object "MacroScopes$Expander"
  | 6 => .int
  | 7 => .int
  | 8 => .int
  | 9 => .int
  | _ => .int
abbrev wsX110 : List Cond := u_ws RX11 TX11 11
theorem nmX11 : ∀ a, a < 11 → ∀ b, b < 11 → a ≠ b → (TX11 a).2.1 ≠ (TX11 b).2.1 := by decide +kernel
theorem tyX11_ok : ∀ k, k < 11 → parseFieldDescriptor (TX11 k).2.2.1 = some (tyX11 k) := by decide +kernel
abbrev cX11_init : ByteArray := prog_1_method_1_code
def yX11_init : MethodName := ⟨RX11, "<init>", "()V"⟩
abbrev cX11_type : ByteArray := prog_1_method_2_code
def yX11_type : MethodName := ⟨RX11, "type", "(JI)I"⟩
abbrev cX11_read : ByteArray := prog_1_method_3_code
def yX11_read : MethodName := ⟨RX11, "read", "()I"⟩
abbrev cX11_place : ByteArray := prog_1_method_4_code
def yX11_place : MethodName := ⟨RX11, "place", "()I"⟩
abbrev cX11_count : ByteArray := prog_1_method_5_code
def yX11_count : MethodName := ⟨RX11, "count", "(I)I"⟩
abbrev cX11_character : ByteArray := prog_1_method_6_code
def yX11_character : MethodName := ⟨RX11, "character", "(I)I"⟩
abbrev cX11_means : ByteArray := prog_1_method_7_code
def yX11_means : MethodName := ⟨RX11, "means", "()I"⟩
abbrev cX11_check : ByteArray := prog_1_method_8_code
def yX11_check : MethodName := ⟨RX11, "check", "()I"⟩
abbrev cX11_byteOf : ByteArray := prog_1_method_9_code
def yX11_byteOf : MethodName := ⟨RX11, "byteOf", "(JI)I"⟩
abbrev cX11_takeText : ByteArray := prog_1_method_10_code
def yX11_takeText : MethodName := ⟨RX11, "takeText", "(Z)V"⟩
def RX12 : String := "MacroScopesModel"
def TX12 : u_T := fun k => match k with
  | 0 => ("MacroScopesModel", "thrown", "I", false)
  | 1 => ("MacroScopesModel", "text", "[B", true)
  | 2 => ("MacroScopesModel", "length", "I", false)
  | 3 => ("MacroScopesModel", "place", "I", false)
  | 4 => ("MacroScopesModel", "letters", "[B", true)
  | 5 => ("MacroScopesModel", "letterFrom", "[I", true)
  | 6 => ("MacroScopesModel", "symbols", "I", false)
  | 7 => ("MacroScopesModel", "defined", "[I", true)
  | 8 => ("MacroScopesModel", "definedBefore", "[I", true)
  | 9 => ("MacroScopesModel", "ruleSize", "I", false)
  | 10 => ("MacroScopesModel", "kinds", "[B", true)
  | 11 => ("MacroScopesModel", "values", "[I", true)
  | 12 => ("MacroScopesModel", "counts", "[I", true)
  | 13 => ("MacroScopesModel", "parts", "[I", true)
  | 14 => ("MacroScopesModel", "forms", "I", false)
  | 15 => ("MacroScopesModel", "partCount", "I", false)
  | 16 => ("MacroScopesModel", "staying", "I", false)
  | 17 => ("MacroScopesModel", "stayingParts", "I", false)
  | 18 => ("MacroScopesModel", "aliasFor", "[I", true)
  | 19 => ("MacroScopesModel", "aliasIn", "[I", true)
  | 20 => ("MacroScopesModel", "aliases", "I", false)
  | 21 => ("MacroScopesModel", "around", "[I", true)
  | 22 => ("MacroScopesModel", "bindingFrom", "[I", true)
  | 23 => ("MacroScopesModel", "environments", "I", false)
  | 24 => ("MacroScopesModel", "boundNames", "[I", true)
  | 25 => ("MacroScopesModel", "variableOf", "[I", true)
  | 26 => ("MacroScopesModel", "rulesOf", "[I", true)
  | 27 => ("MacroScopesModel", "bindings", "I", false)
  | 28 => ("MacroScopesModel", "tasks", "[B", true)
  | 29 => ("MacroScopesModel", "taskForms", "[I", true)
  | 30 => ("MacroScopesModel", "taskIn", "[I", true)
  | 31 => ("MacroScopesModel", "taskDeep", "[I", true)
  | 32 => ("MacroScopesModel", "todo", "I", false)
  | 33 => ("MacroScopesModel", "fault", "I", false)
  | 34 => ("MacroScopesModel", "variables", "I", false)
  | 35 => ("MacroScopesModel", "uses", "I", false)
  | 36 => ("MacroScopesModel", "binders", "I", false)
  | 37 => ("MacroScopesModel", "told", "[B", true)
  | 38 => ("MacroScopesModel", "toldSize", "I", false)
  | 39 => ("MacroScopesModel", "kept", "[B", true)
  | 40 => ("MacroScopesModel", "keptSize", "I", false)
  | 41 => ("MacroScopesModel", "keptUses", "I", false)
  | 42 => ("MacroScopesModel", "keptVariables", "I", false)
  | 43 => ("MacroScopesModel", "keptTops", "I", false)
  | 44 => ("MacroScopesModel", "waiting", "[I", true)
  | 45 => ("MacroScopesModel", "waits", "I", false)
  | 46 => ("MacroScopesModel", "opened", "[I", true)
  | 47 => ("MacroScopesModel", "variableNames", "[I", true)
  | 48 => ("MacroScopesModel", "repeated", "[Z", true)
  | 49 => ("MacroScopesModel", "variableCount", "I", false)
  | 50 => ("MacroScopesModel", "look", "[I", true)
  | 51 => ("MacroScopesModel", "lookHow", "[I", true)
  | 52 => ("MacroScopesModel", "lookOther", "[I", true)
  | 53 => ("MacroScopesModel", "looks", "I", false)
  | 54 => ("MacroScopesModel", "inner", "[I", true)
  | 55 => ("MacroScopesModel", "matchFrom", "[I", true)
  | 56 => ("MacroScopesModel", "matchCount", "[I", true)
  | 57 => ("MacroScopesModel", "matched", "[I", true)
  | 58 => ("MacroScopesModel", "copyKinds", "[B", true)
  | 59 => ("MacroScopesModel", "copyValues", "[I", true)
  | 60 => ("MacroScopesModel", "copyCounts", "[I", true)
  | 61 => ("MacroScopesModel", "copyParts", "[I", true)
  | 62 => ("MacroScopesModel", "copies", "I", false)
  | _ => ("MacroScopesModel", "copiedParts", "I", false)
def tyX12 : Nat → FieldType := fun k => match k with
  | 0 => .int
  | 1 => .array .byte
  | 2 => .int
  | 3 => .int
  | 4 => .array .byte
  | 5 => .array .int
  | 6 => .int
  | 7 => .array .int
  | 8 => .array .int
  | 9 => .int
  | 10 => .array .byte
  | 11 => .array .int
  | 12 => .array .int
  | 13 => .array .int
  | 14 => .int
  | 15 => .int
  | 16 => .int
  | 17 => .int
  | 18 => .array .int
  | 19 => .array .int
  | 20 => .int
  | 21 => .array .int
  | 22 => .array .int
  | 23 => .int
  | 24 => .array .int
  | 25 => .array .int
  | 26 => .array .int
  | 27 => .int
  | 28 => .array .byte
  | 29 => .array .int
  | 30 => .array .int
  | 31 => .array .int
  | 32 => .int
  | 33 => .int
  | 34 => .int
  | 35 => .int
  | 36 => .int
  | 37 => .array .byte
  | 38 => .int
  | 39 => .array .byte
  | 40 => .int
  | 41 => .int
  | 42 => .int
  | 43 => .int
  | 44 => .array .int
  | 45 => .int
  | 46 => .array .int
  | 47 => .array .int
  | 48 => .array .boolean
  | 49 => .int
  | 50 => .array .int
  | 51 => .array .int
  | 52 => .array .int
  | 53 => .int
  | 54 => .array .int
  | 55 => .array .int
  | 56 => .array .int
  | 57 => .array .int
  | 58 => .array .byte
  | 59 => .array .int
  | 60 => .array .int
  | 61 => .array .int
  | 62 => .int
  | _ => .int
abbrev wsX120 : List Cond := u_ws RX12 TX12 64
theorem nmX12 : ∀ a, a < 64 → ∀ b, b < 64 → a ≠ b → (TX12 a).2.1 ≠ (TX12 b).2.1 := by decide +kernel
theorem tyX12_ok : ∀ k, k < 64 → parseFieldDescriptor (TX12 k).2.2.1 = some (tyX12 k) := by decide +kernel
abbrev cX12_init : ByteArray := prog_14_method_1_code
def yX12_init : MethodName := ⟨RX12, "<init>", "()V"⟩
abbrev cX12_word : ByteArray := prog_14_method_2_code
def yX12_word : MethodName := ⟨RX12, "word", "(JI)V"⟩
abbrev cX12_more : ByteArray := prog_14_method_3_code
def yX12_more : MethodName := ⟨RX12, "more", "(JI)V"⟩
abbrev cX12_type : ByteArray := prog_14_method_5_code
def yX12_type : MethodName := ⟨RX12, "type", "(JI)I"⟩
abbrev cX12_rootOf : ByteArray := prog_14_method_6_code
def yX12_rootOf : MethodName := ⟨RX12, "rootOf", "(I)I"⟩
abbrev cX12_meaning : ByteArray := prog_14_method_7_code
def yX12_meaning : MethodName := ⟨RX12, "meaning", "(II)I"⟩
abbrev cX12_isName : ByteArray := prog_14_method_8_code
def yX12_isName : MethodName := ⟨RX12, "isName", "(I)Z"⟩
abbrev cX12_isList : ByteArray := prog_14_method_9_code
def yX12_isList : MethodName := ⟨RX12, "isList", "(II)Z"⟩
abbrev cX12_part : ByteArray := prog_14_method_10_code
def yX12_part : MethodName := ⟨RX12, "part", "(II)I"⟩
abbrev cX12_isFrom : ByteArray := prog_14_method_11_code
def yX12_isFrom : MethodName := ⟨RX12, "isFrom", "(II)Z"⟩
abbrev cX12_isBindable : ByteArray := prog_14_method_12_code
def yX12_isBindable : MethodName := ⟨RX12, "isBindable", "(I)Z"⟩
abbrev cX12_isEllipsis : ByteArray := prog_14_method_13_code
def yX12_isEllipsis : MethodName := ⟨RX12, "isEllipsis", "(II)Z"⟩
abbrev cX12_newForm : ByteArray := prog_14_method_14_code
def yX12_newForm : MethodName := ⟨RX12, "newForm", "(III)I"⟩
abbrev cX12_isSymbol : ByteArray := prog_14_method_15_code
def yX12_isSymbol : MethodName := ⟨RX12, "isSymbol", "(III)Z"⟩
abbrev cX12_symbolAt : ByteArray := prog_14_method_16_code
def yX12_symbolAt : MethodName := ⟨RX12, "symbolAt", "(II)I"⟩
abbrev cX12_token : ByteArray := prog_14_method_17_code
def yX12_token : MethodName := ⟨RX12, "token", "(II)Z"⟩
abbrev cX12_parse : ByteArray := prog_14_method_18_code
def yX12_parse : MethodName := ⟨RX12, "parse", "()Z"⟩
abbrev cX12_endList : ByteArray := prog_14_method_19_code
def yX12_endList : MethodName := ⟨RX12, "endList", "(I)V"⟩
abbrev cX12_say : ByteArray := prog_14_method_20_code
def yX12_say : MethodName := ⟨RX12, "say", "(I)V"⟩
abbrev cX12_sayNumber : ByteArray := prog_14_method_21_code
def yX12_sayNumber : MethodName := ⟨RX12, "sayNumber", "(I)V"⟩
abbrev cX12_saySymbol : ByteArray := prog_14_method_22_code
def yX12_saySymbol : MethodName := ⟨RX12, "saySymbol", "(I)V"⟩
abbrev cX12_task : ByteArray := prog_14_method_23_code
def yX12_task : MethodName := ⟨RX12, "task", "(IIII)V"⟩
abbrev cX12_taskParts : ByteArray := prog_14_method_24_code
def yX12_taskParts : MethodName := ⟨RX12, "taskParts", "(IIIII)V"⟩
abbrev cX12_fail : ByteArray := prog_14_method_25_code
def yX12_fail : MethodName := ⟨RX12, "fail", "(I)V"⟩
abbrev cX12_need : ByteArray := prog_14_method_26_code
def yX12_need : MethodName := ⟨RX12, "need", "(ZI)Z"⟩
abbrev cX12_sayPlain : ByteArray := prog_14_method_27_code
def yX12_sayPlain : MethodName := ⟨RX12, "sayPlain", "(I)V"⟩
abbrev cX12_sayName : ByteArray := prog_14_method_28_code
def yX12_sayName : MethodName := ⟨RX12, "sayName", "(II)V"⟩
abbrev cX12_expand : ByteArray := prog_14_method_29_code
def yX12_expand : MethodName := ⟨RX12, "expand", "(III)V"⟩
abbrev cX12_expandList : ByteArray := prog_14_method_30_code
def yX12_expandList : MethodName := ⟨RX12, "expandList", "(III)V"⟩
abbrev cX12_environmentOf : ByteArray := prog_14_method_31_code
def yX12_environmentOf : MethodName := ⟨RX12, "environmentOf", "(I)I"⟩
abbrev cX12_expandWord : ByteArray := prog_14_method_32_code
def yX12_expandWord : MethodName := ⟨RX12, "expandWord", "(IIII)V"⟩
abbrev cX12_bind : ByteArray := prog_14_method_33_code
def yX12_bind : MethodName := ⟨RX12, "bind", "(III)V"⟩
abbrev cX12_newEnvironment : ByteArray := prog_14_method_34_code
def yX12_newEnvironment : MethodName := ⟨RX12, "newEnvironment", "(I)I"⟩
abbrev cX12_lambda : ByteArray := prog_14_method_35_code
def yX12_lambda : MethodName := ⟨RX12, "lambda", "(III)V"⟩
abbrev cX12_letSyntax : ByteArray := prog_14_method_36_code
def yX12_letSyntax : MethodName := ⟨RX12, "letSyntax", "(III)V"⟩
abbrev cX12_lookAt : ByteArray := prog_14_method_37_code
def yX12_lookAt : MethodName := ⟨RX12, "lookAt", "(III)V"⟩
abbrev cX12_isLiteral : ByteArray := prog_14_method_38_code
def yX12_isLiteral : MethodName := ⟨RX12, "isLiteral", "(II)Z"⟩
abbrev cX12_variable : ByteArray := prog_14_method_39_code
def yX12_variable : MethodName := ⟨RX12, "variable", "(I)I"⟩
abbrev cX12_areRules : ByteArray := prog_14_method_40_code
def yX12_areRules : MethodName := ⟨RX12, "areRules", "(II)Z"⟩
abbrev cX12_isPattern : ByteArray := prog_14_method_41_code
def yX12_isPattern : MethodName := ⟨RX12, "isPattern", "(II)Z"⟩
abbrev cX12_isRepeated : ByteArray := prog_14_method_42_code
def yX12_isRepeated : MethodName := ⟨RX12, "isRepeated", "(I)Z"⟩
abbrev cX12_hasRepeated : ByteArray := prog_14_method_43_code
def yX12_hasRepeated : MethodName := ⟨RX12, "hasRepeated", "(I)Z"⟩
abbrev cX12_isTemplate : ByteArray := prog_14_method_44_code
def yX12_isTemplate : MethodName := ⟨RX12, "isTemplate", "(I)Z"⟩
abbrev cX12_matches : ByteArray := prog_14_method_45_code
def yX12_matches : MethodName := ⟨RX12, "matches", "(IIIII)Z"⟩
abbrev cX12_lookAtParts : ByteArray := prog_14_method_46_code
def yX12_lookAtParts : MethodName := ⟨RX12, "lookAtParts", "(III)Z"⟩
abbrev cX12_setCounts : ByteArray := prog_14_method_47_code
def yX12_setCounts : MethodName := ⟨RX12, "setCounts", "(II)V"⟩
abbrev cX12_keepMatches : ByteArray := prog_14_method_48_code
def yX12_keepMatches : MethodName := ⟨RX12, "keepMatches", "(II)V"⟩
abbrev cX12_keepParts : ByteArray := prog_14_method_49_code
def yX12_keepParts : MethodName := ⟨RX12, "keepParts", "(IIII)V"⟩
abbrev cX12_use : ByteArray := prog_14_method_50_code
def yX12_use : MethodName := ⟨RX12, "use", "(IIIII)V"⟩
abbrev cX12_turnsOf : ByteArray := prog_14_method_51_code
def yX12_turnsOf : MethodName := ⟨RX12, "turnsOf", "(I)I"⟩
abbrev cX12_areCountsAlike : ByteArray := prog_14_method_52_code
def yX12_areCountsAlike : MethodName := ⟨RX12, "areCountsAlike", "(I)Z"⟩
abbrev cX12_sizeOf : ByteArray := prog_14_method_53_code
def yX12_sizeOf : MethodName := ⟨RX12, "sizeOf", "(I)I"⟩
abbrev cX12_nested : ByteArray := prog_14_method_54_code
def yX12_nested : MethodName := ⟨RX12, "nested", "(I)I"⟩
abbrev cX12_sizeMade : ByteArray := prog_14_method_55_code
def yX12_sizeMade : MethodName := ⟨RX12, "sizeMade", "(I)I"⟩
abbrev cX12_alias : ByteArray := prog_14_method_56_code
def yX12_alias : MethodName := ⟨RX12, "alias", "(III)I"⟩
abbrev cX12_begin : ByteArray := prog_14_method_57_code
def yX12_begin : MethodName := ⟨RX12, "begin", "(IIII)I"⟩
abbrev cX12_make : ByteArray := prog_14_method_58_code
def yX12_make : MethodName := ⟨RX12, "make", "(II)I"⟩
abbrev cX12_isDefinition : ByteArray := prog_14_method_59_code
def yX12_isDefinition : MethodName := ⟨RX12, "isDefinition", "(II)Z"⟩
abbrev cX12_doAll : ByteArray := prog_14_method_60_code
def yX12_doAll : MethodName := ⟨RX12, "doAll", "()V"⟩
abbrev cX12_defineSyntax : ByteArray := prog_14_method_61_code
def yX12_defineSyntax : MethodName := ⟨RX12, "defineSyntax", "(II)V"⟩
abbrev cX12_top : ByteArray := prog_14_method_62_code
def yX12_top : MethodName := ⟨RX12, "top", "(I)V"⟩
abbrev cX12_beginText : ByteArray := prog_14_method_63_code
def yX12_beginText : MethodName := ⟨RX12, "beginText", "()V"⟩
abbrev cX12_read : ByteArray := prog_14_method_64_code
def yX12_read : MethodName := ⟨RX12, "read", "()I"⟩
abbrev cX12_copyOne : ByteArray := prog_14_method_65_code
def yX12_copyOne : MethodName := ⟨RX12, "copyOne", "(I)I"⟩
abbrev cX12_stay : ByteArray := prog_14_method_66_code
def yX12_stay : MethodName := ⟨RX12, "stay", "()V"⟩
abbrev cX12_place : ByteArray := prog_14_method_67_code
def yX12_place : MethodName := ⟨RX12, "place", "()I"⟩
abbrev cX12_count : ByteArray := prog_14_method_68_code
def yX12_count : MethodName := ⟨RX12, "count", "(I)I"⟩
abbrev cX12_character : ByteArray := prog_14_method_69_code
def yX12_character : MethodName := ⟨RX12, "character", "(I)I"⟩
abbrev cX12_means : ByteArray := prog_14_method_70_code
def yX12_means : MethodName := ⟨RX12, "means", "()I"⟩
abbrev cX12_check : ByteArray := prog_14_method_71_code
def yX12_check : MethodName := ⟨RX12, "check", "()I"⟩
def RJx8e188 : String := "java/lang/Cloneable"
def TJx8e188 : u_T := fun k => match k with
  | _ => ("", "", "", false)
def tyJx8e188 : Nat → FieldType := fun k => match k with
  | _ => .int
abbrev wsJx8e1880 : List Cond := u_ws RJx8e188 TJx8e188 0
theorem nmJx8e188 : ∀ a, a < 0 → ∀ b, b < 0 → a ≠ b → (TJx8e188 a).2.1 ≠ (TJx8e188 b).2.1 := by decide +kernel
theorem tyJx8e188_ok : ∀ k, k < 0 → parseFieldDescriptor (TJx8e188 k).2.2.1 = some (tyJx8e188 k) := by decide +kernel
def RJ9 : String := "java/lang/Math"
def TJ9 : u_T := fun k => match k with
  | _ => ("", "", "", false)
def tyJ9 : Nat → FieldType := fun k => match k with
  | _ => .int
abbrev wsJ90 : List Cond := u_ws RJ9 TJ9 0
theorem nmJ9 : ∀ a, a < 0 → ∀ b, b < 0 → a ≠ b → (TJ9 a).2.1 ≠ (TJ9 b).2.1 := by decide +kernel
theorem tyJ9_ok : ∀ k, k < 0 → parseFieldDescriptor (TJ9 k).2.2.1 = some (tyJ9 k) := by decide +kernel
abbrev cJ9_max_7cf53 : ByteArray := prog_16_method_65_code
def yJ9_max_7cf53 : MethodName := ⟨RJ9, "max", "(II)I"⟩
abbrev cJ9_min_7cf53 : ByteArray := prog_16_method_69_code
def yJ9_min_7cf53 : MethodName := ⟨RJ9, "min", "(II)I"⟩
def RJ0 : String := "java/lang/String"
def TJ0 : u_T := fun k => match k with
  | _ => ("", "", "", false)
def tyJ0 : Nat → FieldType := fun k => match k with
  | _ => .int
abbrev wsJ00 : List Cond := u_ws RJ0 TJ0 0
theorem nmJ0 : ∀ a, a < 0 → ∀ b, b < 0 → a ≠ b → (TJ0 a).2.1 ≠ (TJ0 b).2.1 := by decide +kernel
theorem tyJ0_ok : ∀ k, k < 0 → parseFieldDescriptor (TJ0 k).2.2.1 = some (tyJ0 k) := by decide +kernel
abbrev cJ0_toCharArray_70df3 : ByteArray := prog_17_method_129_code
def yJ0_toCharArray_70df3 : MethodName := ⟨RJ0, "toCharArray", "()[C"⟩
abbrev cJ0_isLatin1_aae02 : ByteArray := prog_17_method_154_code
def yJ0_isLatin1_aae02 : MethodName := ⟨RJ0, "isLatin1", "()Z"⟩
abbrev cJ0_checkBoundsOffCount_cabcc : ByteArray := prog_17_method_157_code
def yJ0_checkBoundsOffCount_cabcc : MethodName := ⟨RJ0, "checkBoundsOffCount", "(III)I"⟩
def RJ1 : String := "java/lang/StringLatin1"
def TJ1 : u_T := fun k => match k with
  | _ => ("", "", "", false)
def tyJ1 : Nat → FieldType := fun k => match k with
  | _ => .int
abbrev wsJ10 : List Cond := u_ws RJ1 TJ1 0
theorem nmJ1 : ∀ a, a < 0 → ∀ b, b < 0 → a ≠ b → (TJ1 a).2.1 ≠ (TJ1 b).2.1 := by decide +kernel
theorem tyJ1_ok : ∀ k, k < 0 → parseFieldDescriptor (TJ1 k).2.2.1 = some (tyJ1 k) := by decide +kernel
abbrev cJ1_toChars_9d188 : ByteArray := prog_18_method_9_code
def yJ1_toChars_9d188 : MethodName := ⟨RJ1, "toChars", "([B)[C"⟩
abbrev cJ1_inflate_03870 : ByteArray := prog_18_method_49_code
def yJ1_inflate_03870 : MethodName := ⟨RJ1, "inflate", "([BI[CII)V"⟩
def RJ2 : String := "java/lang/StringUTF16"
def TJ2 : u_T := fun k => match k with
  | _ => ("", "", "", false)
def tyJ2 : Nat → FieldType := fun k => match k with
  | _ => .int
abbrev wsJ20 : List Cond := u_ws RJ2 TJ2 0
theorem nmJ2 : ∀ a, a < 0 → ∀ b, b < 0 → a ≠ b → (TJ2 a).2.1 ≠ (TJ2 b).2.1 := by decide +kernel
theorem tyJ2_ok : ∀ k, k < 0 → parseFieldDescriptor (TJ2 k).2.2.1 = some (tyJ2 k) := by decide +kernel
abbrev cJ2_getChar_3b067 : ByteArray := prog_19_method_5_code
def yJ2_getChar_3b067 : MethodName := ⟨RJ2, "getChar", "([BI)C"⟩
abbrev cJ2_length_9d52b : ByteArray := prog_19_method_6_code
def yJ2_length_9d52b : MethodName := ⟨RJ2, "length", "([B)I"⟩
abbrev cJ2_toChars_9d188 : ByteArray := prog_19_method_13_code
def yJ2_toChars_9d188 : MethodName := ⟨RJ2, "toChars", "([B)[C"⟩
abbrev cJ2_getChars_a1a8b : ByteArray := prog_19_method_26_code
def yJ2_getChars_a1a8b : MethodName := ⟨RJ2, "getChars", "([BII[CI)V"⟩
abbrev cJ2_checkBoundsOffCount_d044e : ByteArray := prog_19_method_94_code
def yJ2_checkBoundsOffCount_d044e : MethodName := ⟨RJ2, "checkBoundsOffCount", "(II[B)V"⟩
def RJ10 : String := "java/lang/System"
def TJ10 : u_T := fun k => match k with
  | _ => ("", "", "", false)
def tyJ10 : Nat → FieldType := fun k => match k with
  | _ => .int
abbrev wsJ100 : List Cond := u_ws RJ10 TJ10 0
theorem nmJ10 : ∀ a, a < 0 → ∀ b, b < 0 → a ≠ b → (TJ10 a).2.1 ≠ (TJ10 b).2.1 := by decide +kernel
theorem tyJ10_ok : ∀ k, k < 0 → parseFieldDescriptor (TJ10 k).2.2.1 = some (tyJ10 k) := by decide +kernel
def RJ7 : String := "java/util/Arrays"
def TJ7 : u_T := fun k => match k with
  | _ => ("", "", "", false)
def tyJ7 : Nat → FieldType := fun k => match k with
  | _ => .int
abbrev wsJ70 : List Cond := u_ws RJ7 TJ7 0
theorem nmJ7 : ∀ a, a < 0 → ∀ b, b < 0 → a ≠ b → (TJ7 a).2.1 ≠ (TJ7 b).2.1 := by decide +kernel
theorem tyJ7_ok : ∀ k, k < 0 → parseFieldDescriptor (TJ7 k).2.2.1 = some (tyJ7 k) := by decide +kernel
abbrev cJ7_copyOf_59c91 : ByteArray := prog_21_method_123_code
def yJ7_copyOf_59c91 : MethodName := ⟨RJ7, "copyOf", "([II)[I"⟩
def RJ3 : String := "jdk/internal/util/Preconditions"
def TJ3 : u_T := fun k => match k with
  | _ => ("", "", "", false)
def tyJ3 : Nat → FieldType := fun k => match k with
  | _ => .int
abbrev wsJ30 : List Cond := u_ws RJ3 TJ3 0
theorem nmJ3 : ∀ a, a < 0 → ∀ b, b < 0 → a ≠ b → (TJ3 a).2.1 ≠ (TJ3 b).2.1 := by decide +kernel
theorem tyJ3_ok : ∀ k, k < 0 → parseFieldDescriptor (TJ3 k).2.2.1 = some (tyJ3 k) := by decide +kernel
abbrev cJ3_checkFromIndexSize_8c36e : ByteArray := prog_22_method_13_code
def yJ3_checkFromIndexSize_8c36e : MethodName := ⟨RJ3, "checkFromIndexSize", "(IIILjava/util/function/BiFunction;)I"⟩
def RL : String := "MacroScopesLaw"
abbrev cL_law : ByteArray := code
def yL_law : MethodName := ⟨RL, "law", "([I)Z"⟩
def wsX2_init : List Cond := .code yX2_init cX2_init 1 none :: ([.methodLink RX2 3 objectInit, .instanceMethod objectInit, .code objectInit ⟨#[0xb1]⟩ 1 none, .arrayClass .int, .fieldLink RX2 11 "MacroScopes$Frames" "next" "[I", .fieldLink RX2 15 "MacroScopes$Frames" "end" "[I", .arrayClass .boolean, .fieldLink RX2 18 "MacroScopes$Frames" "closes" "[Z", .fieldLink RX2 22 "MacroScopes$Frames" "formsBefore" "[I", .fieldLink RX2 25 "MacroScopes$Frames" "namesBefore" "[I", .fieldLink RX2 28 "MacroScopes$Frames" "scopesBefore" "[I", .fieldLink RX2 31 "MacroScopes$Frames" "top" "I"] ++ wsX20)
def wsX5_init : List Cond := .code yX5_init cX5_init 1 none :: ([.methodLink RX5 3 objectInit, .instanceMethod objectInit, .code objectInit ⟨#[0xb1]⟩ 1 none, .arrayClass .int, .fieldLink RX5 9 "MacroScopes$Matches" "first" "[I", .fieldLink RX5 15 "MacroScopes$Matches" "apart" "[I", .fieldLink RX5 18 "MacroScopes$Matches" "times" "[I", .fieldLink RX5 21 "MacroScopes$Matches" "matched" "[I", .fieldLink RX5 24 "MacroScopes$Matches" "variables" "I", .fieldLink RX5 28 "MacroScopes$Matches" "forms" "I"] ++ wsX50)
def wsX9_init : List Cond := .code yX9_init cX9_init 2 none :: ([.methodLink RX9 3 objectInit, .instanceMethod objectInit, .code objectInit ⟨#[0xb1]⟩ 1 none, .arrayClass .int, .fieldLink RX9 11 "MacroScopes$Scopes" "name" "[I", .fieldLink RX9 15 "MacroScopes$Scopes" "outer" "[I", .fieldLink RX9 18 "MacroScopes$Scopes" "value" "[I", .fieldLink RX9 21 "MacroScopes$Scopes" "home" "[I", .fieldLink RX9 24 "MacroScopes$Scopes" "top" "I", .fieldLink RX9 28 "MacroScopes$Scopes" "names" "LMacroScopes$Names;"] ++ wsX90)
def wsX8_init : List Cond := .code yX8_init cX8_init 4 none :: ([.methodLink RX8 3 objectInit, .instanceMethod objectInit, .code objectInit ⟨#[0xb1]⟩ 1 none, .fieldLink RX8 9 "MacroScopes$RuleCheck" "literals" "I", .fieldLink RX8 15 "MacroScopes$RuleCheck" "forms" "LMacroScopes$Forms;", .fieldLink RX8 19 "MacroScopes$RuleCheck" "names" "LMacroScopes$Names;", .fieldLink RX8 23 "MacroScopes$RuleCheck" "scopes" "LMacroScopes$Scopes;"] ++ wsX80)
def wsX4_init : List Cond := .code yX4_init cX4_init 5 none :: ([.methodLink RX4 3 objectInit, .instanceMethod objectInit, .code objectInit ⟨#[0xb1]⟩ 1 none, .fieldLink RX4 9 "MacroScopes$Matcher" "literals" "I", .fieldLink RX4 15 "MacroScopes$Matcher" "home" "I", .fieldLink RX4 18 "MacroScopes$Matcher" "forms" "LMacroScopes$Forms;", .fieldLink RX4 22 "MacroScopes$Matcher" "names" "LMacroScopes$Names;", .fieldLink RX4 26 "MacroScopes$Matcher" "scopes" "LMacroScopes$Scopes;", .fieldLink RX4 30 "MacroScopes$Matcher" "matches" "LMacroScopes$Matches;"] ++ wsX40)
def wsX3_init : List Cond := .code yX3_init cX3_init 4 none :: ([.methodLink RX3 3 objectInit, .instanceMethod objectInit, .code objectInit ⟨#[0xb1]⟩ 1 none, .fieldLink RX3 9 "MacroScopes$Maker" "home" "I", .fieldLink RX3 15 "MacroScopes$Maker" "start" "I", .fieldLink RX3 18 "MacroScopes$Maker" "tooMuch" "Z", .fieldLink RX3 22 "MacroScopes$Maker" "forms" "LMacroScopes$Forms;", .fieldLink RX3 26 "MacroScopes$Maker" "names" "LMacroScopes$Names;", .fieldLink RX3 30 "MacroScopes$Maker" "matches" "LMacroScopes$Matches;"] ++ wsX30)
def wsX0_init_r1 : List Cond := [Cond.methodLink RX0 3 objectInit, Cond.instanceMethod objectInit, Cond.code objectInit ⟨#[0xb1]⟩ 1 none, Cond.classLink RX0 9 RX2, Cond.instantiable RX2 7, Cond.initialized RX2, Cond.fieldLink RX0 12 "MacroScopes$Expander" "frames" "LMacroScopes$Frames;", Cond.fieldLink RX0 18 "MacroScopes$Expander" "nextTop" "I", Cond.fieldLink RX0 22 "MacroScopes$Expander" "defined" "I", Cond.fieldLink RX0 25 "MacroScopes$Expander" "fault" "I", Cond.fieldLink RX0 28 "MacroScopes$Expander" "place" "I", Cond.fieldLink RX0 31 "MacroScopes$Expander" "uses" "I", Cond.fieldLink RX0 34 "MacroScopes$Expander" "layers" "I", Cond.fieldLink RX0 37 "MacroScopes$Expander" "variables" "I", Cond.classLink RX0 40 RX5, Cond.instantiable RX5 6, Cond.initialized RX5, Cond.fieldLink RX0 43 "MacroScopes$Expander" "forms" "LMacroScopes$Forms;", Cond.fieldLink RX0 47 "MacroScopes$Expander" "names" "LMacroScopes$Names;", Cond.fieldLink RX0 51 "MacroScopes$Expander" "told" "LMacroScopes$Told;", Cond.classLink RX0 55 RX9, Cond.instantiable RX9 6, Cond.initialized RX9, Cond.fieldLink RX0 60 "MacroScopes$Expander" "scopes" "LMacroScopes$Scopes;"]
def wsX0_init_r2 : List Cond := [Cond.classLink RX0 64 RX8, Cond.instantiable RX8 4, Cond.initialized RX8, Cond.fieldLink RX0 69 "MacroScopes$Expander" "ruleCheck" "LMacroScopes$RuleCheck;", Cond.classLink RX0 73 RX4, Cond.instantiable RX4 6, Cond.initialized RX4, Cond.fieldLink RX0 78 "MacroScopes$Expander" "matcher" "LMacroScopes$Matcher;", Cond.classLink RX0 82 RX3, Cond.instantiable RX3 6, Cond.initialized RX3, Cond.fieldLink RX0 87 "MacroScopes$Expander" "maker" "LMacroScopes$Maker;", Cond.instanceMethod yX2_init, Cond.code yX2_init cX2_init 1 none, Cond.methodLink RX2 3 objectInit, Cond.arrayClass .int, Cond.fieldLink RX2 11 "MacroScopes$Frames" "next" "[I", Cond.fieldLink RX2 15 "MacroScopes$Frames" "end" "[I", Cond.arrayClass .boolean, Cond.fieldLink RX2 18 "MacroScopes$Frames" "closes" "[Z", Cond.fieldLink RX2 22 "MacroScopes$Frames" "formsBefore" "[I", Cond.fieldLink RX2 25 "MacroScopes$Frames" "namesBefore" "[I", Cond.fieldLink RX2 28 "MacroScopes$Frames" "scopesBefore" "[I", Cond.fieldLink RX2 31 "MacroScopes$Frames" "top" "I"]
def wsX0_init_r3 : List Cond := [Cond.instanceMethod yX5_init, Cond.code yX5_init cX5_init 1 none, Cond.methodLink RX5 3 objectInit, Cond.fieldLink RX5 9 "MacroScopes$Matches" "first" "[I", Cond.fieldLink RX5 15 "MacroScopes$Matches" "apart" "[I", Cond.fieldLink RX5 18 "MacroScopes$Matches" "times" "[I", Cond.fieldLink RX5 21 "MacroScopes$Matches" "matched" "[I", Cond.fieldLink RX5 24 "MacroScopes$Matches" "variables" "I", Cond.fieldLink RX5 28 "MacroScopes$Matches" "forms" "I", Cond.methodLink RX0 57 yX9_init, Cond.instanceMethod yX9_init, Cond.code yX9_init cX9_init 2 none, Cond.methodLink RX9 3 objectInit, Cond.fieldLink RX9 11 "MacroScopes$Scopes" "name" "[I", Cond.fieldLink RX9 15 "MacroScopes$Scopes" "outer" "[I", Cond.fieldLink RX9 18 "MacroScopes$Scopes" "value" "[I", Cond.fieldLink RX9 21 "MacroScopes$Scopes" "home" "[I", Cond.fieldLink RX9 24 "MacroScopes$Scopes" "top" "I", Cond.fieldLink RX9 28 "MacroScopes$Scopes" "names" "LMacroScopes$Names;", Cond.methodLink RX0 66 yX8_init, Cond.instanceMethod yX8_init, Cond.code yX8_init cX8_init 4 none, Cond.methodLink RX8 3 objectInit, Cond.fieldLink RX8 9 "MacroScopes$RuleCheck" "literals" "I"]
def wsX0_init_r4 : List Cond := [Cond.fieldLink RX8 15 "MacroScopes$RuleCheck" "forms" "LMacroScopes$Forms;", Cond.fieldLink RX8 19 "MacroScopes$RuleCheck" "names" "LMacroScopes$Names;", Cond.fieldLink RX8 23 "MacroScopes$RuleCheck" "scopes" "LMacroScopes$Scopes;", Cond.methodLink RX0 75 yX4_init, Cond.instanceMethod yX4_init, Cond.code yX4_init cX4_init 5 none, Cond.methodLink RX4 3 objectInit, Cond.fieldLink RX4 9 "MacroScopes$Matcher" "literals" "I", Cond.fieldLink RX4 15 "MacroScopes$Matcher" "home" "I", Cond.fieldLink RX4 18 "MacroScopes$Matcher" "forms" "LMacroScopes$Forms;", Cond.fieldLink RX4 22 "MacroScopes$Matcher" "names" "LMacroScopes$Names;", Cond.fieldLink RX4 26 "MacroScopes$Matcher" "scopes" "LMacroScopes$Scopes;", Cond.fieldLink RX4 30 "MacroScopes$Matcher" "matches" "LMacroScopes$Matches;", Cond.methodLink RX0 84 yX3_init, Cond.instanceMethod yX3_init, Cond.code yX3_init cX3_init 4 none, Cond.methodLink RX3 3 objectInit, Cond.fieldLink RX3 9 "MacroScopes$Maker" "home" "I", Cond.fieldLink RX3 15 "MacroScopes$Maker" "start" "I", Cond.fieldLink RX3 18 "MacroScopes$Maker" "tooMuch" "Z", Cond.fieldLink RX3 22 "MacroScopes$Maker" "forms" "LMacroScopes$Forms;", Cond.fieldLink RX3 26 "MacroScopes$Maker" "names" "LMacroScopes$Names;", Cond.fieldLink RX3 30 "MacroScopes$Maker" "matches" "LMacroScopes$Matches;"]
def wsX0_init : List Cond := .code yX0_init cX0_init 5 none :: ((wsX0_init_r1 ++ (wsX0_init_r2 ++ (wsX0_init_r3 ++ wsX0_init_r4))) ++ wsX20 ++ wsX00 ++ wsX50 ++ wsX90 ++ wsX80 ++ wsX40 ++ wsX30)
def wsX0_startText : List Cond := .code yX0_startText cX0_startText 1 none :: ([.fieldLink RX0 18 "MacroScopes$Expander" "nextTop" "I", .fieldLink RX0 12 "MacroScopes$Expander" "frames" "LMacroScopes$Frames;", .fieldLink RX0 22 "MacroScopes$Expander" "defined" "I", .fieldLink RX0 25 "MacroScopes$Expander" "fault" "I", .fieldLink RX0 28 "MacroScopes$Expander" "place" "I", .fieldLink RX0 31 "MacroScopes$Expander" "uses" "I", .fieldLink RX0 34 "MacroScopes$Expander" "layers" "I", .fieldLink RX0 37 "MacroScopes$Expander" "variables" "I"] ++ wsX00 ++ wsX20)
def wsX9_leaveTo : List Cond := .code yX9_leaveTo cX9_leaveTo 2 none :: ([.fieldLink RX9 24 "MacroScopes$Scopes" "top" "I", .fieldLink RX9 28 "MacroScopes$Scopes" "names" "LMacroScopes$Names;", .fieldLink RX9 11 "MacroScopes$Scopes" "name" "[I", .fieldLink RX9 15 "MacroScopes$Scopes" "outer" "[I", .methodLink RX9 36 yX6_has, .instanceMethod yX6_has, .selects RX6 yX6_has yX6_has, .initialized RX6, .code yX6_has cX6_has 2 (some .boolean), .fieldLink RX6 47 "MacroScopes$Names" "top" "I"] ++ wsX90 ++ wsX60)
def wsX6_addName : List Cond := .code yX6_addName cX6_addName 3 (some .int) :: ([.fieldLink RX6 47 "MacroScopes$Names" "top" "I", .fieldLink RX6 32 "MacroScopes$Names" "original" "[I", .fieldLink RX6 35 "MacroScopes$Names" "home" "[I", .fieldLink RX6 38 "MacroScopes$Names" "binding" "[I", .fieldLink RX6 41 "MacroScopes$Names" "mark" "[I"] ++ wsX60)
def wsX0_tellText_r1 : List Cond := [Cond.fieldLink RX0 43 "MacroScopes$Expander" "forms" "LMacroScopes$Forms;", Cond.constant RX0 99 (1000000), Cond.fieldLink RX0 25 "MacroScopes$Expander" "fault" "I", Cond.fieldLink RX0 12 "MacroScopes$Expander" "frames" "LMacroScopes$Frames;", Cond.fieldLink RX0 18 "MacroScopes$Expander" "nextTop" "I", Cond.fieldLink RX0 60 "MacroScopes$Expander" "scopes" "LMacroScopes$Scopes;", Cond.fieldLink RX0 51 "MacroScopes$Expander" "told" "LMacroScopes$Told;", Cond.methodLink RX0 91 yX0_startText, Cond.instanceMethod yX0_startText, Cond.selects RX0 yX0_startText yX0_startText, Cond.initialized RX0, Cond.code yX0_startText cX0_startText 1 none, Cond.fieldLink RX0 22 "MacroScopes$Expander" "defined" "I", Cond.fieldLink RX0 28 "MacroScopes$Expander" "place" "I", Cond.fieldLink RX0 31 "MacroScopes$Expander" "uses" "I", Cond.fieldLink RX0 34 "MacroScopes$Expander" "layers" "I", Cond.fieldLink RX0 37 "MacroScopes$Expander" "variables" "I", Cond.methodLink RX0 101 yX0_nextInFrame, Cond.instanceMethod yX0_nextInFrame, Cond.selects RX0 yX0_nextInFrame yX0_nextInFrame, Cond.code yX0_nextInFrame cX0_nextInFrame 2 (some .int), Cond.methodLink RX0 147 yX2_nextForm, Cond.instanceMethod yX2_nextForm, Cond.selects RX2 yX2_nextForm yX2_nextForm]
def wsX0_tellText_r2 : List Cond := [Cond.initialized RX2, Cond.code yX2_nextForm cX2_nextForm 4 (some .int), Cond.fieldLink RX2 31 "MacroScopes$Frames" "top" "I", Cond.fieldLink RX2 11 "MacroScopes$Frames" "next" "[I", Cond.fieldLink RX2 15 "MacroScopes$Frames" "end" "[I", Cond.methodLink RX2 35 yX1_after, Cond.instanceMethod yX1_after, Cond.selects RX1 yX1_after yX1_after, Cond.initialized RX1, Cond.code yX1_after cX1_after 2 (some .int), Cond.fieldLink RX1 15 "MacroScopes$Forms" "span" "[I", Cond.methodLink RX0 151 yX0_leaveFrame, Cond.instanceMethod yX0_leaveFrame, Cond.selects RX0 yX0_leaveFrame yX0_leaveFrame, Cond.code yX0_leaveFrame cX0_leaveFrame 2 none, Cond.fieldLink RX0 47 "MacroScopes$Expander" "names" "LMacroScopes$Names;", Cond.methodLink RX0 158 yX10_close, Cond.instanceMethod yX10_close, Cond.selects RX10 yX10_close yX10_close, Cond.initialized RX10, Cond.code yX10_close cX10_close 1 none, Cond.methodLink RX10 29 yX10_add, Cond.instanceMethod yX10_add, Cond.selects RX10 yX10_add yX10_add]
def wsX0_tellText_r3 : List Cond := [Cond.code yX10_add cX10_add 2 none, Cond.fieldLink RX10 22 "MacroScopes$Told" "length" "I", Cond.fieldLink RX10 19 "MacroScopes$Told" "text" "[C", Cond.fieldLink RX10 25 "MacroScopes$Told" "last" "C", Cond.methodLink RX0 139 yX9_leaveTo, Cond.instanceMethod yX9_leaveTo, Cond.selects RX9 yX9_leaveTo yX9_leaveTo, Cond.initialized RX9, Cond.code yX9_leaveTo cX9_leaveTo 2 none, Cond.fieldLink RX9 24 "MacroScopes$Scopes" "top" "I", Cond.fieldLink RX9 28 "MacroScopes$Scopes" "names" "LMacroScopes$Names;", Cond.fieldLink RX9 11 "MacroScopes$Scopes" "name" "[I", Cond.fieldLink RX9 15 "MacroScopes$Scopes" "outer" "[I", Cond.methodLink RX9 36 yX6_has, Cond.instanceMethod yX6_has, Cond.selects RX6 yX6_has yX6_has, Cond.initialized RX6, Cond.code yX6_has cX6_has 2 (some .boolean), Cond.fieldLink RX6 47 "MacroScopes$Names" "top" "I", Cond.methodLink RX0 174 yX6_setRules, Cond.instanceMethod yX6_setRules, Cond.selects RX6 yX6_setRules yX6_setRules, Cond.code yX6_setRules cX6_setRules 3 none, Cond.fieldLink RX6 25 "MacroScopes$Names" "symbols" "I"]
def wsX0_tellText_r4 : List Cond := [Cond.fieldLink RX6 18 "MacroScopes$Names" "rules" "[I", Cond.methodLink RX0 105 yX0_nextTopForm, Cond.instanceMethod yX0_nextTopForm, Cond.selects RX0 yX0_nextTopForm yX0_nextTopForm, Cond.code yX0_nextTopForm cX0_nextTopForm 2 (some .int), Cond.methodLink RX0 177 yX1_after, Cond.methodLink RX0 180 yX0_remember, Cond.instanceMethod yX0_remember, Cond.selects RX0 yX0_remember yX0_remember, Cond.code yX0_remember cX0_remember 1 none, Cond.methodLink RX0 193 yX2_remember, Cond.instanceMethod yX2_remember, Cond.selects RX2 yX2_remember yX2_remember, Cond.code yX2_remember cX2_remember 4 none, Cond.fieldLink RX2 22 "MacroScopes$Frames" "formsBefore" "[I", Cond.fieldLink RX2 25 "MacroScopes$Frames" "namesBefore" "[I", Cond.fieldLink RX2 28 "MacroScopes$Frames" "scopesBefore" "[I", Cond.methodLink RX0 183 yX1_head, Cond.instanceMethod yX1_head, Cond.selects RX1 yX1_head yX1_head, Cond.code yX1_head cX1_head 2 (some .int), Cond.methodLink RX1 36 yX1_isList, Cond.instanceMethod yX1_isList, Cond.selects RX1 yX1_isList yX1_isList]
def wsX0_tellText_r5 : List Cond := [Cond.code yX1_isList cX1_isList 2 (some .boolean), Cond.fieldLink RX1 11 "MacroScopes$Forms" "what" "[I", Cond.methodLink RX1 40 yX1_size, Cond.instanceMethod yX1_size, Cond.selects RX1 yX1_size yX1_size, Cond.code yX1_size cX1_size 2 (some .int), Cond.methodLink RX1 43 yX1_nameOf, Cond.instanceMethod yX1_nameOf, Cond.selects RX1 yX1_nameOf yX1_nameOf, Cond.code yX1_nameOf cX1_nameOf 3 (some .int), Cond.methodLink RX0 186 yX0_define, Cond.instanceMethod yX0_define, Cond.selects RX0 yX0_define yX0_define, Cond.code yX0_define cX0_define 2 none, Cond.methodLink RX0 206 yX0_definesSymbol, Cond.instanceMethod yX0_definesSymbol, Cond.selects RX0 yX0_definesSymbol yX0_definesSymbol, Cond.code yX0_definesSymbol cX0_definesSymbol 3 (some .boolean), Cond.methodLink RX0 196 yX1_part, Cond.instanceMethod yX1_part, Cond.selects RX1 yX1_part yX1_part, Cond.code yX1_part cX1_part 5 (some .int), Cond.methodLink RX1 46 yX1_after, Cond.methodLink RX0 200 yX1_nameOf]
def wsX0_tellText_r6 : List Cond := [Cond.methodLink RX0 203 yX1_parts, Cond.instanceMethod yX1_parts, Cond.selects RX1 yX1_parts yX1_parts, Cond.code yX1_parts cX1_parts 4 (some .int), Cond.methodLink RX0 209 yX10_open, Cond.instanceMethod yX10_open, Cond.selects RX10 yX10_open yX10_open, Cond.code yX10_open cX10_open 1 none, Cond.methodLink RX10 33 yX10_addBlank, Cond.instanceMethod yX10_addBlank, Cond.selects RX10 yX10_addBlank yX10_addBlank, Cond.code yX10_addBlank cX10_addBlank 1 none, Cond.methodLink RX0 212 yX10_addSymbol, Cond.instanceMethod yX10_addSymbol, Cond.selects RX10 yX10_addSymbol yX10_addSymbol, Cond.code yX10_addSymbol cX10_addSymbol 3 none, Cond.methodLink RX10 46 yX10_addHalf, Cond.instanceMethod yX10_addHalf, Cond.selects RX10 yX10_addHalf yX10_addHalf, Cond.code yX10_addHalf cX10_addHalf 5 none, Cond.constantLong RX10 53 (255), Cond.methodLink RX0 216 yX2_enter, Cond.instanceMethod yX2_enter, Cond.selects RX2 yX2_enter yX2_enter]
def wsX0_tellText_r7 : List Cond := [Cond.code yX2_enter cX2_enter 4 none, Cond.fieldLink RX2 18 "MacroScopes$Frames" "closes" "[Z", Cond.methodLink RX0 189 yX0_defineSyntax, Cond.instanceMethod yX0_defineSyntax, Cond.selects RX0 yX0_defineSyntax yX0_defineSyntax, Cond.code yX0_defineSyntax cX0_defineSyntax 4 none, Cond.fieldLink RX0 69 "MacroScopes$Expander" "ruleCheck" "LMacroScopes$RuleCheck;", Cond.methodLink RX0 220 yX8_fits, Cond.instanceMethod yX8_fits, Cond.selects RX8 yX8_fits yX8_fits, Cond.initialized RX8, Cond.code yX8_fits cX8_fits 6 (some .boolean), Cond.fieldLink RX8 15 "MacroScopes$RuleCheck" "forms" "LMacroScopes$Forms;", Cond.fieldLink RX8 9 "MacroScopes$RuleCheck" "literals" "I", Cond.fieldLink RX8 23 "MacroScopes$RuleCheck" "scopes" "LMacroScopes$Scopes;", Cond.methodLink RX8 27 yX1_parts, Cond.methodLink RX8 33 yX1_head, Cond.methodLink RX8 36 yX1_part, Cond.methodLink RX8 40 yX9_meaning, Cond.instanceMethod yX9_meaning, Cond.selects RX9 yX9_meaning yX9_meaning, Cond.code yX9_meaning cX9_meaning 6 (some .int), Cond.methodLink RX9 45 Lib.Math.min.name, Cond.static Lib.Math.min.name]
def wsX0_tellText_r8 : List Cond := [Cond.initialized "java/lang/Math", Cond.code Lib.Math.min.name Lib.Math.min.code 2 (some .int), Cond.fieldLink RX9 21 "MacroScopes$Scopes" "home" "[I", Cond.fieldLink RX9 18 "MacroScopes$Scopes" "value" "[I", Cond.methodLink RX9 54 yX6_rulesOf, Cond.instanceMethod yX6_rulesOf, Cond.selects RX6 yX6_rulesOf yX6_rulesOf, Cond.code yX6_rulesOf cX6_rulesOf 2 (some .int), Cond.methodLink RX8 45 yX8_literalsFit, Cond.instanceMethod yX8_literalsFit, Cond.selects RX8 yX8_literalsFit yX8_literalsFit, Cond.code yX8_literalsFit cX8_literalsFit 2 (some .boolean), Cond.methodLink RX8 56 yX1_isList, Cond.methodLink RX8 49 yX1_after, Cond.methodLink RX8 59 yX1_nameOf, Cond.methodLink RX8 62 yX6_canBeBound, Cond.static yX6_canBeBound, Cond.code yX6_canBeBound cX6_canBeBound 1 (some .boolean), Cond.methodLink RX8 52 yX8_ruleFits, Cond.instanceMethod yX8_ruleFits, Cond.selects RX8 yX8_ruleFits yX8_ruleFits, Cond.code yX8_ruleFits cX8_ruleFits 3 (some .boolean), Cond.fieldLink RX8 19 "MacroScopes$RuleCheck" "names" "LMacroScopes$Names;", Cond.methodLink RX8 67 yX6_clearNotes]
def wsX0_tellText_r9 : List Cond := [Cond.instanceMethod yX6_clearNotes, Cond.selects RX6 yX6_clearNotes yX6_clearNotes, Cond.code yX6_clearNotes cX6_clearNotes 1 none, Cond.fieldLink RX6 50 "MacroScopes$Names" "latestMark" "I", Cond.methodLink RX8 70 yX8_patternsFit, Cond.instanceMethod yX8_patternsFit, Cond.selects RX8 yX8_patternsFit yX8_patternsFit, Cond.code yX8_patternsFit cX8_patternsFit 6 (some .boolean), Cond.methodLink RX8 78 yX1_isRepeated, Cond.instanceMethod yX1_isRepeated, Cond.selects RX1 yX1_isRepeated yX1_isRepeated, Cond.code yX1_isRepeated cX1_isRepeated 3 (some .boolean), Cond.methodLink RX8 81 yX8_patternFits, Cond.instanceMethod yX8_patternFits, Cond.selects RX8 yX8_patternFits yX8_patternFits, Cond.code yX8_patternFits cX8_patternFits 6 (some .boolean), Cond.methodLink RX8 85 yX1_holdsDots, Cond.instanceMethod yX1_holdsDots, Cond.selects RX1 yX1_holdsDots yX1_holdsDots, Cond.code yX1_holdsDots cX1_holdsDots 3 (some .boolean), Cond.methodLink RX8 88 yX8_isLiteral, Cond.static yX8_isLiteral, Cond.code yX8_isLiteral cX8_isLiteral 4 (some .boolean), Cond.methodLink RX8 92 yX6_isNoted]
def wsX0_tellText_r10 : List Cond := [Cond.instanceMethod yX6_isNoted, Cond.selects RX6 yX6_isNoted yX6_isNoted, Cond.code yX6_isNoted cX6_isNoted 2 (some .boolean), Cond.fieldLink RX6 41 "MacroScopes$Names" "mark" "[I", Cond.methodLink RX8 95 yX6_setNote, Cond.instanceMethod yX6_setNote, Cond.selects RX6 yX6_setNote yX6_setNote, Cond.code yX6_setNote cX6_setNote 3 none, Cond.fieldLink RX6 44 "MacroScopes$Names" "note" "[I", Cond.methodLink RX6 106 yX6_has, Cond.methodLink RX8 74 yX8_templateFits, Cond.instanceMethod yX8_templateFits, Cond.selects RX8 yX8_templateFits yX8_templateFits, Cond.code yX8_templateFits cX8_templateFits 7 (some .boolean), Cond.methodLink RX8 99 yX8_holdsRepeated, Cond.instanceMethod yX8_holdsRepeated, Cond.selects RX8 yX8_holdsRepeated yX8_holdsRepeated, Cond.code yX8_holdsRepeated cX8_holdsRepeated 3 (some .boolean), Cond.methodLink RX8 102 yX6_noteOf, Cond.instanceMethod yX6_noteOf, Cond.selects RX6 yX6_noteOf yX6_noteOf, Cond.code yX6_noteOf cX6_noteOf 2 (some .int), Cond.methodLink RX0 224 yX1_keep, Cond.instanceMethod yX1_keep]
def wsX0_tellText_r11 : List Cond := [Cond.selects RX1 yX1_keep yX1_keep, Cond.code yX1_keep cX1_keep 3 (some .int), Cond.fieldLink RX1 22 "MacroScopes$Forms" "kept" "I", Cond.methodLink RX1 49 arraycopyName, Cond.native arraycopyName, Cond.static arraycopyName, Cond.initialized "java/lang/System", Cond.methodLink RX0 108 yX0_headMeaning, Cond.instanceMethod yX0_headMeaning, Cond.selects RX0 yX0_headMeaning yX0_headMeaning, Cond.code yX0_headMeaning cX0_headMeaning 3 (some .int), Cond.methodLink RX0 227 yX9_meaning, Cond.methodLink RX0 112 yX1_isList, Cond.methodLink RX0 116 yX0_expandAlone, Cond.instanceMethod yX0_expandAlone, Cond.selects RX0 yX0_expandAlone yX0_expandAlone, Cond.code yX0_expandAlone cX0_expandAlone 4 none, Cond.methodLink RX0 230 yX1_numberOf, Cond.instanceMethod yX1_numberOf, Cond.selects RX1 yX1_numberOf yX1_numberOf, Cond.code yX1_numberOf cX1_numberOf 2 (some .int), Cond.methodLink RX1 32 yX1_whatIs, Cond.instanceMethod yX1_whatIs, Cond.selects RX1 yX1_whatIs yX1_whatIs]
def wsX0_tellText_r12 : List Cond := [Cond.code yX1_whatIs cX1_whatIs 2 (some .int), Cond.methodLink RX0 233 yX10_addNumber, Cond.instanceMethod yX10_addNumber, Cond.selects RX10 yX10_addNumber yX10_addNumber, Cond.code yX10_addNumber cX10_addNumber 2 none, Cond.methodLink RX10 36 yX10_addDigits, Cond.instanceMethod yX10_addDigits, Cond.selects RX10 yX10_addDigits yX10_addDigits, Cond.code yX10_addDigits cX10_addDigits 4 none, Cond.methodLink RX0 130 yX9_isWord, Cond.static yX9_isWord, Cond.code yX9_isWord cX9_isWord 1 (some .boolean), Cond.methodLink RX0 123 yX9_isMacro, Cond.static yX9_isMacro, Cond.code yX9_isMacro cX9_isMacro 1 (some .boolean), Cond.methodLink RX0 236 yX10_addVariable, Cond.instanceMethod yX10_addVariable, Cond.selects RX10 yX10_addVariable yX10_addVariable, Cond.code yX10_addVariable cX10_addVariable 2 none, Cond.methodLink RX0 239 yX6_root, Cond.instanceMethod yX6_root, Cond.selects RX6 yX6_root yX6_root, Cond.code yX6_root cX6_root 4 (some .int), Cond.methodLink RX6 110 yX6_originalOf]
def wsX0_tellText_r13 : List Cond := [Cond.instanceMethod yX6_originalOf, Cond.selects RX6 yX6_originalOf yX6_originalOf, Cond.code yX6_originalOf cX6_originalOf 2 (some .int), Cond.fieldLink RX6 32 "MacroScopes$Names" "original" "[I", Cond.methodLink RX0 120 yX0_canExpand, Cond.instanceMethod yX0_canExpand, Cond.selects RX0 yX0_canExpand yX0_canExpand, Cond.code yX0_canExpand cX0_canExpand 2 (some .boolean), Cond.methodLink RX0 242 yX1_size, Cond.methodLink RX0 126 yX0_expandUse, Cond.instanceMethod yX0_expandUse, Cond.selects RX0 yX0_expandUse yX0_expandUse, Cond.code yX0_expandUse cX0_expandUse 6 none, Cond.fieldLink RX0 78 "MacroScopes$Expander" "matcher" "LMacroScopes$Matcher;", Cond.fieldLink RX0 87 "MacroScopes$Expander" "maker" "LMacroScopes$Maker;", Cond.methodLink RX0 245 yX9_homeOf, Cond.instanceMethod yX9_homeOf, Cond.selects RX9 yX9_homeOf yX9_homeOf, Cond.code yX9_homeOf cX9_homeOf 3 (some .int), Cond.methodLink RX0 248 yX9_rulesOf, Cond.instanceMethod yX9_rulesOf, Cond.selects RX9 yX9_rulesOf yX9_rulesOf, Cond.code yX9_rulesOf cX9_rulesOf 3 (some .int), Cond.methodLink RX0 251 yX4_ruleFor]
def wsX0_tellText_r14 : List Cond := [Cond.instanceMethod yX4_ruleFor, Cond.selects RX4 yX4_ruleFor yX4_ruleFor, Cond.initialized RX4, Cond.code yX4_ruleFor cX4_ruleFor 6 (some .int), Cond.fieldLink RX4 18 "MacroScopes$Matcher" "forms" "LMacroScopes$Forms;", Cond.fieldLink RX4 9 "MacroScopes$Matcher" "literals" "I", Cond.fieldLink RX4 15 "MacroScopes$Matcher" "home" "I", Cond.fieldLink RX4 22 "MacroScopes$Matcher" "names" "LMacroScopes$Names;", Cond.fieldLink RX4 30 "MacroScopes$Matcher" "matches" "LMacroScopes$Matches;", Cond.methodLink RX4 34 yX1_part, Cond.methodLink RX4 40 yX1_after, Cond.methodLink RX4 44 yX6_clearNotes, Cond.methodLink RX4 49 yX5_clear, Cond.instanceMethod yX5_clear, Cond.selects RX5 yX5_clear yX5_clear, Cond.initialized RX5, Cond.code yX5_clear cX5_clear 1 none, Cond.fieldLink RX5 24 "MacroScopes$Matches" "variables" "I", Cond.fieldLink RX5 28 "MacroScopes$Matches" "forms" "I", Cond.methodLink RX4 54 yX4_rowMatches, Cond.instanceMethod yX4_rowMatches, Cond.selects RX4 yX4_rowMatches yX4_rowMatches, Cond.code yX4_rowMatches cX4_rowMatches 9 (some .boolean), Cond.methodLink RX4 58 yX1_isRepeated]
def wsX0_tellText_r15 : List Cond := [Cond.methodLink RX4 62 yX4_restMatches, Cond.instanceMethod yX4_restMatches, Cond.selects RX4 yX4_restMatches yX4_restMatches, Cond.methodLink RX4 66 yX4_formMatches, Cond.instanceMethod yX4_formMatches, Cond.selects RX4 yX4_formMatches yX4_formMatches, Cond.code yX4_formMatches cX4_formMatches 5 (some .boolean), Cond.methodLink RX4 83 yX1_nameOf, Cond.methodLink RX4 86 yX4_isVariable, Cond.instanceMethod yX4_isVariable, Cond.selects RX4 yX4_isVariable yX4_isVariable, Cond.code yX4_isVariable cX4_isVariable 2 (some .boolean), Cond.methodLink RX4 108 yX6_canBeBound, Cond.methodLink RX4 111 yX8_isLiteral, Cond.methodLink RX4 90 yX5_addVariable, Cond.instanceMethod yX5_addVariable, Cond.selects RX5 yX5_addVariable yX5_addVariable, Cond.code yX5_addVariable cX5_addVariable 2 (some .int), Cond.fieldLink RX5 9 "MacroScopes$Matches" "first" "[I", Cond.fieldLink RX5 15 "MacroScopes$Matches" "apart" "[I", Cond.fieldLink RX5 18 "MacroScopes$Matches" "times" "[I", Cond.methodLink RX4 93 yX6_setNote, Cond.methodLink RX4 96 yX5_addForm, Cond.instanceMethod yX5_addForm]
def wsX0_tellText_r16 : List Cond := [Cond.selects RX5 yX5_addForm yX5_addForm, Cond.code yX5_addForm cX5_addForm 2 none, Cond.fieldLink RX5 21 "MacroScopes$Matches" "matched" "[I", Cond.methodLink RX4 99 yX4_isMeant, Cond.instanceMethod yX4_isMeant, Cond.selects RX4 yX4_isMeant yX4_isMeant, Cond.code yX4_isMeant cX4_isMeant 3 (some .boolean), Cond.fieldLink RX4 26 "MacroScopes$Matcher" "scopes" "LMacroScopes$Scopes;", Cond.methodLink RX4 117 yX9_meaning, Cond.methodLink RX4 102 yX1_isList, Cond.methodLink RX4 105 yX1_whatIs, Cond.code yX4_restMatches cX4_restMatches 7 (some .boolean), Cond.methodLink RX4 73 yX4_addVariables, Cond.instanceMethod yX4_addVariables, Cond.selects RX4 yX4_addVariables yX4_addVariables, Cond.code yX4_addVariables cX4_addVariables 5 none, Cond.methodLink RX4 77 yX5_repeat, Cond.instanceMethod yX5_repeat, Cond.selects RX5 yX5_repeat yX5_repeat, Cond.code yX5_repeat cX5_repeat 4 none, Cond.methodLink RX5 31 Lib.Math.max.name, Cond.static Lib.Math.max.name, Cond.code Lib.Math.max.name Lib.Math.max.code 2 (some .int), Cond.methodLink RX0 255 yX3_make]
def wsX0_tellText_r17 : List Cond := [Cond.instanceMethod yX3_make, Cond.selects RX3 yX3_make yX3_make, Cond.initialized RX3, Cond.code yX3_make cX3_make 3 (some .int), Cond.fieldLink RX3 22 "MacroScopes$Maker" "forms" "LMacroScopes$Forms;", Cond.fieldLink RX3 26 "MacroScopes$Maker" "names" "LMacroScopes$Names;", Cond.fieldLink RX3 9 "MacroScopes$Maker" "home" "I", Cond.fieldLink RX3 15 "MacroScopes$Maker" "start" "I", Cond.fieldLink RX3 18 "MacroScopes$Maker" "tooMuch" "Z", Cond.methodLink RX3 34 yX3_isEven, Cond.instanceMethod yX3_isEven, Cond.selects RX3 yX3_isEven yX3_isEven, Cond.code yX3_isEven cX3_isEven 4 (some .boolean), Cond.methodLink RX3 53 yX1_after, Cond.methodLink RX3 57 yX1_isRepeated, Cond.methodLink RX3 61 yX3_turnsOf, Cond.instanceMethod yX3_turnsOf, Cond.selects RX3 yX3_turnsOf yX3_turnsOf, Cond.code yX3_turnsOf cX3_turnsOf 5 (some .int), Cond.fieldLink RX3 30 "MacroScopes$Maker" "matches" "LMacroScopes$Matches;", Cond.methodLink RX3 75 Lib.Math.max.name, Cond.methodLink RX3 66 yX1_nameOf, Cond.methodLink RX3 69 yX6_noteOf, Cond.methodLink RX3 72 yX5_timesOf]
def wsX0_tellText_r18 : List Cond := [Cond.instanceMethod yX5_timesOf, Cond.selects RX5 yX5_timesOf yX5_timesOf, Cond.code yX5_timesOf cX5_timesOf 2 (some .int), Cond.methodLink RX3 38 yX1_makeRoom, Cond.instanceMethod yX1_makeRoom, Cond.selects RX1 yX1_makeRoom yX1_makeRoom, Cond.code yX1_makeRoom cX1_makeRoom 1 none, Cond.fieldLink RX1 18 "MacroScopes$Forms" "top" "I", Cond.constant RX1 25 (67600), Cond.methodLink RX1 26 yJ7_copyOf_59c91, Cond.static yJ7_copyOf_59c91, Cond.initialized RJ7, Cond.code yJ7_copyOf_59c91 cJ7_copyOf_59c91 3 (some (.array .int)), Cond.methodLink RJ7 316 ⟨"[I", "clone", "()Ljava/lang/Object;"⟩, Cond.sameMethod "[I" "java/lang/Object" "clone" "()Ljava/lang/Object;", Cond.native ⟨"java/lang/Object", "clone", "()Ljava/lang/Object;"⟩, Cond.instanceMethod ⟨"java/lang/Object", "clone", "()Ljava/lang/Object;"⟩, Cond.selects "[I" ⟨"[I", "clone", "()Ljava/lang/Object;"⟩ ⟨"java/lang/Object", "clone", "()Ljava/lang/Object;"⟩, Cond.classLink RJ7 317 "[I", Cond.arrayClass .int, Cond.methodLink RJ7 304 Lib.Math.min.name, Cond.methodLink RJ7 150 arraycopyName, Cond.methodLink RX3 43 yX6_makeRoom, Cond.instanceMethod yX6_makeRoom]
def wsX0_tellText_r19 : List Cond := [Cond.selects RX6 yX6_makeRoom yX6_makeRoom, Cond.code yX6_makeRoom cX6_makeRoom 1 none, Cond.constant RX6 99 (63261), Cond.fieldLink RX6 35 "MacroScopes$Names" "home" "[I", Cond.fieldLink RX6 38 "MacroScopes$Names" "binding" "[I", Cond.methodLink RX6 100 yJ7_copyOf_59c91, Cond.methodLink RX3 49 yX3_build, Cond.instanceMethod yX3_build, Cond.selects RX3 yX3_build yX3_build, Cond.code yX3_build cX3_build 8 none, Cond.methodLink RX3 81 yX1_isList, Cond.methodLink RX3 84 yX3_buildPart, Cond.instanceMethod yX3_buildPart, Cond.selects RX3 yX3_buildPart yX3_buildPart, Cond.code yX3_buildPart cX3_buildPart 6 none, Cond.methodLink RX3 98 yX6_canBeBound, Cond.methodLink RX3 101 yX1_whatIs, Cond.methodLink RX3 104 yX3_add, Cond.instanceMethod yX3_add, Cond.selects RX3 yX3_add yX3_add, Cond.code yX3_add cX3_add 2 (some .int), Cond.methodLink RX3 128 yX1_add, Cond.instanceMethod yX1_add, Cond.selects RX1 yX1_add yX1_add]
def wsX0_tellText_r20 : List Cond := [Cond.code yX1_add cX1_add 2 (some .int), Cond.methodLink RX3 107 yX5_formOf, Cond.instanceMethod yX5_formOf, Cond.selects RX5 yX5_formOf yX5_formOf, Cond.code yX5_formOf cX5_formOf 4 (some .int), Cond.methodLink RX3 110 yX3_copy, Cond.instanceMethod yX3_copy, Cond.selects RX3 yX3_copy yX3_copy, Cond.code yX3_copy cX3_copy 5 none, Cond.methodLink RX3 87 yX3_addList, Cond.instanceMethod yX3_addList, Cond.selects RX3 yX3_addList yX3_addList, Cond.code yX3_addList cX3_addList 2 (some .int), Cond.methodLink RX3 94 yX1_endList, Cond.instanceMethod yX1_endList, Cond.selects RX1 yX1_endList yX1_endList, Cond.code yX1_endList cX1_endList 2 none, Cond.methodLink RX3 113 yX3_aliasOf, Cond.instanceMethod yX3_aliasOf, Cond.selects RX3 yX3_aliasOf yX3_aliasOf, Cond.code yX3_aliasOf cX3_aliasOf 2 (some .int), Cond.methodLink RX3 119 yX6_isNoted, Cond.methodLink RX3 122 yX6_addName, Cond.instanceMethod yX6_addName]
def wsX0_tellText_r21 : List Cond := [Cond.selects RX6 yX6_addName yX6_addName, Cond.code yX6_addName cX6_addName 3 (some .int), Cond.methodLink RX3 125 yX6_setNote, Cond.methodLink RX3 116 yX1_ofName, Cond.static yX1_ofName, Cond.code yX1_ofName cX1_ofName 1 (some .int), Cond.methodLink RX3 90 yX3_buildTurns, Cond.instanceMethod yX3_buildTurns, Cond.selects RX3 yX3_buildTurns yX3_buildTurns, Cond.code yX3_buildTurns cX3_buildTurns 5 none, Cond.methodLink RX0 133 yX0_expandWord, Cond.instanceMethod yX0_expandWord, Cond.selects RX0 yX0_expandWord yX0_expandWord, Cond.code yX0_expandWord cX0_expandWord 3 none, Cond.methodLink RX0 258 yX0_expandLambda, Cond.instanceMethod yX0_expandLambda, Cond.selects RX0 yX0_expandLambda yX0_expandLambda, Cond.code yX0_expandLambda cX0_expandLambda 3 none, Cond.methodLink RX0 279 yX0_startLayer, Cond.instanceMethod yX0_startLayer, Cond.selects RX0 yX0_startLayer yX0_startLayer, Cond.code yX0_startLayer cX0_startLayer 3 (some .boolean), Cond.methodLink RX0 282 yX0_bindVariables, Cond.instanceMethod yX0_bindVariables]
def wsX0_tellText_r22 : List Cond := [Cond.selects RX0 yX0_bindVariables yX0_bindVariables, Cond.code yX0_bindVariables cX0_bindVariables 5 none, Cond.methodLink RX0 285 yX0_canBind, Cond.instanceMethod yX0_canBind, Cond.selects RX0 yX0_canBind yX0_canBind, Cond.code yX0_canBind cX0_canBind 3 (some .boolean), Cond.methodLink RX0 273 yX6_canBeBound, Cond.methodLink RX0 276 yX9_isBoundSince, Cond.instanceMethod yX9_isBoundSince, Cond.selects RX9 yX9_isBoundSince yX9_isBoundSince, Cond.code yX9_isBoundSince cX9_isBoundSince 3 (some .boolean), Cond.methodLink RX0 288 yX9_bindVariable, Cond.instanceMethod yX9_bindVariable, Cond.selects RX9 yX9_bindVariable yX9_bindVariable, Cond.code yX9_bindVariable cX9_bindVariable 3 none, Cond.methodLink RX9 32 yX9_bind, Cond.instanceMethod yX9_bind, Cond.selects RX9 yX9_bind yX9_bind, Cond.code yX9_bind cX9_bind 4 none, Cond.methodLink RX0 261 yX0_expandLetSyntax, Cond.instanceMethod yX0_expandLetSyntax, Cond.selects RX0 yX0_expandLetSyntax yX0_expandLetSyntax, Cond.code yX0_expandLetSyntax cX0_expandLetSyntax 5 none, Cond.methodLink RX0 291 yX0_bindMacros]
def wsX0_tellText_r23 : List Cond := [Cond.instanceMethod yX0_bindMacros, Cond.selects RX0 yX0_bindMacros yX0_bindMacros, Cond.code yX0_bindMacros cX0_bindMacros 6 none, Cond.methodLink RX0 294 yX9_bindMacro, Cond.instanceMethod yX9_bindMacro, Cond.selects RX9 yX9_bindMacro yX9_bindMacro, Cond.code yX9_bindMacro cX9_bindMacro 4 none, Cond.methodLink RX0 264 yX0_expandIf, Cond.instanceMethod yX0_expandIf, Cond.selects RX0 yX0_expandIf yX0_expandIf, Cond.code yX0_expandIf cX0_expandIf 2 none, Cond.methodLink RX0 267 yX0_expandQuote, Cond.instanceMethod yX0_expandQuote, Cond.selects RX0 yX0_expandQuote yX0_expandQuote, Cond.code yX0_expandQuote cX0_expandQuote 2 none, Cond.methodLink RX0 270 yX0_tellRoots, Cond.instanceMethod yX0_tellRoots, Cond.selects RX0 yX0_tellRoots yX0_tellRoots, Cond.code yX0_tellRoots cX0_tellRoots 3 none, Cond.methodLink RX0 136 yX0_expandPlain, Cond.instanceMethod yX0_expandPlain, Cond.selects RX0 yX0_expandPlain yX0_expandPlain, Cond.code yX0_expandPlain cX0_expandPlain 2 none]
def wsX0_tellText : List Cond := .code yX0_tellText cX0_tellText 5 (some .int) :: ((wsX0_tellText_r1 ++ (wsX0_tellText_r2 ++ (wsX0_tellText_r3 ++ (wsX0_tellText_r4 ++ (wsX0_tellText_r5 ++ (wsX0_tellText_r6 ++ (wsX0_tellText_r7 ++ (wsX0_tellText_r8 ++ (wsX0_tellText_r9 ++ (wsX0_tellText_r10 ++ (wsX0_tellText_r11 ++ (wsX0_tellText_r12 ++ (wsX0_tellText_r13 ++ (wsX0_tellText_r14 ++ (wsX0_tellText_r15 ++ (wsX0_tellText_r16 ++ (wsX0_tellText_r17 ++ (wsX0_tellText_r18 ++ (wsX0_tellText_r19 ++ (wsX0_tellText_r20 ++ (wsX0_tellText_r21 ++ (wsX0_tellText_r22 ++ wsX0_tellText_r23)))))))))))))))))))))) ++ wsX00 ++ wsX10 ++ wsX20 ++ wsX100 ++ wsX60 ++ wsX90 ++ wsX80 ++ wsX40 ++ wsX50 ++ wsX30)
def wsX1_init : List Cond := .code yX1_init cX1_init 1 none :: ([.methodLink RX1 3 objectInit, .instanceMethod objectInit, .code objectInit ⟨#[0xb1]⟩ 1 none, .arrayClass .int, .fieldLink RX1 11 "MacroScopes$Forms" "what" "[I", .fieldLink RX1 15 "MacroScopes$Forms" "span" "[I", .fieldLink RX1 18 "MacroScopes$Forms" "top" "I", .fieldLink RX1 22 "MacroScopes$Forms" "kept" "I"] ++ wsX10)
def wsX1_startText : List Cond := .code yX1_startText cX1_startText 1 none :: ([.fieldLink RX1 18 "MacroScopes$Forms" "top" "I"] ++ wsX10)
def wsJ0_isLatin1_aae02 : List Cond := .code yJ0_isLatin1_aae02 cJ0_isLatin1_aae02 1 (some .boolean) :: ([.fieldLink RJ0 38 "java/lang/String" "COMPACT_STRINGS" "Z", .fieldLink RJ0 15 "java/lang/String" "coder" "B"])
def wsJ1_inflate_03870 : List Cond := .code yJ1_inflate_03870 cJ1_inflate_03870 6 none :: ([])
def wsJ1_toChars_9d188 : List Cond := .code yJ1_toChars_9d188 cJ1_toChars_9d188 2 (some (.array .char)) :: ([.arrayClass .char, .methodLink RJ1 13 yJ1_inflate_03870, .static yJ1_inflate_03870, .initialized RJ1, .code yJ1_inflate_03870 cJ1_inflate_03870 6 none])
def wsJ0_toCharArray_70df3_r1 : List Cond := [Cond.fieldLink RJ0 9 "java/lang/String" "value" "[B", Cond.methodLink RJ0 492 yJ0_isLatin1_aae02, Cond.instanceMethod yJ0_isLatin1_aae02, Cond.selects RJ0 yJ0_isLatin1_aae02 yJ0_isLatin1_aae02, Cond.initialized RJ0, Cond.code yJ0_isLatin1_aae02 cJ0_isLatin1_aae02 1 (some .boolean), Cond.fieldLink RJ0 38 "java/lang/String" "COMPACT_STRINGS" "Z", Cond.fieldLink RJ0 15 "java/lang/String" "coder" "B", Cond.methodLink RJ0 299 yJ1_toChars_9d188, Cond.static yJ1_toChars_9d188, Cond.initialized RJ1, Cond.code yJ1_toChars_9d188 cJ1_toChars_9d188 2 (some (.array .char)), Cond.arrayClass .char, Cond.methodLink RJ1 13 yJ1_inflate_03870, Cond.static yJ1_inflate_03870, Cond.code yJ1_inflate_03870 cJ1_inflate_03870 6 none, Cond.methodLink RJ0 303 yJ2_toChars_9d188, Cond.static yJ2_toChars_9d188, Cond.initialized RJ2, Cond.code yJ2_toChars_9d188 cJ2_toChars_9d188 2 (some (.array .char)), Cond.methodLink RJ2 103 yJ2_getChars_a1a8b, Cond.static yJ2_getChars_a1a8b, Cond.code yJ2_getChars_a1a8b cJ2_getChars_a1a8b 6 none, Cond.methodLink RJ2 173 yJ2_checkBoundsOffCount_d044e]
def wsJ0_toCharArray_70df3_r2 : List Cond := [Cond.static yJ2_checkBoundsOffCount_d044e, Cond.code yJ2_checkBoundsOffCount_d044e cJ2_checkBoundsOffCount_d044e 3 none, Cond.methodLink RJ2 48 yJ2_length_9d52b, Cond.static yJ2_length_9d52b, Cond.code yJ2_length_9d52b cJ2_length_9d52b 1 (some .int), Cond.methodLink RJ2 419 yJ0_checkBoundsOffCount_cabcc, Cond.static yJ0_checkBoundsOffCount_cabcc, Cond.code yJ0_checkBoundsOffCount_cabcc cJ0_checkBoundsOffCount_cabcc 3 (some .int), Cond.fieldLink RJ0 1053 "jdk/internal/util/Preconditions" "SIOOBE_FORMATTER" "Ljava/util/function/BiFunction;", Cond.methodLink RJ0 1065 yJ3_checkFromIndexSize_8c36e, Cond.static yJ3_checkFromIndexSize_8c36e, Cond.initialized RJ3, Cond.code yJ3_checkFromIndexSize_8c36e cJ3_checkFromIndexSize_8c36e 4 (some .int), Cond.methodLink RJ2 71 yJ2_getChar_3b067, Cond.static yJ2_getChar_3b067, Cond.code yJ2_getChar_3b067 cJ2_getChar_3b067 2 (some .char), Cond.fieldLink RJ2 44 "java/lang/StringUTF16" "$assertionsDisabled" "Z", Cond.fieldLink RJ2 59 "java/lang/StringUTF16" "HI_BYTE_SHIFT" "I", Cond.fieldLink RJ2 63 "java/lang/StringUTF16" "LO_BYTE_SHIFT" "I"]
def wsJ0_toCharArray_70df3 : List Cond := .code yJ0_toCharArray_70df3 cJ0_toCharArray_70df3 1 (some (.array .char)) :: ((wsJ0_toCharArray_70df3_r1 ++ wsJ0_toCharArray_70df3_r2))
def wsX6_half : List Cond := .code yX6_half cX6_half 6 (some .long) :: ([])
def wsX6_addSymbol : List Cond := .code yX6_addSymbol cX6_addSymbol 5 (some .int) :: ([.fieldLink RX6 25 "MacroScopes$Names" "symbols" "I", .fieldLink RX6 9 "MacroScopes$Names" "firstHalf" "[J", .fieldLink RX6 15 "MacroScopes$Names" "secondHalf" "[J", .fieldLink RX6 18 "MacroScopes$Names" "rules" "[I", .methodLink RX6 95 yX6_addName, .instanceMethod yX6_addName, .selects RX6 yX6_addName yX6_addName, .initialized RX6, .code yX6_addName cX6_addName 3 (some .int), .fieldLink RX6 47 "MacroScopes$Names" "top" "I", .fieldLink RX6 32 "MacroScopes$Names" "original" "[I", .fieldLink RX6 35 "MacroScopes$Names" "home" "[I", .fieldLink RX6 38 "MacroScopes$Names" "binding" "[I", .fieldLink RX6 41 "MacroScopes$Names" "mark" "[I"] ++ wsX60)
def wsX6_addGiven_r1 : List Cond := [Cond.methodLink RX6 75 yJ0_toCharArray_70df3, Cond.instanceMethod yJ0_toCharArray_70df3, Cond.selects RJ0 yJ0_toCharArray_70df3 yJ0_toCharArray_70df3, Cond.initialized RJ0, Cond.code yJ0_toCharArray_70df3 cJ0_toCharArray_70df3 1 (some (.array .char)), Cond.fieldLink RJ0 9 "java/lang/String" "value" "[B", Cond.methodLink RJ0 492 yJ0_isLatin1_aae02, Cond.instanceMethod yJ0_isLatin1_aae02, Cond.selects RJ0 yJ0_isLatin1_aae02 yJ0_isLatin1_aae02, Cond.code yJ0_isLatin1_aae02 cJ0_isLatin1_aae02 1 (some .boolean), Cond.fieldLink RJ0 38 "java/lang/String" "COMPACT_STRINGS" "Z", Cond.fieldLink RJ0 15 "java/lang/String" "coder" "B", Cond.methodLink RJ0 299 yJ1_toChars_9d188, Cond.static yJ1_toChars_9d188, Cond.initialized RJ1, Cond.code yJ1_toChars_9d188 cJ1_toChars_9d188 2 (some (.array .char)), Cond.arrayClass .char, Cond.methodLink RJ1 13 yJ1_inflate_03870, Cond.static yJ1_inflate_03870, Cond.code yJ1_inflate_03870 cJ1_inflate_03870 6 none, Cond.methodLink RJ0 303 yJ2_toChars_9d188, Cond.static yJ2_toChars_9d188, Cond.initialized RJ2, Cond.code yJ2_toChars_9d188 cJ2_toChars_9d188 2 (some (.array .char))]
def wsX6_addGiven_r2 : List Cond := [Cond.methodLink RJ2 103 yJ2_getChars_a1a8b, Cond.static yJ2_getChars_a1a8b, Cond.code yJ2_getChars_a1a8b cJ2_getChars_a1a8b 6 none, Cond.methodLink RJ2 173 yJ2_checkBoundsOffCount_d044e, Cond.static yJ2_checkBoundsOffCount_d044e, Cond.code yJ2_checkBoundsOffCount_d044e cJ2_checkBoundsOffCount_d044e 3 none, Cond.methodLink RJ2 48 yJ2_length_9d52b, Cond.static yJ2_length_9d52b, Cond.code yJ2_length_9d52b cJ2_length_9d52b 1 (some .int), Cond.methodLink RJ2 419 yJ0_checkBoundsOffCount_cabcc, Cond.static yJ0_checkBoundsOffCount_cabcc, Cond.code yJ0_checkBoundsOffCount_cabcc cJ0_checkBoundsOffCount_cabcc 3 (some .int), Cond.fieldLink RJ0 1053 "jdk/internal/util/Preconditions" "SIOOBE_FORMATTER" "Ljava/util/function/BiFunction;", Cond.methodLink RJ0 1065 yJ3_checkFromIndexSize_8c36e, Cond.static yJ3_checkFromIndexSize_8c36e, Cond.initialized RJ3, Cond.code yJ3_checkFromIndexSize_8c36e cJ3_checkFromIndexSize_8c36e 4 (some .int), Cond.methodLink RJ2 71 yJ2_getChar_3b067, Cond.static yJ2_getChar_3b067, Cond.code yJ2_getChar_3b067 cJ2_getChar_3b067 2 (some .char), Cond.fieldLink RJ2 44 "java/lang/StringUTF16" "$assertionsDisabled" "Z", Cond.fieldLink RJ2 59 "java/lang/StringUTF16" "HI_BYTE_SHIFT" "I", Cond.fieldLink RJ2 63 "java/lang/StringUTF16" "LO_BYTE_SHIFT" "I", Cond.methodLink RX6 81 yX6_half]
def wsX6_addGiven_r3 : List Cond := [Cond.static yX6_half, Cond.initialized RX6, Cond.code yX6_half cX6_half 6 (some .long), Cond.methodLink RX6 85 yX6_addSymbol, Cond.instanceMethod yX6_addSymbol, Cond.selects RX6 yX6_addSymbol yX6_addSymbol, Cond.code yX6_addSymbol cX6_addSymbol 5 (some .int), Cond.fieldLink RX6 25 "MacroScopes$Names" "symbols" "I", Cond.fieldLink RX6 9 "MacroScopes$Names" "firstHalf" "[J", Cond.fieldLink RX6 15 "MacroScopes$Names" "secondHalf" "[J", Cond.fieldLink RX6 18 "MacroScopes$Names" "rules" "[I", Cond.methodLink RX6 95 yX6_addName, Cond.instanceMethod yX6_addName, Cond.selects RX6 yX6_addName yX6_addName, Cond.code yX6_addName cX6_addName 3 (some .int), Cond.fieldLink RX6 47 "MacroScopes$Names" "top" "I", Cond.fieldLink RX6 32 "MacroScopes$Names" "original" "[I", Cond.fieldLink RX6 35 "MacroScopes$Names" "home" "[I", Cond.fieldLink RX6 38 "MacroScopes$Names" "binding" "[I", Cond.fieldLink RX6 41 "MacroScopes$Names" "mark" "[I"]
def wsX6_addGiven : List Cond := .code yX6_addGiven cX6_addGiven 3 none :: ((wsX6_addGiven_r1 ++ (wsX6_addGiven_r2 ++ wsX6_addGiven_r3)) ++ wsX60)
def wsX6_init_r1 : List Cond := [Cond.methodLink RX6 3 objectInit, Cond.instanceMethod objectInit, Cond.code objectInit ⟨#[0xb1]⟩ 1 none, Cond.arrayClass .long, Cond.fieldLink RX6 9 "MacroScopes$Names" "firstHalf" "[J", Cond.fieldLink RX6 15 "MacroScopes$Names" "secondHalf" "[J", Cond.arrayClass .int, Cond.fieldLink RX6 18 "MacroScopes$Names" "rules" "[I", Cond.fieldLink RX6 22 "MacroScopes$Names" "rulesBefore" "[I", Cond.fieldLink RX6 25 "MacroScopes$Names" "symbols" "I", Cond.fieldLink RX6 29 "MacroScopes$Names" "symbolsBefore" "I", Cond.fieldLink RX6 32 "MacroScopes$Names" "original" "[I", Cond.fieldLink RX6 35 "MacroScopes$Names" "home" "[I", Cond.fieldLink RX6 38 "MacroScopes$Names" "binding" "[I", Cond.fieldLink RX6 41 "MacroScopes$Names" "mark" "[I", Cond.fieldLink RX6 44 "MacroScopes$Names" "note" "[I", Cond.fieldLink RX6 47 "MacroScopes$Names" "top" "I", Cond.fieldLink RX6 50 "MacroScopes$Names" "latestMark" "I", Cond.methodLink RX6 55 yX6_addGiven, Cond.instanceMethod yX6_addGiven, Cond.selects RX6 yX6_addGiven yX6_addGiven, Cond.initialized RX6, Cond.code yX6_addGiven cX6_addGiven 3 none, Cond.methodLink RX6 75 yJ0_toCharArray_70df3]
def wsX6_init_r2 : List Cond := [Cond.instanceMethod yJ0_toCharArray_70df3, Cond.selects RJ0 yJ0_toCharArray_70df3 yJ0_toCharArray_70df3, Cond.initialized RJ0, Cond.code yJ0_toCharArray_70df3 cJ0_toCharArray_70df3 1 (some (.array .char)), Cond.fieldLink RJ0 9 "java/lang/String" "value" "[B", Cond.methodLink RJ0 492 yJ0_isLatin1_aae02, Cond.instanceMethod yJ0_isLatin1_aae02, Cond.selects RJ0 yJ0_isLatin1_aae02 yJ0_isLatin1_aae02, Cond.code yJ0_isLatin1_aae02 cJ0_isLatin1_aae02 1 (some .boolean), Cond.fieldLink RJ0 38 "java/lang/String" "COMPACT_STRINGS" "Z", Cond.fieldLink RJ0 15 "java/lang/String" "coder" "B", Cond.methodLink RJ0 299 yJ1_toChars_9d188, Cond.static yJ1_toChars_9d188, Cond.initialized RJ1, Cond.code yJ1_toChars_9d188 cJ1_toChars_9d188 2 (some (.array .char)), Cond.arrayClass .char, Cond.methodLink RJ1 13 yJ1_inflate_03870, Cond.static yJ1_inflate_03870, Cond.code yJ1_inflate_03870 cJ1_inflate_03870 6 none, Cond.methodLink RJ0 303 yJ2_toChars_9d188, Cond.static yJ2_toChars_9d188, Cond.initialized RJ2, Cond.code yJ2_toChars_9d188 cJ2_toChars_9d188 2 (some (.array .char)), Cond.methodLink RJ2 103 yJ2_getChars_a1a8b]
def wsX6_init_r3 : List Cond := [Cond.static yJ2_getChars_a1a8b, Cond.code yJ2_getChars_a1a8b cJ2_getChars_a1a8b 6 none, Cond.methodLink RJ2 173 yJ2_checkBoundsOffCount_d044e, Cond.static yJ2_checkBoundsOffCount_d044e, Cond.code yJ2_checkBoundsOffCount_d044e cJ2_checkBoundsOffCount_d044e 3 none, Cond.methodLink RJ2 48 yJ2_length_9d52b, Cond.static yJ2_length_9d52b, Cond.code yJ2_length_9d52b cJ2_length_9d52b 1 (some .int), Cond.methodLink RJ2 419 yJ0_checkBoundsOffCount_cabcc, Cond.static yJ0_checkBoundsOffCount_cabcc, Cond.code yJ0_checkBoundsOffCount_cabcc cJ0_checkBoundsOffCount_cabcc 3 (some .int), Cond.fieldLink RJ0 1053 "jdk/internal/util/Preconditions" "SIOOBE_FORMATTER" "Ljava/util/function/BiFunction;", Cond.methodLink RJ0 1065 yJ3_checkFromIndexSize_8c36e, Cond.static yJ3_checkFromIndexSize_8c36e, Cond.initialized RJ3, Cond.code yJ3_checkFromIndexSize_8c36e cJ3_checkFromIndexSize_8c36e 4 (some .int), Cond.methodLink RJ2 71 yJ2_getChar_3b067, Cond.static yJ2_getChar_3b067, Cond.code yJ2_getChar_3b067 cJ2_getChar_3b067 2 (some .char), Cond.fieldLink RJ2 44 "java/lang/StringUTF16" "$assertionsDisabled" "Z", Cond.fieldLink RJ2 59 "java/lang/StringUTF16" "HI_BYTE_SHIFT" "I", Cond.fieldLink RJ2 63 "java/lang/StringUTF16" "LO_BYTE_SHIFT" "I", Cond.methodLink RX6 81 yX6_half, Cond.static yX6_half]
def wsX6_init_r4 : List Cond := [Cond.code yX6_half cX6_half 6 (some .long), Cond.methodLink RX6 85 yX6_addSymbol, Cond.instanceMethod yX6_addSymbol, Cond.selects RX6 yX6_addSymbol yX6_addSymbol, Cond.code yX6_addSymbol cX6_addSymbol 5 (some .int), Cond.methodLink RX6 95 yX6_addName, Cond.instanceMethod yX6_addName, Cond.selects RX6 yX6_addName yX6_addName, Cond.code yX6_addName cX6_addName 3 (some .int)]
def wsX6_init : List Cond := .code yX6_init cX6_init 1 none :: ((wsX6_init_r1 ++ (wsX6_init_r2 ++ (wsX6_init_r3 ++ wsX6_init_r4))) ++ wsX60)
def wsX6_startText : List Cond := .code yX6_startText cX6_startText 1 none :: ([.fieldLink RX6 25 "MacroScopes$Names" "symbols" "I", .fieldLink RX6 47 "MacroScopes$Names" "top" "I", .fieldLink RX6 29 "MacroScopes$Names" "symbolsBefore" "I", .fieldLink RX6 18 "MacroScopes$Names" "rules" "[I", .fieldLink RX6 22 "MacroScopes$Names" "rulesBefore" "[I", .methodLink RX6 89 arraycopyName, .native arraycopyName, .static arraycopyName, .initialized "java/lang/System"] ++ wsX60)
def wsX6_take : List Cond := .code yX6_take cX6_take 2 none :: ([.fieldLink RX6 29 "MacroScopes$Names" "symbolsBefore" "I", .fieldLink RX6 25 "MacroScopes$Names" "symbols" "I"] ++ wsX60)
def wsX6_macros : List Cond := .code yX6_macros cX6_macros 3 (some .int) :: ([.fieldLink RX6 25 "MacroScopes$Names" "symbols" "I", .fieldLink RX6 18 "MacroScopes$Names" "rules" "[I"] ++ wsX60)
def wsX7_init : List Cond := .code yX7_init cX7_init 3 none :: ([.methodLink RX7 3 objectInit, .instanceMethod objectInit, .code objectInit ⟨#[0xb1]⟩ 1 none, .arrayClass .int, .fieldLink RX7 9 "MacroScopes$Reader" "open" "[I", .fieldLink RX7 15 "MacroScopes$Reader" "opened" "I", .fieldLink RX7 19 "MacroScopes$Reader" "forms" "LMacroScopes$Forms;", .fieldLink RX7 23 "MacroScopes$Reader" "names" "LMacroScopes$Names;"] ++ wsX70)
def wsX7_tokenFrom : List Cond := .code yX7_tokenFrom cX7_tokenFrom 5 (some .int) :: ([])
def wsX7_tokenEnd : List Cond := .code yX7_tokenEnd cX7_tokenEnd 5 (some .int) :: ([.methodLink RX7 91 yX7_isBreak, .static yX7_isBreak, .initialized RX7, .code yX7_isBreak cX7_isBreak 1 (some .boolean)])
def wsX7_isSymbol : List Cond := .code yX7_isSymbol cX7_isSymbol 4 (some .boolean) :: ([.methodLink RX7 91 yX7_isBreak, .static yX7_isBreak, .initialized RX7, .code yX7_isBreak cX7_isBreak 1 (some .boolean), .methodLink RX7 95 yX7_isDigits, .static yX7_isDigits, .code yX7_isDigits cX7_isDigits 4 (some .boolean), .methodLink RX7 76 yX7_symbolOf, .instanceMethod yX7_symbolOf, .selects RX7 yX7_symbolOf yX7_symbolOf, .code yX7_symbolOf cX7_symbolOf 4 (some .int), .fieldLink RX7 23 "MacroScopes$Reader" "names" "LMacroScopes$Names;", .methodLink RX7 79 yX6_half, .static yX6_half, .initialized RX6, .code yX6_half cX6_half 6 (some .long), .methodLink RX7 98 yX6_find, .instanceMethod yX6_find, .selects RX6 yX6_find yX6_find, .code yX6_find cX6_find 6 (some .int), .fieldLink RX6 25 "MacroScopes$Names" "symbols" "I", .fieldLink RX6 9 "MacroScopes$Names" "firstHalf" "[J", .fieldLink RX6 15 "MacroScopes$Names" "secondHalf" "[J"] ++ wsX70 ++ wsX60)
def wsX7_addForms_r1 : List Cond := [Cond.fieldLink RX7 15 "MacroScopes$Reader" "opened" "I", Cond.methodLink RX7 37 Lib.Math.max.name, Cond.static Lib.Math.max.name, Cond.initialized "java/lang/Math", Cond.code Lib.Math.max.name Lib.Math.max.code 2 (some .int), Cond.methodLink RX7 27 yX7_tokenFrom, Cond.instanceMethod yX7_tokenFrom, Cond.selects RX7 yX7_tokenFrom yX7_tokenFrom, Cond.initialized RX7, Cond.code yX7_tokenFrom cX7_tokenFrom 5 (some .int), Cond.methodLink RX7 31 yX7_tokenEnd, Cond.instanceMethod yX7_tokenEnd, Cond.selects RX7 yX7_tokenEnd yX7_tokenEnd, Cond.code yX7_tokenEnd cX7_tokenEnd 5 (some .int), Cond.methodLink RX7 91 yX7_isBreak, Cond.static yX7_isBreak, Cond.code yX7_isBreak cX7_isBreak 1 (some .boolean), Cond.methodLink RX7 34 yX7_addToken, Cond.instanceMethod yX7_addToken, Cond.selects RX7 yX7_addToken yX7_addToken, Cond.code yX7_addToken cX7_addToken 5 (some .int), Cond.methodLink RX7 43 yX7_openList, Cond.instanceMethod yX7_openList, Cond.selects RX7 yX7_openList yX7_openList]
def wsX7_addForms_r2 : List Cond := [Cond.code yX7_openList cX7_openList 1 (some .int), Cond.fieldLink RX7 9 "MacroScopes$Reader" "open" "[I", Cond.fieldLink RX7 19 "MacroScopes$Reader" "forms" "LMacroScopes$Forms;", Cond.methodLink RX7 65 yX1_add, Cond.instanceMethod yX1_add, Cond.selects RX1 yX1_add yX1_add, Cond.initialized RX1, Cond.code yX1_add cX1_add 2 (some .int), Cond.fieldLink RX1 18 "MacroScopes$Forms" "top" "I", Cond.fieldLink RX1 11 "MacroScopes$Forms" "what" "[I", Cond.fieldLink RX1 15 "MacroScopes$Forms" "span" "[I", Cond.methodLink RX7 47 yX7_closeList, Cond.instanceMethod yX7_closeList, Cond.selects RX7 yX7_closeList yX7_closeList, Cond.code yX7_closeList cX7_closeList 1 (some .int), Cond.methodLink RX7 69 yX1_endList, Cond.instanceMethod yX1_endList, Cond.selects RX1 yX1_endList yX1_endList, Cond.code yX1_endList cX1_endList 2 none, Cond.methodLink RX7 50 yX7_isNumber, Cond.static yX7_isNumber, Cond.code yX7_isNumber cX7_isNumber 3 (some .boolean), Cond.methodLink RX7 95 yX7_isDigits, Cond.static yX7_isDigits]
def wsX7_addForms_r3 : List Cond := [Cond.code yX7_isDigits cX7_isDigits 4 (some .boolean), Cond.methodLink RX7 54 yX7_addNumber, Cond.instanceMethod yX7_addNumber, Cond.selects RX7 yX7_addNumber yX7_addNumber, Cond.code yX7_addNumber cX7_addNumber 6 (some .int), Cond.methodLink RX7 73 yX1_ofNumber, Cond.static yX1_ofNumber, Cond.code yX1_ofNumber cX1_ofNumber 1 (some .int), Cond.methodLink RX7 57 yX7_isSymbol, Cond.instanceMethod yX7_isSymbol, Cond.selects RX7 yX7_isSymbol yX7_isSymbol, Cond.code yX7_isSymbol cX7_isSymbol 4 (some .boolean), Cond.methodLink RX7 76 yX7_symbolOf, Cond.instanceMethod yX7_symbolOf, Cond.selects RX7 yX7_symbolOf yX7_symbolOf, Cond.code yX7_symbolOf cX7_symbolOf 4 (some .int), Cond.fieldLink RX7 23 "MacroScopes$Reader" "names" "LMacroScopes$Names;", Cond.methodLink RX7 79 yX6_half, Cond.static yX6_half, Cond.initialized RX6, Cond.code yX6_half cX6_half 6 (some .long), Cond.methodLink RX7 98 yX6_find, Cond.instanceMethod yX6_find, Cond.selects RX6 yX6_find yX6_find]
def wsX7_addForms_r4 : List Cond := [Cond.code yX6_find cX6_find 6 (some .int), Cond.fieldLink RX6 25 "MacroScopes$Names" "symbols" "I", Cond.fieldLink RX6 9 "MacroScopes$Names" "firstHalf" "[J", Cond.fieldLink RX6 15 "MacroScopes$Names" "secondHalf" "[J", Cond.methodLink RX7 60 yX7_addSymbol, Cond.instanceMethod yX7_addSymbol, Cond.selects RX7 yX7_addSymbol yX7_addSymbol, Cond.code yX7_addSymbol cX7_addSymbol 5 (some .int), Cond.methodLink RX7 85 yX6_addSymbol, Cond.instanceMethod yX6_addSymbol, Cond.selects RX6 yX6_addSymbol yX6_addSymbol, Cond.code yX6_addSymbol cX6_addSymbol 5 (some .int), Cond.fieldLink RX6 18 "MacroScopes$Names" "rules" "[I", Cond.methodLink RX6 95 yX6_addName, Cond.instanceMethod yX6_addName, Cond.selects RX6 yX6_addName yX6_addName, Cond.code yX6_addName cX6_addName 3 (some .int), Cond.fieldLink RX6 47 "MacroScopes$Names" "top" "I", Cond.fieldLink RX6 32 "MacroScopes$Names" "original" "[I", Cond.fieldLink RX6 35 "MacroScopes$Names" "home" "[I", Cond.fieldLink RX6 38 "MacroScopes$Names" "binding" "[I", Cond.fieldLink RX6 41 "MacroScopes$Names" "mark" "[I", Cond.methodLink RX7 88 yX1_ofName, Cond.static yX1_ofName]
def wsX7_addForms_r5 : List Cond := [Cond.code yX1_ofName cX1_ofName 1 (some .int)]
def wsX7_addForms : List Cond := .code yX7_addForms cX7_addForms 7 (some .int) :: ((wsX7_addForms_r1 ++ (wsX7_addForms_r2 ++ (wsX7_addForms_r3 ++ (wsX7_addForms_r4 ++ wsX7_addForms_r5)))) ++ wsX70 ++ wsX10 ++ wsX60)
def wsX10_init : List Cond := .code yX10_init cX10_init 1 none :: ([.methodLink RX10 3 objectInit, .instanceMethod objectInit, .code objectInit ⟨#[0xb1]⟩ 1 none, .arrayClass .char, .fieldLink RX10 9 "MacroScopes$Told" "taken" "[C", .fieldLink RX10 15 "MacroScopes$Told" "takenLength" "I", .fieldLink RX10 19 "MacroScopes$Told" "text" "[C", .fieldLink RX10 22 "MacroScopes$Told" "length" "I", .fieldLink RX10 25 "MacroScopes$Told" "last" "C"] ++ wsX100)
def wsX10_startText : List Cond := .code yX10_startText cX10_startText 1 none :: ([.fieldLink RX10 22 "MacroScopes$Told" "length" "I"] ++ wsX100)
def wsX10_take : List Cond := .code yX10_take cX10_take 2 none :: ([.fieldLink RX10 9 "MacroScopes$Told" "taken" "[C", .fieldLink RX10 19 "MacroScopes$Told" "text" "[C", .fieldLink RX10 22 "MacroScopes$Told" "length" "I", .fieldLink RX10 15 "MacroScopes$Told" "takenLength" "I"] ++ wsX100)
def wsX10_at : List Cond := .code yX10_at cX10_at 2 (some .int) :: ([.fieldLink RX10 15 "MacroScopes$Told" "takenLength" "I", .fieldLink RX10 9 "MacroScopes$Told" "taken" "[C"] ++ wsX100)
def wsX10_canBeRead : List Cond := .code yX10_canBeRead cX10_canBeRead 3 (some .boolean) :: ([.fieldLink RX10 15 "MacroScopes$Told" "takenLength" "I", .fieldLink RX10 9 "MacroScopes$Told" "taken" "[C"] ++ wsX100)
def wsX11_init_r1 : List Cond := [Cond.methodLink RX11 1 objectInit, Cond.instanceMethod objectInit, Cond.code objectInit ⟨#[0xb1]⟩ 1 none, Cond.arrayClass .char, Cond.fieldLink RX11 9 "MacroScopes" "typed" "[C", Cond.classLink RX11 13 RX6, Cond.instantiable RX6 13, Cond.initialized RX6, Cond.fieldLink RX11 16 "MacroScopes" "names" "LMacroScopes$Names;", Cond.classLink RX11 20 RX1, Cond.instantiable RX1 4, Cond.initialized RX1, Cond.fieldLink RX11 23 "MacroScopes" "forms" "LMacroScopes$Forms;", Cond.classLink RX11 27 RX10, Cond.instantiable RX10 5, Cond.initialized RX10, Cond.fieldLink RX11 30 "MacroScopes" "told" "LMacroScopes$Told;", Cond.classLink RX11 34 RX7, Cond.instantiable RX7 4, Cond.initialized RX7, Cond.fieldLink RX11 39 "MacroScopes" "reader" "LMacroScopes$Reader;", Cond.classLink RX11 43 RX0, Cond.instantiable RX0 15, Cond.initialized RX0]
def wsX11_init_r2 : List Cond := [Cond.fieldLink RX11 48 "MacroScopes" "expander" "LMacroScopes$Expander;", Cond.fieldLink RX11 52 "MacroScopes" "typedLength" "I", Cond.fieldLink RX11 56 "MacroScopes" "place" "I", Cond.fieldLink RX11 59 "MacroScopes" "uses" "I", Cond.fieldLink RX11 62 "MacroScopes" "variables" "I", Cond.fieldLink RX11 65 "MacroScopes" "topForms" "I", Cond.methodLink RX11 15 yX6_init, Cond.instanceMethod yX6_init, Cond.code yX6_init cX6_init 1 none, Cond.methodLink RX6 3 objectInit, Cond.arrayClass .long, Cond.fieldLink RX6 9 "MacroScopes$Names" "firstHalf" "[J", Cond.fieldLink RX6 15 "MacroScopes$Names" "secondHalf" "[J", Cond.arrayClass .int, Cond.fieldLink RX6 18 "MacroScopes$Names" "rules" "[I", Cond.fieldLink RX6 22 "MacroScopes$Names" "rulesBefore" "[I", Cond.fieldLink RX6 25 "MacroScopes$Names" "symbols" "I", Cond.fieldLink RX6 29 "MacroScopes$Names" "symbolsBefore" "I", Cond.fieldLink RX6 32 "MacroScopes$Names" "original" "[I", Cond.fieldLink RX6 35 "MacroScopes$Names" "home" "[I", Cond.fieldLink RX6 38 "MacroScopes$Names" "binding" "[I", Cond.fieldLink RX6 41 "MacroScopes$Names" "mark" "[I", Cond.fieldLink RX6 44 "MacroScopes$Names" "note" "[I", Cond.fieldLink RX6 47 "MacroScopes$Names" "top" "I"]
def wsX11_init_r3 : List Cond := [Cond.fieldLink RX6 50 "MacroScopes$Names" "latestMark" "I", Cond.methodLink RX6 55 yX6_addGiven, Cond.instanceMethod yX6_addGiven, Cond.selects RX6 yX6_addGiven yX6_addGiven, Cond.code yX6_addGiven cX6_addGiven 3 none, Cond.methodLink RX6 75 yJ0_toCharArray_70df3, Cond.instanceMethod yJ0_toCharArray_70df3, Cond.selects RJ0 yJ0_toCharArray_70df3 yJ0_toCharArray_70df3, Cond.initialized RJ0, Cond.code yJ0_toCharArray_70df3 cJ0_toCharArray_70df3 1 (some (.array .char)), Cond.fieldLink RJ0 9 "java/lang/String" "value" "[B", Cond.methodLink RJ0 492 yJ0_isLatin1_aae02, Cond.instanceMethod yJ0_isLatin1_aae02, Cond.selects RJ0 yJ0_isLatin1_aae02 yJ0_isLatin1_aae02, Cond.code yJ0_isLatin1_aae02 cJ0_isLatin1_aae02 1 (some .boolean), Cond.fieldLink RJ0 38 "java/lang/String" "COMPACT_STRINGS" "Z", Cond.fieldLink RJ0 15 "java/lang/String" "coder" "B", Cond.methodLink RJ0 299 yJ1_toChars_9d188, Cond.static yJ1_toChars_9d188, Cond.initialized RJ1, Cond.code yJ1_toChars_9d188 cJ1_toChars_9d188 2 (some (.array .char)), Cond.methodLink RJ1 13 yJ1_inflate_03870, Cond.static yJ1_inflate_03870, Cond.code yJ1_inflate_03870 cJ1_inflate_03870 6 none]
def wsX11_init_r4 : List Cond := [Cond.methodLink RJ0 303 yJ2_toChars_9d188, Cond.static yJ2_toChars_9d188, Cond.initialized RJ2, Cond.code yJ2_toChars_9d188 cJ2_toChars_9d188 2 (some (.array .char)), Cond.methodLink RJ2 103 yJ2_getChars_a1a8b, Cond.static yJ2_getChars_a1a8b, Cond.code yJ2_getChars_a1a8b cJ2_getChars_a1a8b 6 none, Cond.methodLink RJ2 173 yJ2_checkBoundsOffCount_d044e, Cond.static yJ2_checkBoundsOffCount_d044e, Cond.code yJ2_checkBoundsOffCount_d044e cJ2_checkBoundsOffCount_d044e 3 none, Cond.methodLink RJ2 48 yJ2_length_9d52b, Cond.static yJ2_length_9d52b, Cond.code yJ2_length_9d52b cJ2_length_9d52b 1 (some .int), Cond.methodLink RJ2 419 yJ0_checkBoundsOffCount_cabcc, Cond.static yJ0_checkBoundsOffCount_cabcc, Cond.code yJ0_checkBoundsOffCount_cabcc cJ0_checkBoundsOffCount_cabcc 3 (some .int), Cond.fieldLink RJ0 1053 "jdk/internal/util/Preconditions" "SIOOBE_FORMATTER" "Ljava/util/function/BiFunction;", Cond.methodLink RJ0 1065 yJ3_checkFromIndexSize_8c36e, Cond.static yJ3_checkFromIndexSize_8c36e, Cond.initialized RJ3, Cond.code yJ3_checkFromIndexSize_8c36e cJ3_checkFromIndexSize_8c36e 4 (some .int), Cond.methodLink RJ2 71 yJ2_getChar_3b067, Cond.static yJ2_getChar_3b067, Cond.code yJ2_getChar_3b067 cJ2_getChar_3b067 2 (some .char)]
def wsX11_init_r5 : List Cond := [Cond.fieldLink RJ2 44 "java/lang/StringUTF16" "$assertionsDisabled" "Z", Cond.fieldLink RJ2 59 "java/lang/StringUTF16" "HI_BYTE_SHIFT" "I", Cond.fieldLink RJ2 63 "java/lang/StringUTF16" "LO_BYTE_SHIFT" "I", Cond.methodLink RX6 81 yX6_half, Cond.static yX6_half, Cond.code yX6_half cX6_half 6 (some .long), Cond.methodLink RX6 85 yX6_addSymbol, Cond.instanceMethod yX6_addSymbol, Cond.selects RX6 yX6_addSymbol yX6_addSymbol, Cond.code yX6_addSymbol cX6_addSymbol 5 (some .int), Cond.methodLink RX6 95 yX6_addName, Cond.instanceMethod yX6_addName, Cond.selects RX6 yX6_addName yX6_addName, Cond.code yX6_addName cX6_addName 3 (some .int), Cond.instanceMethod yX1_init, Cond.code yX1_init cX1_init 1 none, Cond.methodLink RX1 3 objectInit, Cond.fieldLink RX1 11 "MacroScopes$Forms" "what" "[I", Cond.fieldLink RX1 15 "MacroScopes$Forms" "span" "[I", Cond.fieldLink RX1 18 "MacroScopes$Forms" "top" "I", Cond.fieldLink RX1 22 "MacroScopes$Forms" "kept" "I", Cond.instanceMethod yX10_init, Cond.code yX10_init cX10_init 1 none, Cond.methodLink RX10 3 objectInit]
def wsX11_init_r6 : List Cond := [Cond.fieldLink RX10 9 "MacroScopes$Told" "taken" "[C", Cond.fieldLink RX10 15 "MacroScopes$Told" "takenLength" "I", Cond.fieldLink RX10 19 "MacroScopes$Told" "text" "[C", Cond.fieldLink RX10 22 "MacroScopes$Told" "length" "I", Cond.fieldLink RX10 25 "MacroScopes$Told" "last" "C", Cond.methodLink RX11 36 yX7_init, Cond.instanceMethod yX7_init, Cond.code yX7_init cX7_init 3 none, Cond.methodLink RX7 3 objectInit, Cond.fieldLink RX7 9 "MacroScopes$Reader" "open" "[I", Cond.fieldLink RX7 15 "MacroScopes$Reader" "opened" "I", Cond.fieldLink RX7 19 "MacroScopes$Reader" "forms" "LMacroScopes$Forms;", Cond.fieldLink RX7 23 "MacroScopes$Reader" "names" "LMacroScopes$Names;", Cond.methodLink RX11 45 yX0_init, Cond.instanceMethod yX0_init, Cond.code yX0_init cX0_init 5 none, Cond.methodLink RX0 3 objectInit, Cond.classLink RX0 9 RX2, Cond.instantiable RX2 7, Cond.initialized RX2, Cond.fieldLink RX0 12 "MacroScopes$Expander" "frames" "LMacroScopes$Frames;", Cond.fieldLink RX0 18 "MacroScopes$Expander" "nextTop" "I", Cond.fieldLink RX0 22 "MacroScopes$Expander" "defined" "I", Cond.fieldLink RX0 25 "MacroScopes$Expander" "fault" "I"]
def wsX11_init_r7 : List Cond := [Cond.fieldLink RX0 28 "MacroScopes$Expander" "place" "I", Cond.fieldLink RX0 31 "MacroScopes$Expander" "uses" "I", Cond.fieldLink RX0 34 "MacroScopes$Expander" "layers" "I", Cond.fieldLink RX0 37 "MacroScopes$Expander" "variables" "I", Cond.classLink RX0 40 RX5, Cond.instantiable RX5 6, Cond.initialized RX5, Cond.fieldLink RX0 43 "MacroScopes$Expander" "forms" "LMacroScopes$Forms;", Cond.fieldLink RX0 47 "MacroScopes$Expander" "names" "LMacroScopes$Names;", Cond.fieldLink RX0 51 "MacroScopes$Expander" "told" "LMacroScopes$Told;", Cond.classLink RX0 55 RX9, Cond.instantiable RX9 6, Cond.initialized RX9, Cond.fieldLink RX0 60 "MacroScopes$Expander" "scopes" "LMacroScopes$Scopes;", Cond.classLink RX0 64 RX8, Cond.instantiable RX8 4, Cond.initialized RX8, Cond.fieldLink RX0 69 "MacroScopes$Expander" "ruleCheck" "LMacroScopes$RuleCheck;", Cond.classLink RX0 73 RX4, Cond.instantiable RX4 6, Cond.initialized RX4, Cond.fieldLink RX0 78 "MacroScopes$Expander" "matcher" "LMacroScopes$Matcher;", Cond.classLink RX0 82 RX3, Cond.instantiable RX3 6]
def wsX11_init_r8 : List Cond := [Cond.initialized RX3, Cond.fieldLink RX0 87 "MacroScopes$Expander" "maker" "LMacroScopes$Maker;", Cond.instanceMethod yX2_init, Cond.code yX2_init cX2_init 1 none, Cond.methodLink RX2 3 objectInit, Cond.fieldLink RX2 11 "MacroScopes$Frames" "next" "[I", Cond.fieldLink RX2 15 "MacroScopes$Frames" "end" "[I", Cond.arrayClass .boolean, Cond.fieldLink RX2 18 "MacroScopes$Frames" "closes" "[Z", Cond.fieldLink RX2 22 "MacroScopes$Frames" "formsBefore" "[I", Cond.fieldLink RX2 25 "MacroScopes$Frames" "namesBefore" "[I", Cond.fieldLink RX2 28 "MacroScopes$Frames" "scopesBefore" "[I", Cond.fieldLink RX2 31 "MacroScopes$Frames" "top" "I", Cond.instanceMethod yX5_init, Cond.code yX5_init cX5_init 1 none, Cond.methodLink RX5 3 objectInit, Cond.fieldLink RX5 9 "MacroScopes$Matches" "first" "[I", Cond.fieldLink RX5 15 "MacroScopes$Matches" "apart" "[I", Cond.fieldLink RX5 18 "MacroScopes$Matches" "times" "[I", Cond.fieldLink RX5 21 "MacroScopes$Matches" "matched" "[I", Cond.fieldLink RX5 24 "MacroScopes$Matches" "variables" "I", Cond.fieldLink RX5 28 "MacroScopes$Matches" "forms" "I", Cond.methodLink RX0 57 yX9_init, Cond.instanceMethod yX9_init]
def wsX11_init_r9 : List Cond := [Cond.code yX9_init cX9_init 2 none, Cond.methodLink RX9 3 objectInit, Cond.fieldLink RX9 11 "MacroScopes$Scopes" "name" "[I", Cond.fieldLink RX9 15 "MacroScopes$Scopes" "outer" "[I", Cond.fieldLink RX9 18 "MacroScopes$Scopes" "value" "[I", Cond.fieldLink RX9 21 "MacroScopes$Scopes" "home" "[I", Cond.fieldLink RX9 24 "MacroScopes$Scopes" "top" "I", Cond.fieldLink RX9 28 "MacroScopes$Scopes" "names" "LMacroScopes$Names;", Cond.methodLink RX0 66 yX8_init, Cond.instanceMethod yX8_init, Cond.code yX8_init cX8_init 4 none, Cond.methodLink RX8 3 objectInit, Cond.fieldLink RX8 9 "MacroScopes$RuleCheck" "literals" "I", Cond.fieldLink RX8 15 "MacroScopes$RuleCheck" "forms" "LMacroScopes$Forms;", Cond.fieldLink RX8 19 "MacroScopes$RuleCheck" "names" "LMacroScopes$Names;", Cond.fieldLink RX8 23 "MacroScopes$RuleCheck" "scopes" "LMacroScopes$Scopes;", Cond.methodLink RX0 75 yX4_init, Cond.instanceMethod yX4_init, Cond.code yX4_init cX4_init 5 none, Cond.methodLink RX4 3 objectInit, Cond.fieldLink RX4 9 "MacroScopes$Matcher" "literals" "I", Cond.fieldLink RX4 15 "MacroScopes$Matcher" "home" "I", Cond.fieldLink RX4 18 "MacroScopes$Matcher" "forms" "LMacroScopes$Forms;", Cond.fieldLink RX4 22 "MacroScopes$Matcher" "names" "LMacroScopes$Names;"]
def wsX11_init_r10 : List Cond := [Cond.fieldLink RX4 26 "MacroScopes$Matcher" "scopes" "LMacroScopes$Scopes;", Cond.fieldLink RX4 30 "MacroScopes$Matcher" "matches" "LMacroScopes$Matches;", Cond.methodLink RX0 84 yX3_init, Cond.instanceMethod yX3_init, Cond.code yX3_init cX3_init 4 none, Cond.methodLink RX3 3 objectInit, Cond.fieldLink RX3 9 "MacroScopes$Maker" "home" "I", Cond.fieldLink RX3 15 "MacroScopes$Maker" "start" "I", Cond.fieldLink RX3 18 "MacroScopes$Maker" "tooMuch" "Z", Cond.fieldLink RX3 22 "MacroScopes$Maker" "forms" "LMacroScopes$Forms;", Cond.fieldLink RX3 26 "MacroScopes$Maker" "names" "LMacroScopes$Names;", Cond.fieldLink RX3 30 "MacroScopes$Maker" "matches" "LMacroScopes$Matches;"]
def wsX11_init : List Cond := .code yX11_init cX11_init 1 none :: ((wsX11_init_r1 ++ (wsX11_init_r2 ++ (wsX11_init_r3 ++ (wsX11_init_r4 ++ (wsX11_init_r5 ++ (wsX11_init_r6 ++ (wsX11_init_r7 ++ (wsX11_init_r8 ++ (wsX11_init_r9 ++ wsX11_init_r10))))))))) ++ wsX110 ++ wsX60 ++ wsX10 ++ wsX100 ++ wsX70 ++ wsX00 ++ wsX20 ++ wsX50 ++ wsX90 ++ wsX80 ++ wsX40 ++ wsX30)
def wsX11_byteOf : List Cond := .code yX11_byteOf cX11_byteOf 3 (some .int) :: ([])
def wsX11_type : List Cond := .code yX11_type cX11_type 6 (some .int) :: ([.fieldLink RX11 52 "MacroScopes" "typedLength" "I", .fieldLink RX11 9 "MacroScopes" "typed" "[C", .methodLink RX11 68 yX11_byteOf, .static yX11_byteOf, .initialized RX11, .code yX11_byteOf cX11_byteOf 3 (some .int)] ++ wsX110)
def wsX11_takeText : List Cond := .code yX11_takeText cX11_takeText 2 none :: ([.fieldLink RX11 30 "MacroScopes" "told" "LMacroScopes$Told;", .fieldLink RX11 48 "MacroScopes" "expander" "LMacroScopes$Expander;", .fieldLink RX11 59 "MacroScopes" "uses" "I", .fieldLink RX11 62 "MacroScopes" "variables" "I", .fieldLink RX11 65 "MacroScopes" "topForms" "I", .fieldLink RX11 16 "MacroScopes" "names" "LMacroScopes$Names;", .methodLink RX11 127 yX10_take, .instanceMethod yX10_take, .selects RX10 yX10_take yX10_take, .initialized RX10, .code yX10_take cX10_take 2 none, .fieldLink RX10 9 "MacroScopes$Told" "taken" "[C", .fieldLink RX10 19 "MacroScopes$Told" "text" "[C", .fieldLink RX10 22 "MacroScopes$Told" "length" "I", .fieldLink RX10 15 "MacroScopes$Told" "takenLength" "I", .methodLink RX11 132 yX6_take, .instanceMethod yX6_take, .selects RX6 yX6_take yX6_take, .initialized RX6, .code yX6_take cX6_take 2 none, .fieldLink RX6 29 "MacroScopes$Names" "symbolsBefore" "I", .fieldLink RX6 25 "MacroScopes$Names" "symbols" "I"] ++ wsX110 ++ wsX00 ++ wsX100 ++ wsX60)
def wsX11_read_r1 : List Cond := [Cond.fieldLink RX11 23 "MacroScopes" "forms" "LMacroScopes$Forms;", Cond.fieldLink RX11 16 "MacroScopes" "names" "LMacroScopes$Names;", Cond.fieldLink RX11 30 "MacroScopes" "told" "LMacroScopes$Told;", Cond.fieldLink RX11 56 "MacroScopes" "place" "I", Cond.fieldLink RX11 39 "MacroScopes" "reader" "LMacroScopes$Reader;", Cond.fieldLink RX11 9 "MacroScopes" "typed" "[C", Cond.fieldLink RX11 52 "MacroScopes" "typedLength" "I", Cond.fieldLink RX11 48 "MacroScopes" "expander" "LMacroScopes$Expander;", Cond.methodLink RX11 75 yX6_startText, Cond.instanceMethod yX6_startText, Cond.selects RX6 yX6_startText yX6_startText, Cond.initialized RX6, Cond.code yX6_startText cX6_startText 1 none, Cond.fieldLink RX6 25 "MacroScopes$Names" "symbols" "I", Cond.fieldLink RX6 47 "MacroScopes$Names" "top" "I", Cond.fieldLink RX6 29 "MacroScopes$Names" "symbolsBefore" "I", Cond.fieldLink RX6 18 "MacroScopes$Names" "rules" "[I", Cond.fieldLink RX6 22 "MacroScopes$Names" "rulesBefore" "[I", Cond.methodLink RX6 89 arraycopyName, Cond.native arraycopyName, Cond.static arraycopyName, Cond.initialized "java/lang/System", Cond.methodLink RX11 78 yX1_startText, Cond.instanceMethod yX1_startText]
def wsX11_read_r2 : List Cond := [Cond.selects RX1 yX1_startText yX1_startText, Cond.initialized RX1, Cond.code yX1_startText cX1_startText 1 none, Cond.fieldLink RX1 18 "MacroScopes$Forms" "top" "I", Cond.methodLink RX11 79 yX10_startText, Cond.instanceMethod yX10_startText, Cond.selects RX10 yX10_startText yX10_startText, Cond.initialized RX10, Cond.code yX10_startText cX10_startText 1 none, Cond.fieldLink RX10 22 "MacroScopes$Told" "length" "I", Cond.methodLink RX11 80 yX7_addForms, Cond.instanceMethod yX7_addForms, Cond.selects RX7 yX7_addForms yX7_addForms, Cond.initialized RX7, Cond.code yX7_addForms cX7_addForms 7 (some .int), Cond.fieldLink RX7 15 "MacroScopes$Reader" "opened" "I", Cond.methodLink RX7 37 Lib.Math.max.name, Cond.static Lib.Math.max.name, Cond.initialized "java/lang/Math", Cond.code Lib.Math.max.name Lib.Math.max.code 2 (some .int), Cond.methodLink RX7 27 yX7_tokenFrom, Cond.instanceMethod yX7_tokenFrom, Cond.selects RX7 yX7_tokenFrom yX7_tokenFrom, Cond.code yX7_tokenFrom cX7_tokenFrom 5 (some .int)]
def wsX11_read_r3 : List Cond := [Cond.methodLink RX7 31 yX7_tokenEnd, Cond.instanceMethod yX7_tokenEnd, Cond.selects RX7 yX7_tokenEnd yX7_tokenEnd, Cond.code yX7_tokenEnd cX7_tokenEnd 5 (some .int), Cond.methodLink RX7 91 yX7_isBreak, Cond.static yX7_isBreak, Cond.code yX7_isBreak cX7_isBreak 1 (some .boolean), Cond.methodLink RX7 34 yX7_addToken, Cond.instanceMethod yX7_addToken, Cond.selects RX7 yX7_addToken yX7_addToken, Cond.code yX7_addToken cX7_addToken 5 (some .int), Cond.methodLink RX7 43 yX7_openList, Cond.instanceMethod yX7_openList, Cond.selects RX7 yX7_openList yX7_openList, Cond.code yX7_openList cX7_openList 1 (some .int), Cond.fieldLink RX7 9 "MacroScopes$Reader" "open" "[I", Cond.fieldLink RX7 19 "MacroScopes$Reader" "forms" "LMacroScopes$Forms;", Cond.methodLink RX7 65 yX1_add, Cond.instanceMethod yX1_add, Cond.selects RX1 yX1_add yX1_add, Cond.code yX1_add cX1_add 2 (some .int), Cond.fieldLink RX1 11 "MacroScopes$Forms" "what" "[I", Cond.fieldLink RX1 15 "MacroScopes$Forms" "span" "[I", Cond.methodLink RX7 47 yX7_closeList]
def wsX11_read_r4 : List Cond := [Cond.instanceMethod yX7_closeList, Cond.selects RX7 yX7_closeList yX7_closeList, Cond.code yX7_closeList cX7_closeList 1 (some .int), Cond.methodLink RX7 69 yX1_endList, Cond.instanceMethod yX1_endList, Cond.selects RX1 yX1_endList yX1_endList, Cond.code yX1_endList cX1_endList 2 none, Cond.methodLink RX7 50 yX7_isNumber, Cond.static yX7_isNumber, Cond.code yX7_isNumber cX7_isNumber 3 (some .boolean), Cond.methodLink RX7 95 yX7_isDigits, Cond.static yX7_isDigits, Cond.code yX7_isDigits cX7_isDigits 4 (some .boolean), Cond.methodLink RX7 54 yX7_addNumber, Cond.instanceMethod yX7_addNumber, Cond.selects RX7 yX7_addNumber yX7_addNumber, Cond.code yX7_addNumber cX7_addNumber 6 (some .int), Cond.methodLink RX7 73 yX1_ofNumber, Cond.static yX1_ofNumber, Cond.code yX1_ofNumber cX1_ofNumber 1 (some .int), Cond.methodLink RX7 57 yX7_isSymbol, Cond.instanceMethod yX7_isSymbol, Cond.selects RX7 yX7_isSymbol yX7_isSymbol, Cond.code yX7_isSymbol cX7_isSymbol 4 (some .boolean)]
def wsX11_read_r5 : List Cond := [Cond.methodLink RX7 76 yX7_symbolOf, Cond.instanceMethod yX7_symbolOf, Cond.selects RX7 yX7_symbolOf yX7_symbolOf, Cond.code yX7_symbolOf cX7_symbolOf 4 (some .int), Cond.fieldLink RX7 23 "MacroScopes$Reader" "names" "LMacroScopes$Names;", Cond.methodLink RX7 79 yX6_half, Cond.static yX6_half, Cond.code yX6_half cX6_half 6 (some .long), Cond.methodLink RX7 98 yX6_find, Cond.instanceMethod yX6_find, Cond.selects RX6 yX6_find yX6_find, Cond.code yX6_find cX6_find 6 (some .int), Cond.fieldLink RX6 9 "MacroScopes$Names" "firstHalf" "[J", Cond.fieldLink RX6 15 "MacroScopes$Names" "secondHalf" "[J", Cond.methodLink RX7 60 yX7_addSymbol, Cond.instanceMethod yX7_addSymbol, Cond.selects RX7 yX7_addSymbol yX7_addSymbol, Cond.code yX7_addSymbol cX7_addSymbol 5 (some .int), Cond.methodLink RX7 85 yX6_addSymbol, Cond.instanceMethod yX6_addSymbol, Cond.selects RX6 yX6_addSymbol yX6_addSymbol, Cond.code yX6_addSymbol cX6_addSymbol 5 (some .int), Cond.methodLink RX6 95 yX6_addName, Cond.instanceMethod yX6_addName]
def wsX11_read_r6 : List Cond := [Cond.selects RX6 yX6_addName yX6_addName, Cond.code yX6_addName cX6_addName 3 (some .int), Cond.fieldLink RX6 32 "MacroScopes$Names" "original" "[I", Cond.fieldLink RX6 35 "MacroScopes$Names" "home" "[I", Cond.fieldLink RX6 38 "MacroScopes$Names" "binding" "[I", Cond.fieldLink RX6 41 "MacroScopes$Names" "mark" "[I", Cond.methodLink RX7 88 yX1_ofName, Cond.static yX1_ofName, Cond.code yX1_ofName cX1_ofName 1 (some .int), Cond.methodLink RX11 84 yX0_tellText, Cond.instanceMethod yX0_tellText, Cond.selects RX0 yX0_tellText yX0_tellText, Cond.initialized RX0, Cond.code yX0_tellText cX0_tellText 5 (some .int), Cond.fieldLink RX0 43 "MacroScopes$Expander" "forms" "LMacroScopes$Forms;", Cond.constant RX0 99 (1000000), Cond.fieldLink RX0 25 "MacroScopes$Expander" "fault" "I", Cond.fieldLink RX0 12 "MacroScopes$Expander" "frames" "LMacroScopes$Frames;", Cond.fieldLink RX0 18 "MacroScopes$Expander" "nextTop" "I", Cond.fieldLink RX0 60 "MacroScopes$Expander" "scopes" "LMacroScopes$Scopes;", Cond.fieldLink RX0 51 "MacroScopes$Expander" "told" "LMacroScopes$Told;", Cond.methodLink RX0 91 yX0_startText, Cond.instanceMethod yX0_startText, Cond.selects RX0 yX0_startText yX0_startText]
def wsX11_read_r7 : List Cond := [Cond.code yX0_startText cX0_startText 1 none, Cond.fieldLink RX0 22 "MacroScopes$Expander" "defined" "I", Cond.fieldLink RX0 28 "MacroScopes$Expander" "place" "I", Cond.fieldLink RX0 31 "MacroScopes$Expander" "uses" "I", Cond.fieldLink RX0 34 "MacroScopes$Expander" "layers" "I", Cond.fieldLink RX0 37 "MacroScopes$Expander" "variables" "I", Cond.methodLink RX0 101 yX0_nextInFrame, Cond.instanceMethod yX0_nextInFrame, Cond.selects RX0 yX0_nextInFrame yX0_nextInFrame, Cond.code yX0_nextInFrame cX0_nextInFrame 2 (some .int), Cond.methodLink RX0 147 yX2_nextForm, Cond.instanceMethod yX2_nextForm, Cond.selects RX2 yX2_nextForm yX2_nextForm, Cond.initialized RX2, Cond.code yX2_nextForm cX2_nextForm 4 (some .int), Cond.fieldLink RX2 31 "MacroScopes$Frames" "top" "I", Cond.fieldLink RX2 11 "MacroScopes$Frames" "next" "[I", Cond.fieldLink RX2 15 "MacroScopes$Frames" "end" "[I", Cond.methodLink RX2 35 yX1_after, Cond.instanceMethod yX1_after, Cond.selects RX1 yX1_after yX1_after, Cond.code yX1_after cX1_after 2 (some .int), Cond.methodLink RX0 151 yX0_leaveFrame, Cond.instanceMethod yX0_leaveFrame]
def wsX11_read_r8 : List Cond := [Cond.selects RX0 yX0_leaveFrame yX0_leaveFrame, Cond.code yX0_leaveFrame cX0_leaveFrame 2 none, Cond.fieldLink RX0 47 "MacroScopes$Expander" "names" "LMacroScopes$Names;", Cond.methodLink RX0 158 yX10_close, Cond.instanceMethod yX10_close, Cond.selects RX10 yX10_close yX10_close, Cond.code yX10_close cX10_close 1 none, Cond.methodLink RX10 29 yX10_add, Cond.instanceMethod yX10_add, Cond.selects RX10 yX10_add yX10_add, Cond.code yX10_add cX10_add 2 none, Cond.fieldLink RX10 19 "MacroScopes$Told" "text" "[C", Cond.fieldLink RX10 25 "MacroScopes$Told" "last" "C", Cond.methodLink RX0 139 yX9_leaveTo, Cond.instanceMethod yX9_leaveTo, Cond.selects RX9 yX9_leaveTo yX9_leaveTo, Cond.initialized RX9, Cond.code yX9_leaveTo cX9_leaveTo 2 none, Cond.fieldLink RX9 24 "MacroScopes$Scopes" "top" "I", Cond.fieldLink RX9 28 "MacroScopes$Scopes" "names" "LMacroScopes$Names;", Cond.fieldLink RX9 11 "MacroScopes$Scopes" "name" "[I", Cond.fieldLink RX9 15 "MacroScopes$Scopes" "outer" "[I", Cond.methodLink RX9 36 yX6_has, Cond.instanceMethod yX6_has]
def wsX11_read_r9 : List Cond := [Cond.selects RX6 yX6_has yX6_has, Cond.code yX6_has cX6_has 2 (some .boolean), Cond.methodLink RX0 174 yX6_setRules, Cond.instanceMethod yX6_setRules, Cond.selects RX6 yX6_setRules yX6_setRules, Cond.code yX6_setRules cX6_setRules 3 none, Cond.methodLink RX0 105 yX0_nextTopForm, Cond.instanceMethod yX0_nextTopForm, Cond.selects RX0 yX0_nextTopForm yX0_nextTopForm, Cond.code yX0_nextTopForm cX0_nextTopForm 2 (some .int), Cond.methodLink RX0 177 yX1_after, Cond.methodLink RX0 180 yX0_remember, Cond.instanceMethod yX0_remember, Cond.selects RX0 yX0_remember yX0_remember, Cond.code yX0_remember cX0_remember 1 none, Cond.methodLink RX0 193 yX2_remember, Cond.instanceMethod yX2_remember, Cond.selects RX2 yX2_remember yX2_remember, Cond.code yX2_remember cX2_remember 4 none, Cond.fieldLink RX2 22 "MacroScopes$Frames" "formsBefore" "[I", Cond.fieldLink RX2 25 "MacroScopes$Frames" "namesBefore" "[I", Cond.fieldLink RX2 28 "MacroScopes$Frames" "scopesBefore" "[I", Cond.methodLink RX0 183 yX1_head, Cond.instanceMethod yX1_head]
def wsX11_read_r10 : List Cond := [Cond.selects RX1 yX1_head yX1_head, Cond.code yX1_head cX1_head 2 (some .int), Cond.methodLink RX1 36 yX1_isList, Cond.instanceMethod yX1_isList, Cond.selects RX1 yX1_isList yX1_isList, Cond.code yX1_isList cX1_isList 2 (some .boolean), Cond.methodLink RX1 40 yX1_size, Cond.instanceMethod yX1_size, Cond.selects RX1 yX1_size yX1_size, Cond.code yX1_size cX1_size 2 (some .int), Cond.methodLink RX1 43 yX1_nameOf, Cond.instanceMethod yX1_nameOf, Cond.selects RX1 yX1_nameOf yX1_nameOf, Cond.code yX1_nameOf cX1_nameOf 3 (some .int), Cond.methodLink RX0 186 yX0_define, Cond.instanceMethod yX0_define, Cond.selects RX0 yX0_define yX0_define, Cond.code yX0_define cX0_define 2 none, Cond.methodLink RX0 206 yX0_definesSymbol, Cond.instanceMethod yX0_definesSymbol, Cond.selects RX0 yX0_definesSymbol yX0_definesSymbol, Cond.code yX0_definesSymbol cX0_definesSymbol 3 (some .boolean), Cond.methodLink RX0 196 yX1_part, Cond.instanceMethod yX1_part]
def wsX11_read_r11 : List Cond := [Cond.selects RX1 yX1_part yX1_part, Cond.code yX1_part cX1_part 5 (some .int), Cond.methodLink RX1 46 yX1_after, Cond.methodLink RX0 200 yX1_nameOf, Cond.methodLink RX0 203 yX1_parts, Cond.instanceMethod yX1_parts, Cond.selects RX1 yX1_parts yX1_parts, Cond.code yX1_parts cX1_parts 4 (some .int), Cond.methodLink RX0 209 yX10_open, Cond.instanceMethod yX10_open, Cond.selects RX10 yX10_open yX10_open, Cond.code yX10_open cX10_open 1 none, Cond.methodLink RX10 33 yX10_addBlank, Cond.instanceMethod yX10_addBlank, Cond.selects RX10 yX10_addBlank yX10_addBlank, Cond.code yX10_addBlank cX10_addBlank 1 none, Cond.methodLink RX0 212 yX10_addSymbol, Cond.instanceMethod yX10_addSymbol, Cond.selects RX10 yX10_addSymbol yX10_addSymbol, Cond.code yX10_addSymbol cX10_addSymbol 3 none, Cond.methodLink RX10 46 yX10_addHalf, Cond.instanceMethod yX10_addHalf, Cond.selects RX10 yX10_addHalf yX10_addHalf, Cond.code yX10_addHalf cX10_addHalf 5 none]
def wsX11_read_r12 : List Cond := [Cond.constantLong RX10 53 (255), Cond.methodLink RX0 216 yX2_enter, Cond.instanceMethod yX2_enter, Cond.selects RX2 yX2_enter yX2_enter, Cond.code yX2_enter cX2_enter 4 none, Cond.fieldLink RX2 18 "MacroScopes$Frames" "closes" "[Z", Cond.methodLink RX0 189 yX0_defineSyntax, Cond.instanceMethod yX0_defineSyntax, Cond.selects RX0 yX0_defineSyntax yX0_defineSyntax, Cond.code yX0_defineSyntax cX0_defineSyntax 4 none, Cond.fieldLink RX0 69 "MacroScopes$Expander" "ruleCheck" "LMacroScopes$RuleCheck;", Cond.methodLink RX0 220 yX8_fits, Cond.instanceMethod yX8_fits, Cond.selects RX8 yX8_fits yX8_fits, Cond.initialized RX8, Cond.code yX8_fits cX8_fits 6 (some .boolean), Cond.fieldLink RX8 15 "MacroScopes$RuleCheck" "forms" "LMacroScopes$Forms;", Cond.fieldLink RX8 9 "MacroScopes$RuleCheck" "literals" "I", Cond.fieldLink RX8 23 "MacroScopes$RuleCheck" "scopes" "LMacroScopes$Scopes;", Cond.methodLink RX8 27 yX1_parts, Cond.methodLink RX8 33 yX1_head, Cond.methodLink RX8 36 yX1_part, Cond.methodLink RX8 40 yX9_meaning, Cond.instanceMethod yX9_meaning]
def wsX11_read_r13 : List Cond := [Cond.selects RX9 yX9_meaning yX9_meaning, Cond.code yX9_meaning cX9_meaning 6 (some .int), Cond.methodLink RX9 45 Lib.Math.min.name, Cond.static Lib.Math.min.name, Cond.code Lib.Math.min.name Lib.Math.min.code 2 (some .int), Cond.fieldLink RX9 21 "MacroScopes$Scopes" "home" "[I", Cond.fieldLink RX9 18 "MacroScopes$Scopes" "value" "[I", Cond.methodLink RX9 54 yX6_rulesOf, Cond.instanceMethod yX6_rulesOf, Cond.selects RX6 yX6_rulesOf yX6_rulesOf, Cond.code yX6_rulesOf cX6_rulesOf 2 (some .int), Cond.methodLink RX8 45 yX8_literalsFit, Cond.instanceMethod yX8_literalsFit, Cond.selects RX8 yX8_literalsFit yX8_literalsFit, Cond.code yX8_literalsFit cX8_literalsFit 2 (some .boolean), Cond.methodLink RX8 56 yX1_isList, Cond.methodLink RX8 49 yX1_after, Cond.methodLink RX8 59 yX1_nameOf, Cond.methodLink RX8 62 yX6_canBeBound, Cond.static yX6_canBeBound, Cond.code yX6_canBeBound cX6_canBeBound 1 (some .boolean), Cond.methodLink RX8 52 yX8_ruleFits, Cond.instanceMethod yX8_ruleFits, Cond.selects RX8 yX8_ruleFits yX8_ruleFits]
def wsX11_read_r14 : List Cond := [Cond.code yX8_ruleFits cX8_ruleFits 3 (some .boolean), Cond.fieldLink RX8 19 "MacroScopes$RuleCheck" "names" "LMacroScopes$Names;", Cond.methodLink RX8 67 yX6_clearNotes, Cond.instanceMethod yX6_clearNotes, Cond.selects RX6 yX6_clearNotes yX6_clearNotes, Cond.code yX6_clearNotes cX6_clearNotes 1 none, Cond.fieldLink RX6 50 "MacroScopes$Names" "latestMark" "I", Cond.methodLink RX8 70 yX8_patternsFit, Cond.instanceMethod yX8_patternsFit, Cond.selects RX8 yX8_patternsFit yX8_patternsFit, Cond.code yX8_patternsFit cX8_patternsFit 6 (some .boolean), Cond.methodLink RX8 78 yX1_isRepeated, Cond.instanceMethod yX1_isRepeated, Cond.selects RX1 yX1_isRepeated yX1_isRepeated, Cond.code yX1_isRepeated cX1_isRepeated 3 (some .boolean), Cond.methodLink RX8 81 yX8_patternFits, Cond.instanceMethod yX8_patternFits, Cond.selects RX8 yX8_patternFits yX8_patternFits, Cond.code yX8_patternFits cX8_patternFits 6 (some .boolean), Cond.methodLink RX8 85 yX1_holdsDots, Cond.instanceMethod yX1_holdsDots, Cond.selects RX1 yX1_holdsDots yX1_holdsDots, Cond.code yX1_holdsDots cX1_holdsDots 3 (some .boolean), Cond.methodLink RX8 88 yX8_isLiteral]
def wsX11_read_r15 : List Cond := [Cond.static yX8_isLiteral, Cond.code yX8_isLiteral cX8_isLiteral 4 (some .boolean), Cond.methodLink RX8 92 yX6_isNoted, Cond.instanceMethod yX6_isNoted, Cond.selects RX6 yX6_isNoted yX6_isNoted, Cond.code yX6_isNoted cX6_isNoted 2 (some .boolean), Cond.methodLink RX8 95 yX6_setNote, Cond.instanceMethod yX6_setNote, Cond.selects RX6 yX6_setNote yX6_setNote, Cond.code yX6_setNote cX6_setNote 3 none, Cond.fieldLink RX6 44 "MacroScopes$Names" "note" "[I", Cond.methodLink RX6 106 yX6_has, Cond.methodLink RX8 74 yX8_templateFits, Cond.instanceMethod yX8_templateFits, Cond.selects RX8 yX8_templateFits yX8_templateFits, Cond.code yX8_templateFits cX8_templateFits 7 (some .boolean), Cond.methodLink RX8 99 yX8_holdsRepeated, Cond.instanceMethod yX8_holdsRepeated, Cond.selects RX8 yX8_holdsRepeated yX8_holdsRepeated, Cond.code yX8_holdsRepeated cX8_holdsRepeated 3 (some .boolean), Cond.methodLink RX8 102 yX6_noteOf, Cond.instanceMethod yX6_noteOf, Cond.selects RX6 yX6_noteOf yX6_noteOf, Cond.code yX6_noteOf cX6_noteOf 2 (some .int)]
def wsX11_read_r16 : List Cond := [Cond.methodLink RX0 224 yX1_keep, Cond.instanceMethod yX1_keep, Cond.selects RX1 yX1_keep yX1_keep, Cond.code yX1_keep cX1_keep 3 (some .int), Cond.fieldLink RX1 22 "MacroScopes$Forms" "kept" "I", Cond.methodLink RX1 49 arraycopyName, Cond.methodLink RX0 108 yX0_headMeaning, Cond.instanceMethod yX0_headMeaning, Cond.selects RX0 yX0_headMeaning yX0_headMeaning, Cond.code yX0_headMeaning cX0_headMeaning 3 (some .int), Cond.methodLink RX0 227 yX9_meaning, Cond.methodLink RX0 112 yX1_isList, Cond.methodLink RX0 116 yX0_expandAlone, Cond.instanceMethod yX0_expandAlone, Cond.selects RX0 yX0_expandAlone yX0_expandAlone, Cond.code yX0_expandAlone cX0_expandAlone 4 none, Cond.methodLink RX0 230 yX1_numberOf, Cond.instanceMethod yX1_numberOf, Cond.selects RX1 yX1_numberOf yX1_numberOf, Cond.code yX1_numberOf cX1_numberOf 2 (some .int), Cond.methodLink RX1 32 yX1_whatIs, Cond.instanceMethod yX1_whatIs, Cond.selects RX1 yX1_whatIs yX1_whatIs, Cond.code yX1_whatIs cX1_whatIs 2 (some .int)]
def wsX11_read_r17 : List Cond := [Cond.methodLink RX0 233 yX10_addNumber, Cond.instanceMethod yX10_addNumber, Cond.selects RX10 yX10_addNumber yX10_addNumber, Cond.code yX10_addNumber cX10_addNumber 2 none, Cond.methodLink RX10 36 yX10_addDigits, Cond.instanceMethod yX10_addDigits, Cond.selects RX10 yX10_addDigits yX10_addDigits, Cond.code yX10_addDigits cX10_addDigits 4 none, Cond.methodLink RX0 130 yX9_isWord, Cond.static yX9_isWord, Cond.code yX9_isWord cX9_isWord 1 (some .boolean), Cond.methodLink RX0 123 yX9_isMacro, Cond.static yX9_isMacro, Cond.code yX9_isMacro cX9_isMacro 1 (some .boolean), Cond.methodLink RX0 236 yX10_addVariable, Cond.instanceMethod yX10_addVariable, Cond.selects RX10 yX10_addVariable yX10_addVariable, Cond.code yX10_addVariable cX10_addVariable 2 none, Cond.methodLink RX0 239 yX6_root, Cond.instanceMethod yX6_root, Cond.selects RX6 yX6_root yX6_root, Cond.code yX6_root cX6_root 4 (some .int), Cond.methodLink RX6 110 yX6_originalOf, Cond.instanceMethod yX6_originalOf]
def wsX11_read_r18 : List Cond := [Cond.selects RX6 yX6_originalOf yX6_originalOf, Cond.code yX6_originalOf cX6_originalOf 2 (some .int), Cond.methodLink RX0 120 yX0_canExpand, Cond.instanceMethod yX0_canExpand, Cond.selects RX0 yX0_canExpand yX0_canExpand, Cond.code yX0_canExpand cX0_canExpand 2 (some .boolean), Cond.methodLink RX0 242 yX1_size, Cond.methodLink RX0 126 yX0_expandUse, Cond.instanceMethod yX0_expandUse, Cond.selects RX0 yX0_expandUse yX0_expandUse, Cond.code yX0_expandUse cX0_expandUse 6 none, Cond.fieldLink RX0 78 "MacroScopes$Expander" "matcher" "LMacroScopes$Matcher;", Cond.fieldLink RX0 87 "MacroScopes$Expander" "maker" "LMacroScopes$Maker;", Cond.methodLink RX0 245 yX9_homeOf, Cond.instanceMethod yX9_homeOf, Cond.selects RX9 yX9_homeOf yX9_homeOf, Cond.code yX9_homeOf cX9_homeOf 3 (some .int), Cond.methodLink RX0 248 yX9_rulesOf, Cond.instanceMethod yX9_rulesOf, Cond.selects RX9 yX9_rulesOf yX9_rulesOf, Cond.code yX9_rulesOf cX9_rulesOf 3 (some .int), Cond.methodLink RX0 251 yX4_ruleFor, Cond.instanceMethod yX4_ruleFor, Cond.selects RX4 yX4_ruleFor yX4_ruleFor]
def wsX11_read_r19 : List Cond := [Cond.initialized RX4, Cond.code yX4_ruleFor cX4_ruleFor 6 (some .int), Cond.fieldLink RX4 18 "MacroScopes$Matcher" "forms" "LMacroScopes$Forms;", Cond.fieldLink RX4 9 "MacroScopes$Matcher" "literals" "I", Cond.fieldLink RX4 15 "MacroScopes$Matcher" "home" "I", Cond.fieldLink RX4 22 "MacroScopes$Matcher" "names" "LMacroScopes$Names;", Cond.fieldLink RX4 30 "MacroScopes$Matcher" "matches" "LMacroScopes$Matches;", Cond.methodLink RX4 34 yX1_part, Cond.methodLink RX4 40 yX1_after, Cond.methodLink RX4 44 yX6_clearNotes, Cond.methodLink RX4 49 yX5_clear, Cond.instanceMethod yX5_clear, Cond.selects RX5 yX5_clear yX5_clear, Cond.initialized RX5, Cond.code yX5_clear cX5_clear 1 none, Cond.fieldLink RX5 24 "MacroScopes$Matches" "variables" "I", Cond.fieldLink RX5 28 "MacroScopes$Matches" "forms" "I", Cond.methodLink RX4 54 yX4_rowMatches, Cond.instanceMethod yX4_rowMatches, Cond.selects RX4 yX4_rowMatches yX4_rowMatches, Cond.code yX4_rowMatches cX4_rowMatches 9 (some .boolean), Cond.methodLink RX4 58 yX1_isRepeated, Cond.methodLink RX4 62 yX4_restMatches, Cond.instanceMethod yX4_restMatches]
def wsX11_read_r20 : List Cond := [Cond.selects RX4 yX4_restMatches yX4_restMatches, Cond.methodLink RX4 66 yX4_formMatches, Cond.instanceMethod yX4_formMatches, Cond.selects RX4 yX4_formMatches yX4_formMatches, Cond.code yX4_formMatches cX4_formMatches 5 (some .boolean), Cond.methodLink RX4 83 yX1_nameOf, Cond.methodLink RX4 86 yX4_isVariable, Cond.instanceMethod yX4_isVariable, Cond.selects RX4 yX4_isVariable yX4_isVariable, Cond.code yX4_isVariable cX4_isVariable 2 (some .boolean), Cond.methodLink RX4 108 yX6_canBeBound, Cond.methodLink RX4 111 yX8_isLiteral, Cond.methodLink RX4 90 yX5_addVariable, Cond.instanceMethod yX5_addVariable, Cond.selects RX5 yX5_addVariable yX5_addVariable, Cond.code yX5_addVariable cX5_addVariable 2 (some .int), Cond.fieldLink RX5 9 "MacroScopes$Matches" "first" "[I", Cond.fieldLink RX5 15 "MacroScopes$Matches" "apart" "[I", Cond.fieldLink RX5 18 "MacroScopes$Matches" "times" "[I", Cond.methodLink RX4 93 yX6_setNote, Cond.methodLink RX4 96 yX5_addForm, Cond.instanceMethod yX5_addForm, Cond.selects RX5 yX5_addForm yX5_addForm, Cond.code yX5_addForm cX5_addForm 2 none]
def wsX11_read_r21 : List Cond := [Cond.fieldLink RX5 21 "MacroScopes$Matches" "matched" "[I", Cond.methodLink RX4 99 yX4_isMeant, Cond.instanceMethod yX4_isMeant, Cond.selects RX4 yX4_isMeant yX4_isMeant, Cond.code yX4_isMeant cX4_isMeant 3 (some .boolean), Cond.fieldLink RX4 26 "MacroScopes$Matcher" "scopes" "LMacroScopes$Scopes;", Cond.methodLink RX4 117 yX9_meaning, Cond.methodLink RX4 102 yX1_isList, Cond.methodLink RX4 105 yX1_whatIs, Cond.code yX4_restMatches cX4_restMatches 7 (some .boolean), Cond.methodLink RX4 73 yX4_addVariables, Cond.instanceMethod yX4_addVariables, Cond.selects RX4 yX4_addVariables yX4_addVariables, Cond.code yX4_addVariables cX4_addVariables 5 none, Cond.methodLink RX4 77 yX5_repeat, Cond.instanceMethod yX5_repeat, Cond.selects RX5 yX5_repeat yX5_repeat, Cond.code yX5_repeat cX5_repeat 4 none, Cond.methodLink RX5 31 Lib.Math.max.name, Cond.methodLink RX0 255 yX3_make, Cond.instanceMethod yX3_make, Cond.selects RX3 yX3_make yX3_make, Cond.initialized RX3, Cond.code yX3_make cX3_make 3 (some .int)]
def wsX11_read_r22 : List Cond := [Cond.fieldLink RX3 22 "MacroScopes$Maker" "forms" "LMacroScopes$Forms;", Cond.fieldLink RX3 26 "MacroScopes$Maker" "names" "LMacroScopes$Names;", Cond.fieldLink RX3 9 "MacroScopes$Maker" "home" "I", Cond.fieldLink RX3 15 "MacroScopes$Maker" "start" "I", Cond.fieldLink RX3 18 "MacroScopes$Maker" "tooMuch" "Z", Cond.methodLink RX3 34 yX3_isEven, Cond.instanceMethod yX3_isEven, Cond.selects RX3 yX3_isEven yX3_isEven, Cond.code yX3_isEven cX3_isEven 4 (some .boolean), Cond.methodLink RX3 53 yX1_after, Cond.methodLink RX3 57 yX1_isRepeated, Cond.methodLink RX3 61 yX3_turnsOf, Cond.instanceMethod yX3_turnsOf, Cond.selects RX3 yX3_turnsOf yX3_turnsOf, Cond.code yX3_turnsOf cX3_turnsOf 5 (some .int), Cond.fieldLink RX3 30 "MacroScopes$Maker" "matches" "LMacroScopes$Matches;", Cond.methodLink RX3 75 Lib.Math.max.name, Cond.methodLink RX3 66 yX1_nameOf, Cond.methodLink RX3 69 yX6_noteOf, Cond.methodLink RX3 72 yX5_timesOf, Cond.instanceMethod yX5_timesOf, Cond.selects RX5 yX5_timesOf yX5_timesOf, Cond.code yX5_timesOf cX5_timesOf 2 (some .int), Cond.methodLink RX3 38 yX1_makeRoom]
def wsX11_read_r23 : List Cond := [Cond.instanceMethod yX1_makeRoom, Cond.selects RX1 yX1_makeRoom yX1_makeRoom, Cond.code yX1_makeRoom cX1_makeRoom 1 none, Cond.constant RX1 25 (67600), Cond.methodLink RX1 26 yJ7_copyOf_59c91, Cond.static yJ7_copyOf_59c91, Cond.initialized RJ7, Cond.code yJ7_copyOf_59c91 cJ7_copyOf_59c91 3 (some (.array .int)), Cond.methodLink RJ7 316 ⟨"[I", "clone", "()Ljava/lang/Object;"⟩, Cond.sameMethod "[I" "java/lang/Object" "clone" "()Ljava/lang/Object;", Cond.native ⟨"java/lang/Object", "clone", "()Ljava/lang/Object;"⟩, Cond.instanceMethod ⟨"java/lang/Object", "clone", "()Ljava/lang/Object;"⟩, Cond.selects "[I" ⟨"[I", "clone", "()Ljava/lang/Object;"⟩ ⟨"java/lang/Object", "clone", "()Ljava/lang/Object;"⟩, Cond.classLink RJ7 317 "[I", Cond.arrayClass .int, Cond.methodLink RJ7 304 Lib.Math.min.name, Cond.methodLink RJ7 150 arraycopyName, Cond.methodLink RX3 43 yX6_makeRoom, Cond.instanceMethod yX6_makeRoom, Cond.selects RX6 yX6_makeRoom yX6_makeRoom, Cond.code yX6_makeRoom cX6_makeRoom 1 none, Cond.constant RX6 99 (63261), Cond.methodLink RX6 100 yJ7_copyOf_59c91, Cond.methodLink RX3 49 yX3_build]
def wsX11_read_r24 : List Cond := [Cond.instanceMethod yX3_build, Cond.selects RX3 yX3_build yX3_build, Cond.code yX3_build cX3_build 8 none, Cond.methodLink RX3 81 yX1_isList, Cond.methodLink RX3 84 yX3_buildPart, Cond.instanceMethod yX3_buildPart, Cond.selects RX3 yX3_buildPart yX3_buildPart, Cond.code yX3_buildPart cX3_buildPart 6 none, Cond.methodLink RX3 98 yX6_canBeBound, Cond.methodLink RX3 101 yX1_whatIs, Cond.methodLink RX3 104 yX3_add, Cond.instanceMethod yX3_add, Cond.selects RX3 yX3_add yX3_add, Cond.code yX3_add cX3_add 2 (some .int), Cond.methodLink RX3 128 yX1_add, Cond.methodLink RX3 107 yX5_formOf, Cond.instanceMethod yX5_formOf, Cond.selects RX5 yX5_formOf yX5_formOf, Cond.code yX5_formOf cX5_formOf 4 (some .int), Cond.methodLink RX3 110 yX3_copy, Cond.instanceMethod yX3_copy, Cond.selects RX3 yX3_copy yX3_copy, Cond.code yX3_copy cX3_copy 5 none, Cond.methodLink RX3 87 yX3_addList]
def wsX11_read_r25 : List Cond := [Cond.instanceMethod yX3_addList, Cond.selects RX3 yX3_addList yX3_addList, Cond.code yX3_addList cX3_addList 2 (some .int), Cond.methodLink RX3 94 yX1_endList, Cond.methodLink RX3 113 yX3_aliasOf, Cond.instanceMethod yX3_aliasOf, Cond.selects RX3 yX3_aliasOf yX3_aliasOf, Cond.code yX3_aliasOf cX3_aliasOf 2 (some .int), Cond.methodLink RX3 119 yX6_isNoted, Cond.methodLink RX3 122 yX6_addName, Cond.methodLink RX3 125 yX6_setNote, Cond.methodLink RX3 116 yX1_ofName, Cond.methodLink RX3 90 yX3_buildTurns, Cond.instanceMethod yX3_buildTurns, Cond.selects RX3 yX3_buildTurns yX3_buildTurns, Cond.code yX3_buildTurns cX3_buildTurns 5 none, Cond.methodLink RX0 133 yX0_expandWord, Cond.instanceMethod yX0_expandWord, Cond.selects RX0 yX0_expandWord yX0_expandWord, Cond.code yX0_expandWord cX0_expandWord 3 none, Cond.methodLink RX0 258 yX0_expandLambda, Cond.instanceMethod yX0_expandLambda, Cond.selects RX0 yX0_expandLambda yX0_expandLambda, Cond.code yX0_expandLambda cX0_expandLambda 3 none]
def wsX11_read_r26 : List Cond := [Cond.methodLink RX0 279 yX0_startLayer, Cond.instanceMethod yX0_startLayer, Cond.selects RX0 yX0_startLayer yX0_startLayer, Cond.code yX0_startLayer cX0_startLayer 3 (some .boolean), Cond.methodLink RX0 282 yX0_bindVariables, Cond.instanceMethod yX0_bindVariables, Cond.selects RX0 yX0_bindVariables yX0_bindVariables, Cond.code yX0_bindVariables cX0_bindVariables 5 none, Cond.methodLink RX0 285 yX0_canBind, Cond.instanceMethod yX0_canBind, Cond.selects RX0 yX0_canBind yX0_canBind, Cond.code yX0_canBind cX0_canBind 3 (some .boolean), Cond.methodLink RX0 273 yX6_canBeBound, Cond.methodLink RX0 276 yX9_isBoundSince, Cond.instanceMethod yX9_isBoundSince, Cond.selects RX9 yX9_isBoundSince yX9_isBoundSince, Cond.code yX9_isBoundSince cX9_isBoundSince 3 (some .boolean), Cond.methodLink RX0 288 yX9_bindVariable, Cond.instanceMethod yX9_bindVariable, Cond.selects RX9 yX9_bindVariable yX9_bindVariable, Cond.code yX9_bindVariable cX9_bindVariable 3 none, Cond.methodLink RX9 32 yX9_bind, Cond.instanceMethod yX9_bind, Cond.selects RX9 yX9_bind yX9_bind]
def wsX11_read_r27 : List Cond := [Cond.code yX9_bind cX9_bind 4 none, Cond.methodLink RX0 261 yX0_expandLetSyntax, Cond.instanceMethod yX0_expandLetSyntax, Cond.selects RX0 yX0_expandLetSyntax yX0_expandLetSyntax, Cond.code yX0_expandLetSyntax cX0_expandLetSyntax 5 none, Cond.methodLink RX0 291 yX0_bindMacros, Cond.instanceMethod yX0_bindMacros, Cond.selects RX0 yX0_bindMacros yX0_bindMacros, Cond.code yX0_bindMacros cX0_bindMacros 6 none, Cond.methodLink RX0 294 yX9_bindMacro, Cond.instanceMethod yX9_bindMacro, Cond.selects RX9 yX9_bindMacro yX9_bindMacro, Cond.code yX9_bindMacro cX9_bindMacro 4 none, Cond.methodLink RX0 264 yX0_expandIf, Cond.instanceMethod yX0_expandIf, Cond.selects RX0 yX0_expandIf yX0_expandIf, Cond.code yX0_expandIf cX0_expandIf 2 none, Cond.methodLink RX0 267 yX0_expandQuote, Cond.instanceMethod yX0_expandQuote, Cond.selects RX0 yX0_expandQuote yX0_expandQuote, Cond.code yX0_expandQuote cX0_expandQuote 2 none, Cond.methodLink RX0 270 yX0_tellRoots, Cond.instanceMethod yX0_tellRoots, Cond.selects RX0 yX0_tellRoots yX0_tellRoots]
def wsX11_read_r28 : List Cond := [Cond.code yX0_tellRoots cX0_tellRoots 3 none, Cond.methodLink RX0 136 yX0_expandPlain, Cond.instanceMethod yX0_expandPlain, Cond.selects RX0 yX0_expandPlain yX0_expandPlain, Cond.code yX0_expandPlain cX0_expandPlain 2 none, Cond.methodLink RX11 89 yX11_takeText, Cond.instanceMethod yX11_takeText, Cond.selects RX11 yX11_takeText yX11_takeText, Cond.initialized RX11, Cond.code yX11_takeText cX11_takeText 2 none, Cond.fieldLink RX11 59 "MacroScopes" "uses" "I", Cond.fieldLink RX11 62 "MacroScopes" "variables" "I", Cond.fieldLink RX11 65 "MacroScopes" "topForms" "I", Cond.methodLink RX11 127 yX10_take, Cond.instanceMethod yX10_take, Cond.selects RX10 yX10_take yX10_take, Cond.code yX10_take cX10_take 2 none, Cond.fieldLink RX10 9 "MacroScopes$Told" "taken" "[C", Cond.fieldLink RX10 15 "MacroScopes$Told" "takenLength" "I", Cond.methodLink RX11 132 yX6_take, Cond.instanceMethod yX6_take, Cond.selects RX6 yX6_take yX6_take, Cond.code yX6_take cX6_take 2 none, Cond.methodLink RX11 93 yX6_takeBack]
def wsX11_read_r29 : List Cond := [Cond.instanceMethod yX6_takeBack, Cond.selects RX6 yX6_takeBack yX6_takeBack, Cond.code yX6_takeBack cX6_takeBack 1 none]
def wsX11_read : List Cond := .code yX11_read cX11_read 3 (some .int) :: ((wsX11_read_r1 ++ (wsX11_read_r2 ++ (wsX11_read_r3 ++ (wsX11_read_r4 ++ (wsX11_read_r5 ++ (wsX11_read_r6 ++ (wsX11_read_r7 ++ (wsX11_read_r8 ++ (wsX11_read_r9 ++ (wsX11_read_r10 ++ (wsX11_read_r11 ++ (wsX11_read_r12 ++ (wsX11_read_r13 ++ (wsX11_read_r14 ++ (wsX11_read_r15 ++ (wsX11_read_r16 ++ (wsX11_read_r17 ++ (wsX11_read_r18 ++ (wsX11_read_r19 ++ (wsX11_read_r20 ++ (wsX11_read_r21 ++ (wsX11_read_r22 ++ (wsX11_read_r23 ++ (wsX11_read_r24 ++ (wsX11_read_r25 ++ (wsX11_read_r26 ++ (wsX11_read_r27 ++ (wsX11_read_r28 ++ wsX11_read_r29)))))))))))))))))))))))))))) ++ wsX110 ++ wsX10 ++ wsX00 ++ wsX60 ++ wsX100 ++ wsX70 ++ wsX20 ++ wsX90 ++ wsX80 ++ wsX40 ++ wsX50 ++ wsX30)
def wsX11_place : List Cond := .code yX11_place cX11_place 1 (some .int) :: ([.fieldLink RX11 56 "MacroScopes" "place" "I"] ++ wsX110)
def wsX11_count : List Cond := .code yX11_count cX11_count 2 (some .int) :: ([.fieldLink RX11 30 "MacroScopes" "told" "LMacroScopes$Told;", .fieldLink RX11 59 "MacroScopes" "uses" "I", .fieldLink RX11 62 "MacroScopes" "variables" "I", .fieldLink RX11 65 "MacroScopes" "topForms" "I", .fieldLink RX11 16 "MacroScopes" "names" "LMacroScopes$Names;", .fieldLink RX11 23 "MacroScopes" "forms" "LMacroScopes$Forms;", .methodLink RX11 99 yX6_macros, .instanceMethod yX6_macros, .selects RX6 yX6_macros yX6_macros, .initialized RX6, .code yX6_macros cX6_macros 3 (some .int), .fieldLink RX6 25 "MacroScopes$Names" "symbols" "I", .fieldLink RX6 18 "MacroScopes$Names" "rules" "[I"] ++ wsX110 ++ wsX100 ++ wsX10 ++ wsX60)
def wsX11_character : List Cond := .code yX11_character cX11_character 2 (some .int) :: ([.fieldLink RX11 30 "MacroScopes" "told" "LMacroScopes$Told;", .methodLink RX11 102 yX10_at, .instanceMethod yX10_at, .selects RX10 yX10_at yX10_at, .initialized RX10, .code yX10_at cX10_at 2 (some .int), .fieldLink RX10 15 "MacroScopes$Told" "takenLength" "I", .fieldLink RX10 9 "MacroScopes$Told" "taken" "[C"] ++ wsX110 ++ wsX100)
def wsX11_means_r1 : List Cond := [Cond.fieldLink RX11 39 "MacroScopes" "reader" "LMacroScopes$Reader;", Cond.fieldLink RX11 9 "MacroScopes" "typed" "[C", Cond.fieldLink RX11 52 "MacroScopes" "typedLength" "I", Cond.fieldLink RX11 16 "MacroScopes" "names" "LMacroScopes$Names;", Cond.methodLink RX11 106 yX7_tokenFrom, Cond.instanceMethod yX7_tokenFrom, Cond.selects RX7 yX7_tokenFrom yX7_tokenFrom, Cond.initialized RX7, Cond.code yX7_tokenFrom cX7_tokenFrom 5 (some .int), Cond.methodLink RX11 110 yX7_tokenEnd, Cond.instanceMethod yX7_tokenEnd, Cond.selects RX7 yX7_tokenEnd yX7_tokenEnd, Cond.code yX7_tokenEnd cX7_tokenEnd 5 (some .int), Cond.methodLink RX7 91 yX7_isBreak, Cond.static yX7_isBreak, Cond.code yX7_isBreak cX7_isBreak 1 (some .boolean), Cond.methodLink RX11 113 yX7_isSymbol, Cond.instanceMethod yX7_isSymbol, Cond.selects RX7 yX7_isSymbol yX7_isSymbol, Cond.code yX7_isSymbol cX7_isSymbol 4 (some .boolean), Cond.methodLink RX7 95 yX7_isDigits, Cond.static yX7_isDigits, Cond.code yX7_isDigits cX7_isDigits 4 (some .boolean), Cond.methodLink RX7 76 yX7_symbolOf]
def wsX11_means_r2 : List Cond := [Cond.instanceMethod yX7_symbolOf, Cond.selects RX7 yX7_symbolOf yX7_symbolOf, Cond.code yX7_symbolOf cX7_symbolOf 4 (some .int), Cond.fieldLink RX7 23 "MacroScopes$Reader" "names" "LMacroScopes$Names;", Cond.methodLink RX7 79 yX6_half, Cond.static yX6_half, Cond.initialized RX6, Cond.code yX6_half cX6_half 6 (some .long), Cond.methodLink RX7 98 yX6_find, Cond.instanceMethod yX6_find, Cond.selects RX6 yX6_find yX6_find, Cond.code yX6_find cX6_find 6 (some .int), Cond.fieldLink RX6 25 "MacroScopes$Names" "symbols" "I", Cond.fieldLink RX6 9 "MacroScopes$Names" "firstHalf" "[J", Cond.fieldLink RX6 15 "MacroScopes$Names" "secondHalf" "[J", Cond.methodLink RX11 117 yX7_symbolOf, Cond.methodLink RX11 120 yX6_rulesOf, Cond.instanceMethod yX6_rulesOf, Cond.selects RX6 yX6_rulesOf yX6_rulesOf, Cond.code yX6_rulesOf cX6_rulesOf 2 (some .int), Cond.fieldLink RX6 18 "MacroScopes$Names" "rules" "[I"]
def wsX11_means : List Cond := .code yX11_means cX11_means 5 (some .int) :: ((wsX11_means_r1 ++ wsX11_means_r2) ++ wsX110 ++ wsX70 ++ wsX60)
def wsX11_check : List Cond := .code yX11_check cX11_check 1 (some .int) :: ([.fieldLink RX11 30 "MacroScopes" "told" "LMacroScopes$Told;", .methodLink RX11 123 yX10_canBeRead, .instanceMethod yX10_canBeRead, .selects RX10 yX10_canBeRead yX10_canBeRead, .initialized RX10, .code yX10_canBeRead cX10_canBeRead 3 (some .boolean), .fieldLink RX10 15 "MacroScopes$Told" "takenLength" "I", .fieldLink RX10 9 "MacroScopes$Told" "taken" "[C"] ++ wsX110 ++ wsX100)
def wsX12_more : List Cond := .code yX12_more cX12_more 5 none :: ([.fieldLink RX12 18 "MacroScopesModel" "letters" "[B", .fieldLink RX12 21 "MacroScopesModel" "letterFrom" "[I", .fieldLink RX12 165 "MacroScopesModel" "symbols" "I"] ++ wsX120)
def wsX12_word : List Cond := .code yX12_word cX12_word 4 none :: ([.fieldLink RX12 21 "MacroScopesModel" "letterFrom" "[I", .fieldLink RX12 165 "MacroScopesModel" "symbols" "I", .methodLink RX12 145 yX12_more, .instanceMethod yX12_more, .selects RX12 yX12_more yX12_more, .initialized RX12, .code yX12_more cX12_more 5 none, .fieldLink RX12 18 "MacroScopesModel" "letters" "[B"] ++ wsX120)
def wsX12_init_r1 : List Cond := [Cond.methodLink RX12 1 objectInit, Cond.instanceMethod objectInit, Cond.code objectInit ⟨#[0xb1]⟩ 1 none, Cond.arrayClass .byte, Cond.fieldLink RX12 7 "MacroScopesModel" "text" "[B", Cond.fieldLink RX12 13 "MacroScopesModel" "place" "I", Cond.constant RX12 17 (40000), Cond.fieldLink RX12 18 "MacroScopesModel" "letters" "[B", Cond.arrayClass .int, Cond.fieldLink RX12 21 "MacroScopesModel" "letterFrom" "[I", Cond.fieldLink RX12 25 "MacroScopesModel" "defined" "[I", Cond.fieldLink RX12 28 "MacroScopesModel" "definedBefore" "[I", Cond.constant RX12 31 (90000), Cond.fieldLink RX12 32 "MacroScopesModel" "kinds" "[B", Cond.fieldLink RX12 35 "MacroScopesModel" "values" "[I", Cond.fieldLink RX12 38 "MacroScopesModel" "counts" "[I", Cond.fieldLink RX12 41 "MacroScopesModel" "parts" "[I", Cond.constant RX12 44 (65000), Cond.fieldLink RX12 45 "MacroScopesModel" "aliasFor" "[I", Cond.fieldLink RX12 48 "MacroScopesModel" "aliasIn" "[I", Cond.fieldLink RX12 51 "MacroScopesModel" "around" "[I", Cond.fieldLink RX12 54 "MacroScopesModel" "bindingFrom" "[I", Cond.fieldLink RX12 57 "MacroScopesModel" "boundNames" "[I", Cond.fieldLink RX12 60 "MacroScopesModel" "variableOf" "[I"]
def wsX12_init_r2 : List Cond := [Cond.fieldLink RX12 63 "MacroScopesModel" "rulesOf" "[I", Cond.constant RX12 66 (200000), Cond.fieldLink RX12 67 "MacroScopesModel" "tasks" "[B", Cond.fieldLink RX12 70 "MacroScopesModel" "taskForms" "[I", Cond.fieldLink RX12 73 "MacroScopesModel" "taskIn" "[I", Cond.fieldLink RX12 76 "MacroScopesModel" "taskDeep" "[I", Cond.fieldLink RX12 79 "MacroScopesModel" "told" "[B", Cond.fieldLink RX12 82 "MacroScopesModel" "kept" "[B", Cond.fieldLink RX12 85 "MacroScopesModel" "waiting" "[I", Cond.fieldLink RX12 88 "MacroScopesModel" "opened" "[I", Cond.fieldLink RX12 91 "MacroScopesModel" "variableNames" "[I", Cond.arrayClass .boolean, Cond.fieldLink RX12 94 "MacroScopesModel" "repeated" "[Z", Cond.fieldLink RX12 98 "MacroScopesModel" "look" "[I", Cond.fieldLink RX12 101 "MacroScopesModel" "lookHow" "[I", Cond.fieldLink RX12 104 "MacroScopesModel" "lookOther" "[I", Cond.fieldLink RX12 107 "MacroScopesModel" "inner" "[I", Cond.fieldLink RX12 110 "MacroScopesModel" "matchFrom" "[I", Cond.fieldLink RX12 113 "MacroScopesModel" "matchCount" "[I", Cond.fieldLink RX12 116 "MacroScopesModel" "matched" "[I", Cond.fieldLink RX12 119 "MacroScopesModel" "copyKinds" "[B", Cond.fieldLink RX12 122 "MacroScopesModel" "copyValues" "[I", Cond.fieldLink RX12 125 "MacroScopesModel" "copyCounts" "[I", Cond.fieldLink RX12 128 "MacroScopesModel" "copyParts" "[I"]
def wsX12_init_r3 : List Cond := [Cond.constantLong RX12 131 (119165702792289), Cond.constantLong RX12 137 (26982), Cond.constantLong RX12 139 (487301543013), Cond.constantLong RX12 141 (465558580595), Cond.constantLong RX12 143 (521544163704), Cond.constantLong RX12 148 (126965381357944), Cond.constantLong RX12 150 (49969619559795), Cond.constantLong RX12 152 (110386672660069), Cond.constantLong RX12 154 (762542446), Cond.constantLong RX12 156 (7627128), Cond.constantLong RX12 158 (3026478), Cond.constantLong RX12 160 (95), Cond.fieldLink RX12 162 "MacroScopesModel" "environments" "I", Cond.methodLink RX12 133 yX12_word, Cond.instanceMethod yX12_word, Cond.selects RX12 yX12_word yX12_word, Cond.initialized RX12, Cond.code yX12_word cX12_word 4 none, Cond.fieldLink RX12 165 "MacroScopesModel" "symbols" "I", Cond.methodLink RX12 145 yX12_more, Cond.instanceMethod yX12_more, Cond.selects RX12 yX12_more yX12_more, Cond.code yX12_more cX12_more 5 none]
def wsX12_init : List Cond := .code yX12_init cX12_init 1 none :: ((wsX12_init_r1 ++ (wsX12_init_r2 ++ wsX12_init_r3)) ++ wsX120)
def wsX12_type : List Cond := .code yX12_type cX12_type 8 (some .int) :: ([.fieldLink RX12 168 "MacroScopesModel" "thrown" "I", .fieldLink RX12 171 "MacroScopesModel" "length" "I", .constantLong RX12 174 (255), .constantLong RX12 176 (32), .constantLong RX12 178 (126), .fieldLink RX12 7 "MacroScopesModel" "text" "[B"] ++ wsX120)
def wsX12_parse_r1 : List Cond := [Cond.fieldLink RX12 203 "MacroScopesModel" "waits" "I", Cond.fieldLink RX12 171 "MacroScopesModel" "length" "I", Cond.fieldLink RX12 7 "MacroScopesModel" "text" "[B", Cond.fieldLink RX12 88 "MacroScopesModel" "opened" "[I", Cond.methodLink RX12 213 yX12_endList, Cond.instanceMethod yX12_endList, Cond.selects RX12 yX12_endList yX12_endList, Cond.initialized RX12, Cond.code yX12_endList cX12_endList 4 none, Cond.fieldLink RX12 220 "MacroScopesModel" "partCount" "I", Cond.fieldLink RX12 41 "MacroScopesModel" "parts" "[I", Cond.fieldLink RX12 85 "MacroScopesModel" "waiting" "[I", Cond.methodLink RX12 206 yX12_newForm, Cond.instanceMethod yX12_newForm, Cond.selects RX12 yX12_newForm yX12_newForm, Cond.code yX12_newForm cX12_newForm 4 (some .int), Cond.fieldLink RX12 32 "MacroScopesModel" "kinds" "[B", Cond.fieldLink RX12 196 "MacroScopesModel" "forms" "I", Cond.fieldLink RX12 35 "MacroScopesModel" "values" "[I", Cond.fieldLink RX12 38 "MacroScopesModel" "counts" "[I", Cond.methodLink RX12 217 yX12_token, Cond.instanceMethod yX12_token, Cond.selects RX12 yX12_token yX12_token, Cond.code yX12_token cX12_token 6 (some .boolean)]
def wsX12_parse_r2 : List Cond := [Cond.methodLink RX12 199 yX12_isSymbol, Cond.instanceMethod yX12_isSymbol, Cond.selects RX12 yX12_isSymbol yX12_isSymbol, Cond.code yX12_isSymbol cX12_isSymbol 6 (some .boolean), Cond.fieldLink RX12 21 "MacroScopesModel" "letterFrom" "[I", Cond.fieldLink RX12 18 "MacroScopesModel" "letters" "[B", Cond.methodLink RX12 210 yX12_symbolAt, Cond.instanceMethod yX12_symbolAt, Cond.selects RX12 yX12_symbolAt yX12_symbolAt, Cond.code yX12_symbolAt cX12_symbolAt 4 (some .int), Cond.fieldLink RX12 165 "MacroScopesModel" "symbols" "I"]
def wsX12_parse : List Cond := .code yX12_parse cX12_parse 6 (some .boolean) :: ((wsX12_parse_r1 ++ wsX12_parse_r2) ++ wsX120)
def wsX12_beginText : List Cond := .code yX12_beginText cX12_beginText 1 none :: ([.fieldLink RX12 402 "MacroScopesModel" "staying" "I", .fieldLink RX12 196 "MacroScopesModel" "forms" "I", .fieldLink RX12 405 "MacroScopesModel" "stayingParts" "I", .fieldLink RX12 220 "MacroScopesModel" "partCount" "I", .fieldLink RX12 374 "MacroScopesModel" "aliases" "I", .fieldLink RX12 162 "MacroScopesModel" "environments" "I", .fieldLink RX12 288 "MacroScopesModel" "bindings" "I", .fieldLink RX12 54 "MacroScopesModel" "bindingFrom" "[I", .fieldLink RX12 297 "MacroScopesModel" "variables" "I", .fieldLink RX12 345 "MacroScopesModel" "uses" "I", .fieldLink RX12 279 "MacroScopesModel" "binders" "I", .fieldLink RX12 223 "MacroScopesModel" "toldSize" "I", .fieldLink RX12 236 "MacroScopesModel" "fault" "I", .fieldLink RX12 13 "MacroScopesModel" "place" "I"] ++ wsX120)
def wsX12_stay_r1 : List Cond := [Cond.fieldLink RX12 433 "MacroScopesModel" "copies" "I", Cond.fieldLink RX12 436 "MacroScopesModel" "copiedParts" "I", Cond.fieldLink RX12 306 "MacroScopesModel" "looks" "I", Cond.fieldLink RX12 165 "MacroScopesModel" "symbols" "I", Cond.fieldLink RX12 25 "MacroScopesModel" "defined" "[I", Cond.fieldLink RX12 402 "MacroScopesModel" "staying" "I", Cond.fieldLink RX12 98 "MacroScopesModel" "look" "[I", Cond.fieldLink RX12 32 "MacroScopesModel" "kinds" "[B", Cond.fieldLink RX12 38 "MacroScopesModel" "counts" "[I", Cond.fieldLink RX12 128 "MacroScopesModel" "copyParts" "[I", Cond.fieldLink RX12 122 "MacroScopesModel" "copyValues" "[I", Cond.fieldLink RX12 101 "MacroScopesModel" "lookHow" "[I", Cond.fieldLink RX12 405 "MacroScopesModel" "stayingParts" "I", Cond.fieldLink RX12 119 "MacroScopesModel" "copyKinds" "[B", Cond.fieldLink RX12 35 "MacroScopesModel" "values" "[I", Cond.fieldLink RX12 125 "MacroScopesModel" "copyCounts" "[I", Cond.fieldLink RX12 41 "MacroScopesModel" "parts" "[I", Cond.methodLink RX12 439 yX12_copyOne, Cond.instanceMethod yX12_copyOne, Cond.selects RX12 yX12_copyOne yX12_copyOne, Cond.initialized RX12, Cond.code yX12_copyOne cX12_copyOne 2 (some .int), Cond.methodLink RX12 318 yX12_lookAt, Cond.instanceMethod yX12_lookAt]
def wsX12_stay_r2 : List Cond := [Cond.selects RX12 yX12_lookAt yX12_lookAt, Cond.code yX12_lookAt cX12_lookAt 4 none, Cond.fieldLink RX12 104 "MacroScopesModel" "lookOther" "[I", Cond.methodLink RX12 192 yX12_part, Cond.instanceMethod yX12_part, Cond.selects RX12 yX12_part yX12_part, Cond.code yX12_part cX12_part 3 (some .int)]
def wsX12_stay : List Cond := .code yX12_stay cX12_stay 5 none :: ((wsX12_stay_r1 ++ wsX12_stay_r2) ++ wsX120)
def wsX12_read_r1 : List Cond := [Cond.fieldLink RX12 168 "MacroScopesModel" "thrown" "I", Cond.fieldLink RX12 390 "MacroScopesModel" "ruleSize" "I", Cond.fieldLink RX12 28 "MacroScopesModel" "definedBefore" "[I", Cond.fieldLink RX12 25 "MacroScopesModel" "defined" "[I", Cond.fieldLink RX12 171 "MacroScopesModel" "length" "I", Cond.fieldLink RX12 203 "MacroScopesModel" "waits" "I", Cond.fieldLink RX12 236 "MacroScopesModel" "fault" "I", Cond.fieldLink RX12 85 "MacroScopesModel" "waiting" "[I", Cond.fieldLink RX12 13 "MacroScopesModel" "place" "I", Cond.fieldLink RX12 223 "MacroScopesModel" "toldSize" "I", Cond.fieldLink RX12 82 "MacroScopesModel" "kept" "[B", Cond.fieldLink RX12 79 "MacroScopesModel" "told" "[B", Cond.fieldLink RX12 418 "MacroScopesModel" "keptSize" "I", Cond.fieldLink RX12 345 "MacroScopesModel" "uses" "I", Cond.fieldLink RX12 421 "MacroScopesModel" "keptUses" "I", Cond.fieldLink RX12 297 "MacroScopesModel" "variables" "I", Cond.fieldLink RX12 424 "MacroScopesModel" "keptVariables" "I", Cond.fieldLink RX12 427 "MacroScopesModel" "keptTops" "I", Cond.methodLink RX12 408 yX12_beginText, Cond.instanceMethod yX12_beginText, Cond.selects RX12 yX12_beginText yX12_beginText, Cond.initialized RX12, Cond.code yX12_beginText cX12_beginText 1 none, Cond.fieldLink RX12 402 "MacroScopesModel" "staying" "I"]
def wsX12_read_r2 : List Cond := [Cond.fieldLink RX12 196 "MacroScopesModel" "forms" "I", Cond.fieldLink RX12 405 "MacroScopesModel" "stayingParts" "I", Cond.fieldLink RX12 220 "MacroScopesModel" "partCount" "I", Cond.fieldLink RX12 374 "MacroScopesModel" "aliases" "I", Cond.fieldLink RX12 162 "MacroScopesModel" "environments" "I", Cond.fieldLink RX12 288 "MacroScopesModel" "bindings" "I", Cond.fieldLink RX12 54 "MacroScopesModel" "bindingFrom" "[I", Cond.fieldLink RX12 279 "MacroScopesModel" "binders" "I", Cond.methodLink RX12 411 yX12_parse, Cond.instanceMethod yX12_parse, Cond.selects RX12 yX12_parse yX12_parse, Cond.code yX12_parse cX12_parse 6 (some .boolean), Cond.fieldLink RX12 7 "MacroScopesModel" "text" "[B", Cond.fieldLink RX12 88 "MacroScopesModel" "opened" "[I", Cond.methodLink RX12 213 yX12_endList, Cond.instanceMethod yX12_endList, Cond.selects RX12 yX12_endList yX12_endList, Cond.code yX12_endList cX12_endList 4 none, Cond.fieldLink RX12 41 "MacroScopesModel" "parts" "[I", Cond.methodLink RX12 206 yX12_newForm, Cond.instanceMethod yX12_newForm, Cond.selects RX12 yX12_newForm yX12_newForm, Cond.code yX12_newForm cX12_newForm 4 (some .int), Cond.fieldLink RX12 32 "MacroScopesModel" "kinds" "[B"]
def wsX12_read_r3 : List Cond := [Cond.fieldLink RX12 35 "MacroScopesModel" "values" "[I", Cond.fieldLink RX12 38 "MacroScopesModel" "counts" "[I", Cond.methodLink RX12 217 yX12_token, Cond.instanceMethod yX12_token, Cond.selects RX12 yX12_token yX12_token, Cond.code yX12_token cX12_token 6 (some .boolean), Cond.methodLink RX12 199 yX12_isSymbol, Cond.instanceMethod yX12_isSymbol, Cond.selects RX12 yX12_isSymbol yX12_isSymbol, Cond.code yX12_isSymbol cX12_isSymbol 6 (some .boolean), Cond.fieldLink RX12 21 "MacroScopesModel" "letterFrom" "[I", Cond.fieldLink RX12 18 "MacroScopesModel" "letters" "[B", Cond.methodLink RX12 210 yX12_symbolAt, Cond.instanceMethod yX12_symbolAt, Cond.selects RX12 yX12_symbolAt yX12_symbolAt, Cond.code yX12_symbolAt cX12_symbolAt 4 (some .int), Cond.fieldLink RX12 165 "MacroScopesModel" "symbols" "I", Cond.methodLink RX12 415 yX12_top, Cond.instanceMethod yX12_top, Cond.selects RX12 yX12_top yX12_top, Cond.code yX12_top cX12_top 6 none, Cond.fieldLink RX12 229 "MacroScopesModel" "todo" "I", Cond.methodLink RX12 393 yX12_isDefinition, Cond.instanceMethod yX12_isDefinition]
def wsX12_read_r4 : List Cond := [Cond.selects RX12 yX12_isDefinition yX12_isDefinition, Cond.code yX12_isDefinition cX12_isDefinition 3 (some .boolean), Cond.methodLink RX12 192 yX12_part, Cond.instanceMethod yX12_part, Cond.selects RX12 yX12_part yX12_part, Cond.code yX12_part cX12_part 3 (some .int), Cond.methodLink RX12 180 yX12_isName, Cond.instanceMethod yX12_isName, Cond.selects RX12 yX12_isName yX12_isName, Cond.code yX12_isName cX12_isName 2 (some .boolean), Cond.methodLink RX12 226 yX12_say, Cond.instanceMethod yX12_say, Cond.selects RX12 yX12_say yX12_say, Cond.code yX12_say cX12_say 2 none, Cond.methodLink RX12 276 yX12_isList, Cond.instanceMethod yX12_isList, Cond.selects RX12 yX12_isList yX12_isList, Cond.code yX12_isList cX12_isList 3 (some .boolean), Cond.methodLink RX12 255 yX12_need, Cond.instanceMethod yX12_need, Cond.selects RX12 yX12_need yX12_need, Cond.code yX12_need cX12_need 3 (some .boolean), Cond.methodLink RX12 239 yX12_fail, Cond.instanceMethod yX12_fail]
def wsX12_read_r5 : List Cond := [Cond.selects RX12 yX12_fail yX12_fail, Cond.code yX12_fail cX12_fail 2 none, Cond.methodLink RX12 396 yX12_defineSyntax, Cond.instanceMethod yX12_defineSyntax, Cond.selects RX12 yX12_defineSyntax yX12_defineSyntax, Cond.code yX12_defineSyntax cX12_defineSyntax 4 none, Cond.methodLink RX12 303 yX12_areRules, Cond.instanceMethod yX12_areRules, Cond.selects RX12 yX12_areRules yX12_areRules, Cond.code yX12_areRules cX12_areRules 6 (some .boolean), Cond.methodLink RX12 252 yX12_meaning, Cond.instanceMethod yX12_meaning, Cond.selects RX12 yX12_meaning yX12_meaning, Cond.code yX12_meaning cX12_meaning 7 (some .int), Cond.fieldLink RX12 57 "MacroScopesModel" "boundNames" "[I", Cond.fieldLink RX12 51 "MacroScopesModel" "around" "[I", Cond.fieldLink RX12 48 "MacroScopesModel" "aliasIn" "[I", Cond.fieldLink RX12 45 "MacroScopesModel" "aliasFor" "[I", Cond.methodLink RX12 291 yX12_isBindable, Cond.instanceMethod yX12_isBindable, Cond.selects RX12 yX12_isBindable yX12_isBindable, Cond.code yX12_isBindable cX12_isBindable 2 (some .boolean), Cond.methodLink RX12 188 yX12_isFrom, Cond.instanceMethod yX12_isFrom]
def wsX12_read_r6 : List Cond := [Cond.selects RX12 yX12_isFrom yX12_isFrom, Cond.code yX12_isFrom cX12_isFrom 3 (some .boolean), Cond.methodLink RX12 184 yX12_rootOf, Cond.instanceMethod yX12_rootOf, Cond.selects RX12 yX12_rootOf yX12_rootOf, Cond.code yX12_rootOf cX12_rootOf 3 (some .int), Cond.methodLink RX12 312 yX12_isPattern, Cond.instanceMethod yX12_isPattern, Cond.selects RX12 yX12_isPattern yX12_isPattern, Cond.code yX12_isPattern cX12_isPattern 11 (some .boolean), Cond.fieldLink RX12 309 "MacroScopesModel" "variableCount" "I", Cond.fieldLink RX12 306 "MacroScopesModel" "looks" "I", Cond.fieldLink RX12 98 "MacroScopesModel" "look" "[I", Cond.fieldLink RX12 104 "MacroScopesModel" "lookOther" "[I", Cond.fieldLink RX12 101 "MacroScopesModel" "lookHow" "[I", Cond.fieldLink RX12 91 "MacroScopesModel" "variableNames" "[I", Cond.fieldLink RX12 94 "MacroScopesModel" "repeated" "[Z", Cond.methodLink RX12 318 yX12_lookAt, Cond.instanceMethod yX12_lookAt, Cond.selects RX12 yX12_lookAt yX12_lookAt, Cond.code yX12_lookAt cX12_lookAt 4 none, Cond.methodLink RX12 321 yX12_isEllipsis, Cond.instanceMethod yX12_isEllipsis, Cond.selects RX12 yX12_isEllipsis yX12_isEllipsis]
def wsX12_read_r7 : List Cond := [Cond.code yX12_isEllipsis cX12_isEllipsis 3 (some .boolean), Cond.methodLink RX12 324 yX12_isLiteral, Cond.instanceMethod yX12_isLiteral, Cond.selects RX12 yX12_isLiteral yX12_isLiteral, Cond.code yX12_isLiteral cX12_isLiteral 6 (some .boolean), Cond.methodLink RX12 327 yX12_variable, Cond.instanceMethod yX12_variable, Cond.selects RX12 yX12_variable yX12_variable, Cond.code yX12_variable cX12_variable 4 (some .int), Cond.methodLink RX12 315 yX12_isTemplate, Cond.instanceMethod yX12_isTemplate, Cond.selects RX12 yX12_isTemplate yX12_isTemplate, Cond.code yX12_isTemplate cX12_isTemplate 8 (some .boolean), Cond.methodLink RX12 330 yX12_isRepeated, Cond.instanceMethod yX12_isRepeated, Cond.selects RX12 yX12_isRepeated yX12_isRepeated, Cond.code yX12_isRepeated cX12_isRepeated 3 (some .boolean), Cond.methodLink RX12 333 yX12_hasRepeated, Cond.instanceMethod yX12_hasRepeated, Cond.selects RX12 yX12_hasRepeated yX12_hasRepeated, Cond.code yX12_hasRepeated cX12_hasRepeated 6 (some .boolean), Cond.fieldLink RX12 107 "MacroScopesModel" "inner" "[I", Cond.methodLink RX12 370 yX12_sizeOf, Cond.instanceMethod yX12_sizeOf]
def wsX12_read_r8 : List Cond := [Cond.selects RX12 yX12_sizeOf yX12_sizeOf, Cond.code yX12_sizeOf cX12_sizeOf 6 (some .int), Cond.methodLink RX12 245 yX12_saySymbol, Cond.instanceMethod yX12_saySymbol, Cond.selects RX12 yX12_saySymbol yX12_saySymbol, Cond.code yX12_saySymbol cX12_saySymbol 3 none, Cond.methodLink RX12 232 yX12_task, Cond.instanceMethod yX12_task, Cond.selects RX12 yX12_task yX12_task, Cond.code yX12_task cX12_task 5 none, Cond.fieldLink RX12 67 "MacroScopesModel" "tasks" "[B", Cond.fieldLink RX12 70 "MacroScopesModel" "taskForms" "[I", Cond.fieldLink RX12 73 "MacroScopesModel" "taskIn" "[I", Cond.fieldLink RX12 76 "MacroScopesModel" "taskDeep" "[I", Cond.methodLink RX12 399 yX12_doAll, Cond.instanceMethod yX12_doAll, Cond.selects RX12 yX12_doAll yX12_doAll, Cond.code yX12_doAll cX12_doAll 2 none, Cond.methodLink RX12 384 yX12_expand, Cond.instanceMethod yX12_expand, Cond.selects RX12 yX12_expand yX12_expand, Cond.code yX12_expand cX12_expand 4 none, Cond.methodLink RX12 242 yX12_sayNumber, Cond.instanceMethod yX12_sayNumber]
def wsX12_read_r9 : List Cond := [Cond.selects RX12 yX12_sayNumber yX12_sayNumber, Cond.code yX12_sayNumber cX12_sayNumber 4 none, Cond.methodLink RX12 259 yX12_sayName, Cond.instanceMethod yX12_sayName, Cond.selects RX12 yX12_sayName yX12_sayName, Cond.code yX12_sayName cX12_sayName 5 none, Cond.fieldLink RX12 60 "MacroScopesModel" "variableOf" "[I", Cond.methodLink RX12 263 yX12_expandList, Cond.instanceMethod yX12_expandList, Cond.selects RX12 yX12_expandList yX12_expandList, Cond.code yX12_expandList cX12_expandList 8 none, Cond.fieldLink RX12 63 "MacroScopesModel" "rulesOf" "[I", Cond.methodLink RX12 267 yX12_environmentOf, Cond.instanceMethod yX12_environmentOf, Cond.selects RX12 yX12_environmentOf yX12_environmentOf, Cond.code yX12_environmentOf cX12_environmentOf 3 (some .int), Cond.methodLink RX12 270 yX12_use, Cond.instanceMethod yX12_use, Cond.selects RX12 yX12_use yX12_use, Cond.code yX12_use cX12_use 10 none, Cond.methodLink RX12 348 yX12_matches, Cond.instanceMethod yX12_matches, Cond.selects RX12 yX12_matches yX12_matches, Cond.code yX12_matches cX12_matches 10 (some .boolean)]
def wsX12_read_r10 : List Cond := [Cond.methodLink RX12 336 yX12_lookAtParts, Cond.instanceMethod yX12_lookAtParts, Cond.selects RX12 yX12_lookAtParts yX12_lookAtParts, Cond.code yX12_lookAtParts cX12_lookAtParts 9 (some .boolean), Cond.methodLink RX12 352 yX12_keepMatches, Cond.instanceMethod yX12_keepMatches, Cond.selects RX12 yX12_keepMatches yX12_keepMatches, Cond.code yX12_keepMatches cX12_keepMatches 8 none, Cond.fieldLink RX12 113 "MacroScopesModel" "matchCount" "[I", Cond.fieldLink RX12 116 "MacroScopesModel" "matched" "[I", Cond.fieldLink RX12 110 "MacroScopesModel" "matchFrom" "[I", Cond.methodLink RX12 339 yX12_keepParts, Cond.instanceMethod yX12_keepParts, Cond.selects RX12 yX12_keepParts yX12_keepParts, Cond.code yX12_keepParts cX12_keepParts 9 none, Cond.methodLink RX12 342 yX12_setCounts, Cond.instanceMethod yX12_setCounts, Cond.selects RX12 yX12_setCounts yX12_setCounts, Cond.code yX12_setCounts cX12_setCounts 7 none, Cond.methodLink RX12 355 yX12_areCountsAlike, Cond.instanceMethod yX12_areCountsAlike, Cond.selects RX12 yX12_areCountsAlike yX12_areCountsAlike, Cond.code yX12_areCountsAlike cX12_areCountsAlike 6 (some .boolean), Cond.methodLink RX12 367 yX12_turnsOf]
def wsX12_read_r11 : List Cond := [Cond.instanceMethod yX12_turnsOf, Cond.selects RX12 yX12_turnsOf yX12_turnsOf, Cond.code yX12_turnsOf cX12_turnsOf 6 (some .int), Cond.methodLink RX12 358 yX12_sizeMade, Cond.instanceMethod yX12_sizeMade, Cond.selects RX12 yX12_sizeMade yX12_sizeMade, Cond.code yX12_sizeMade cX12_sizeMade 9 (some .int), Cond.constant RX12 373 (80000), Cond.methodLink RX12 361 yX12_make, Cond.instanceMethod yX12_make, Cond.selects RX12 yX12_make yX12_make, Cond.code yX12_make cX12_make 13 (some .int), Cond.methodLink RX12 380 yX12_begin, Cond.instanceMethod yX12_begin, Cond.selects RX12 yX12_begin yX12_begin, Cond.code yX12_begin cX12_begin 6 (some .int), Cond.methodLink RX12 377 yX12_alias, Cond.instanceMethod yX12_alias, Cond.selects RX12 yX12_alias yX12_alias, Cond.code yX12_alias cX12_alias 5 (some .int), Cond.methodLink RX12 364 yX12_nested, Cond.instanceMethod yX12_nested, Cond.selects RX12 yX12_nested yX12_nested, Cond.code yX12_nested cX12_nested 6 (some .int)]
def wsX12_read_r12 : List Cond := [Cond.methodLink RX12 273 yX12_expandWord, Cond.instanceMethod yX12_expandWord, Cond.selects RX12 yX12_expandWord yX12_expandWord, Cond.code yX12_expandWord cX12_expandWord 5 none, Cond.methodLink RX12 248 yX12_taskParts, Cond.instanceMethod yX12_taskParts, Cond.selects RX12 yX12_taskParts yX12_taskParts, Cond.code yX12_taskParts cX12_taskParts 7 none, Cond.methodLink RX12 282 yX12_lambda, Cond.instanceMethod yX12_lambda, Cond.selects RX12 yX12_lambda yX12_lambda, Cond.code yX12_lambda cX12_lambda 8 none, Cond.methodLink RX12 294 yX12_newEnvironment, Cond.instanceMethod yX12_newEnvironment, Cond.selects RX12 yX12_newEnvironment yX12_newEnvironment, Cond.code yX12_newEnvironment cX12_newEnvironment 2 (some .int), Cond.methodLink RX12 300 yX12_bind, Cond.instanceMethod yX12_bind, Cond.selects RX12 yX12_bind yX12_bind, Cond.code yX12_bind cX12_bind 4 none, Cond.methodLink RX12 285 yX12_letSyntax, Cond.instanceMethod yX12_letSyntax, Cond.selects RX12 yX12_letSyntax yX12_letSyntax, Cond.code yX12_letSyntax cX12_letSyntax 8 none]
def wsX12_read_r13 : List Cond := [Cond.methodLink RX12 387 yX12_sayPlain, Cond.instanceMethod yX12_sayPlain, Cond.selects RX12 yX12_sayPlain yX12_sayPlain, Cond.code yX12_sayPlain cX12_sayPlain 2 none, Cond.methodLink RX12 430 yX12_stay, Cond.instanceMethod yX12_stay, Cond.selects RX12 yX12_stay yX12_stay, Cond.code yX12_stay cX12_stay 5 none, Cond.fieldLink RX12 433 "MacroScopesModel" "copies" "I", Cond.fieldLink RX12 436 "MacroScopesModel" "copiedParts" "I", Cond.fieldLink RX12 128 "MacroScopesModel" "copyParts" "[I", Cond.fieldLink RX12 122 "MacroScopesModel" "copyValues" "[I", Cond.fieldLink RX12 119 "MacroScopesModel" "copyKinds" "[B", Cond.fieldLink RX12 125 "MacroScopesModel" "copyCounts" "[I", Cond.methodLink RX12 439 yX12_copyOne, Cond.instanceMethod yX12_copyOne, Cond.selects RX12 yX12_copyOne yX12_copyOne, Cond.code yX12_copyOne cX12_copyOne 2 (some .int)]
def wsX12_read : List Cond := .code yX12_read cX12_read 5 (some .int) :: ((wsX12_read_r1 ++ (wsX12_read_r2 ++ (wsX12_read_r3 ++ (wsX12_read_r4 ++ (wsX12_read_r5 ++ (wsX12_read_r6 ++ (wsX12_read_r7 ++ (wsX12_read_r8 ++ (wsX12_read_r9 ++ (wsX12_read_r10 ++ (wsX12_read_r11 ++ (wsX12_read_r12 ++ wsX12_read_r13)))))))))))) ++ wsX120)
def wsX12_place : List Cond := .code yX12_place cX12_place 1 (some .int) :: ([.fieldLink RX12 168 "MacroScopesModel" "thrown" "I", .fieldLink RX12 13 "MacroScopesModel" "place" "I"] ++ wsX120)
def wsX12_count : List Cond := .code yX12_count cX12_count 4 (some .int) :: ([.fieldLink RX12 168 "MacroScopesModel" "thrown" "I", .fieldLink RX12 165 "MacroScopesModel" "symbols" "I", .fieldLink RX12 25 "MacroScopesModel" "defined" "[I", .fieldLink RX12 418 "MacroScopesModel" "keptSize" "I", .fieldLink RX12 421 "MacroScopesModel" "keptUses" "I", .fieldLink RX12 424 "MacroScopesModel" "keptVariables" "I", .fieldLink RX12 427 "MacroScopesModel" "keptTops" "I", .fieldLink RX12 390 "MacroScopesModel" "ruleSize" "I"] ++ wsX120)
def wsX12_character : List Cond := .code yX12_character cX12_character 2 (some .int) :: ([.fieldLink RX12 168 "MacroScopesModel" "thrown" "I", .fieldLink RX12 418 "MacroScopesModel" "keptSize" "I", .fieldLink RX12 82 "MacroScopesModel" "kept" "[B"] ++ wsX120)
def wsX12_means_r1 : List Cond := [Cond.fieldLink RX12 168 "MacroScopesModel" "thrown" "I", Cond.fieldLink RX12 402 "MacroScopesModel" "staying" "I", Cond.fieldLink RX12 196 "MacroScopesModel" "forms" "I", Cond.fieldLink RX12 405 "MacroScopesModel" "stayingParts" "I", Cond.fieldLink RX12 220 "MacroScopesModel" "partCount" "I", Cond.fieldLink RX12 171 "MacroScopesModel" "length" "I", Cond.fieldLink RX12 203 "MacroScopesModel" "waits" "I", Cond.fieldLink RX12 85 "MacroScopesModel" "waiting" "[I", Cond.fieldLink RX12 35 "MacroScopesModel" "values" "[I", Cond.fieldLink RX12 25 "MacroScopesModel" "defined" "[I", Cond.methodLink RX12 411 yX12_parse, Cond.instanceMethod yX12_parse, Cond.selects RX12 yX12_parse yX12_parse, Cond.initialized RX12, Cond.code yX12_parse cX12_parse 6 (some .boolean), Cond.fieldLink RX12 7 "MacroScopesModel" "text" "[B", Cond.fieldLink RX12 88 "MacroScopesModel" "opened" "[I", Cond.methodLink RX12 213 yX12_endList, Cond.instanceMethod yX12_endList, Cond.selects RX12 yX12_endList yX12_endList, Cond.code yX12_endList cX12_endList 4 none, Cond.fieldLink RX12 41 "MacroScopesModel" "parts" "[I", Cond.methodLink RX12 206 yX12_newForm, Cond.instanceMethod yX12_newForm]
def wsX12_means_r2 : List Cond := [Cond.selects RX12 yX12_newForm yX12_newForm, Cond.code yX12_newForm cX12_newForm 4 (some .int), Cond.fieldLink RX12 32 "MacroScopesModel" "kinds" "[B", Cond.fieldLink RX12 38 "MacroScopesModel" "counts" "[I", Cond.methodLink RX12 217 yX12_token, Cond.instanceMethod yX12_token, Cond.selects RX12 yX12_token yX12_token, Cond.code yX12_token cX12_token 6 (some .boolean), Cond.methodLink RX12 199 yX12_isSymbol, Cond.instanceMethod yX12_isSymbol, Cond.selects RX12 yX12_isSymbol yX12_isSymbol, Cond.code yX12_isSymbol cX12_isSymbol 6 (some .boolean), Cond.fieldLink RX12 21 "MacroScopesModel" "letterFrom" "[I", Cond.fieldLink RX12 18 "MacroScopesModel" "letters" "[B", Cond.methodLink RX12 210 yX12_symbolAt, Cond.instanceMethod yX12_symbolAt, Cond.selects RX12 yX12_symbolAt yX12_symbolAt, Cond.code yX12_symbolAt cX12_symbolAt 4 (some .int), Cond.fieldLink RX12 165 "MacroScopesModel" "symbols" "I", Cond.methodLink RX12 180 yX12_isName, Cond.instanceMethod yX12_isName, Cond.selects RX12 yX12_isName yX12_isName, Cond.code yX12_isName cX12_isName 2 (some .boolean)]
def wsX12_means : List Cond := .code yX12_means cX12_means 3 (some .int) :: ((wsX12_means_r1 ++ wsX12_means_r2) ++ wsX120)
def wsX12_check : List Cond := .code yX12_check cX12_check 1 (some .int) :: ([.fieldLink RX12 168 "MacroScopesModel" "thrown" "I"] ++ wsX120)
def wsL_law_r1 : List Cond := [Cond.classLink RL 7 RX11, Cond.instantiable RX11 11, Cond.initialized RX11, Cond.classLink RL 10 RX12, Cond.instantiable RX12 64, Cond.initialized RX12, Cond.constantLong RL 13 (4294967295), Cond.methodLink RL 9 yX11_init, Cond.instanceMethod yX11_init, Cond.code yX11_init cX11_init 1 none, Cond.methodLink RX11 1 objectInit, Cond.instanceMethod objectInit, Cond.code objectInit ⟨#[0xb1]⟩ 1 none, Cond.arrayClass .char, Cond.fieldLink RX11 9 "MacroScopes" "typed" "[C", Cond.classLink RX11 13 RX6, Cond.instantiable RX6 13, Cond.initialized RX6, Cond.fieldLink RX11 16 "MacroScopes" "names" "LMacroScopes$Names;", Cond.classLink RX11 20 RX1, Cond.instantiable RX1 4, Cond.initialized RX1, Cond.fieldLink RX11 23 "MacroScopes" "forms" "LMacroScopes$Forms;", Cond.classLink RX11 27 RX10]
def wsL_law_r2 : List Cond := [Cond.instantiable RX10 5, Cond.initialized RX10, Cond.fieldLink RX11 30 "MacroScopes" "told" "LMacroScopes$Told;", Cond.classLink RX11 34 RX7, Cond.instantiable RX7 4, Cond.initialized RX7, Cond.fieldLink RX11 39 "MacroScopes" "reader" "LMacroScopes$Reader;", Cond.classLink RX11 43 RX0, Cond.instantiable RX0 15, Cond.initialized RX0, Cond.fieldLink RX11 48 "MacroScopes" "expander" "LMacroScopes$Expander;", Cond.fieldLink RX11 52 "MacroScopes" "typedLength" "I", Cond.fieldLink RX11 56 "MacroScopes" "place" "I", Cond.fieldLink RX11 59 "MacroScopes" "uses" "I", Cond.fieldLink RX11 62 "MacroScopes" "variables" "I", Cond.fieldLink RX11 65 "MacroScopes" "topForms" "I", Cond.methodLink RX11 15 yX6_init, Cond.instanceMethod yX6_init, Cond.code yX6_init cX6_init 1 none, Cond.methodLink RX6 3 objectInit, Cond.arrayClass .long, Cond.fieldLink RX6 9 "MacroScopes$Names" "firstHalf" "[J", Cond.fieldLink RX6 15 "MacroScopes$Names" "secondHalf" "[J", Cond.arrayClass .int]
def wsL_law_r3 : List Cond := [Cond.fieldLink RX6 18 "MacroScopes$Names" "rules" "[I", Cond.fieldLink RX6 22 "MacroScopes$Names" "rulesBefore" "[I", Cond.fieldLink RX6 25 "MacroScopes$Names" "symbols" "I", Cond.fieldLink RX6 29 "MacroScopes$Names" "symbolsBefore" "I", Cond.fieldLink RX6 32 "MacroScopes$Names" "original" "[I", Cond.fieldLink RX6 35 "MacroScopes$Names" "home" "[I", Cond.fieldLink RX6 38 "MacroScopes$Names" "binding" "[I", Cond.fieldLink RX6 41 "MacroScopes$Names" "mark" "[I", Cond.fieldLink RX6 44 "MacroScopes$Names" "note" "[I", Cond.fieldLink RX6 47 "MacroScopes$Names" "top" "I", Cond.fieldLink RX6 50 "MacroScopes$Names" "latestMark" "I", Cond.methodLink RX6 55 yX6_addGiven, Cond.instanceMethod yX6_addGiven, Cond.selects RX6 yX6_addGiven yX6_addGiven, Cond.code yX6_addGiven cX6_addGiven 3 none, Cond.methodLink RX6 75 yJ0_toCharArray_70df3, Cond.instanceMethod yJ0_toCharArray_70df3, Cond.selects RJ0 yJ0_toCharArray_70df3 yJ0_toCharArray_70df3, Cond.initialized RJ0, Cond.code yJ0_toCharArray_70df3 cJ0_toCharArray_70df3 1 (some (.array .char)), Cond.fieldLink RJ0 9 "java/lang/String" "value" "[B", Cond.methodLink RJ0 492 yJ0_isLatin1_aae02, Cond.instanceMethod yJ0_isLatin1_aae02, Cond.selects RJ0 yJ0_isLatin1_aae02 yJ0_isLatin1_aae02]
def wsL_law_r4 : List Cond := [Cond.code yJ0_isLatin1_aae02 cJ0_isLatin1_aae02 1 (some .boolean), Cond.fieldLink RJ0 38 "java/lang/String" "COMPACT_STRINGS" "Z", Cond.fieldLink RJ0 15 "java/lang/String" "coder" "B", Cond.methodLink RJ0 299 yJ1_toChars_9d188, Cond.static yJ1_toChars_9d188, Cond.initialized RJ1, Cond.code yJ1_toChars_9d188 cJ1_toChars_9d188 2 (some (.array .char)), Cond.methodLink RJ1 13 yJ1_inflate_03870, Cond.static yJ1_inflate_03870, Cond.code yJ1_inflate_03870 cJ1_inflate_03870 6 none, Cond.methodLink RJ0 303 yJ2_toChars_9d188, Cond.static yJ2_toChars_9d188, Cond.initialized RJ2, Cond.code yJ2_toChars_9d188 cJ2_toChars_9d188 2 (some (.array .char)), Cond.methodLink RJ2 103 yJ2_getChars_a1a8b, Cond.static yJ2_getChars_a1a8b, Cond.code yJ2_getChars_a1a8b cJ2_getChars_a1a8b 6 none, Cond.methodLink RJ2 173 yJ2_checkBoundsOffCount_d044e, Cond.static yJ2_checkBoundsOffCount_d044e, Cond.code yJ2_checkBoundsOffCount_d044e cJ2_checkBoundsOffCount_d044e 3 none, Cond.methodLink RJ2 48 yJ2_length_9d52b, Cond.static yJ2_length_9d52b, Cond.code yJ2_length_9d52b cJ2_length_9d52b 1 (some .int), Cond.methodLink RJ2 419 yJ0_checkBoundsOffCount_cabcc]
def wsL_law_r5 : List Cond := [Cond.static yJ0_checkBoundsOffCount_cabcc, Cond.code yJ0_checkBoundsOffCount_cabcc cJ0_checkBoundsOffCount_cabcc 3 (some .int), Cond.fieldLink RJ0 1053 "jdk/internal/util/Preconditions" "SIOOBE_FORMATTER" "Ljava/util/function/BiFunction;", Cond.methodLink RJ0 1065 yJ3_checkFromIndexSize_8c36e, Cond.static yJ3_checkFromIndexSize_8c36e, Cond.initialized RJ3, Cond.code yJ3_checkFromIndexSize_8c36e cJ3_checkFromIndexSize_8c36e 4 (some .int), Cond.methodLink RJ2 71 yJ2_getChar_3b067, Cond.static yJ2_getChar_3b067, Cond.code yJ2_getChar_3b067 cJ2_getChar_3b067 2 (some .char), Cond.fieldLink RJ2 44 "java/lang/StringUTF16" "$assertionsDisabled" "Z", Cond.fieldLink RJ2 59 "java/lang/StringUTF16" "HI_BYTE_SHIFT" "I", Cond.fieldLink RJ2 63 "java/lang/StringUTF16" "LO_BYTE_SHIFT" "I", Cond.methodLink RX6 81 yX6_half, Cond.static yX6_half, Cond.code yX6_half cX6_half 6 (some .long), Cond.methodLink RX6 85 yX6_addSymbol, Cond.instanceMethod yX6_addSymbol, Cond.selects RX6 yX6_addSymbol yX6_addSymbol, Cond.code yX6_addSymbol cX6_addSymbol 5 (some .int), Cond.methodLink RX6 95 yX6_addName, Cond.instanceMethod yX6_addName, Cond.selects RX6 yX6_addName yX6_addName, Cond.code yX6_addName cX6_addName 3 (some .int)]
def wsL_law_r6 : List Cond := [Cond.instanceMethod yX1_init, Cond.code yX1_init cX1_init 1 none, Cond.methodLink RX1 3 objectInit, Cond.fieldLink RX1 11 "MacroScopes$Forms" "what" "[I", Cond.fieldLink RX1 15 "MacroScopes$Forms" "span" "[I", Cond.fieldLink RX1 18 "MacroScopes$Forms" "top" "I", Cond.fieldLink RX1 22 "MacroScopes$Forms" "kept" "I", Cond.instanceMethod yX10_init, Cond.code yX10_init cX10_init 1 none, Cond.methodLink RX10 3 objectInit, Cond.fieldLink RX10 9 "MacroScopes$Told" "taken" "[C", Cond.fieldLink RX10 15 "MacroScopes$Told" "takenLength" "I", Cond.fieldLink RX10 19 "MacroScopes$Told" "text" "[C", Cond.fieldLink RX10 22 "MacroScopes$Told" "length" "I", Cond.fieldLink RX10 25 "MacroScopes$Told" "last" "C", Cond.methodLink RX11 36 yX7_init, Cond.instanceMethod yX7_init, Cond.code yX7_init cX7_init 3 none, Cond.methodLink RX7 3 objectInit, Cond.fieldLink RX7 9 "MacroScopes$Reader" "open" "[I", Cond.fieldLink RX7 15 "MacroScopes$Reader" "opened" "I", Cond.fieldLink RX7 19 "MacroScopes$Reader" "forms" "LMacroScopes$Forms;", Cond.fieldLink RX7 23 "MacroScopes$Reader" "names" "LMacroScopes$Names;", Cond.methodLink RX11 45 yX0_init]
def wsL_law_r7 : List Cond := [Cond.instanceMethod yX0_init, Cond.code yX0_init cX0_init 5 none, Cond.methodLink RX0 3 objectInit, Cond.classLink RX0 9 RX2, Cond.instantiable RX2 7, Cond.initialized RX2, Cond.fieldLink RX0 12 "MacroScopes$Expander" "frames" "LMacroScopes$Frames;", Cond.fieldLink RX0 18 "MacroScopes$Expander" "nextTop" "I", Cond.fieldLink RX0 22 "MacroScopes$Expander" "defined" "I", Cond.fieldLink RX0 25 "MacroScopes$Expander" "fault" "I", Cond.fieldLink RX0 28 "MacroScopes$Expander" "place" "I", Cond.fieldLink RX0 31 "MacroScopes$Expander" "uses" "I", Cond.fieldLink RX0 34 "MacroScopes$Expander" "layers" "I", Cond.fieldLink RX0 37 "MacroScopes$Expander" "variables" "I", Cond.classLink RX0 40 RX5, Cond.instantiable RX5 6, Cond.initialized RX5, Cond.fieldLink RX0 43 "MacroScopes$Expander" "forms" "LMacroScopes$Forms;", Cond.fieldLink RX0 47 "MacroScopes$Expander" "names" "LMacroScopes$Names;", Cond.fieldLink RX0 51 "MacroScopes$Expander" "told" "LMacroScopes$Told;", Cond.classLink RX0 55 RX9, Cond.instantiable RX9 6, Cond.initialized RX9, Cond.fieldLink RX0 60 "MacroScopes$Expander" "scopes" "LMacroScopes$Scopes;"]
def wsL_law_r8 : List Cond := [Cond.classLink RX0 64 RX8, Cond.instantiable RX8 4, Cond.initialized RX8, Cond.fieldLink RX0 69 "MacroScopes$Expander" "ruleCheck" "LMacroScopes$RuleCheck;", Cond.classLink RX0 73 RX4, Cond.instantiable RX4 6, Cond.initialized RX4, Cond.fieldLink RX0 78 "MacroScopes$Expander" "matcher" "LMacroScopes$Matcher;", Cond.classLink RX0 82 RX3, Cond.instantiable RX3 6, Cond.initialized RX3, Cond.fieldLink RX0 87 "MacroScopes$Expander" "maker" "LMacroScopes$Maker;", Cond.instanceMethod yX2_init, Cond.code yX2_init cX2_init 1 none, Cond.methodLink RX2 3 objectInit, Cond.fieldLink RX2 11 "MacroScopes$Frames" "next" "[I", Cond.fieldLink RX2 15 "MacroScopes$Frames" "end" "[I", Cond.arrayClass .boolean, Cond.fieldLink RX2 18 "MacroScopes$Frames" "closes" "[Z", Cond.fieldLink RX2 22 "MacroScopes$Frames" "formsBefore" "[I", Cond.fieldLink RX2 25 "MacroScopes$Frames" "namesBefore" "[I", Cond.fieldLink RX2 28 "MacroScopes$Frames" "scopesBefore" "[I", Cond.fieldLink RX2 31 "MacroScopes$Frames" "top" "I", Cond.instanceMethod yX5_init]
def wsL_law_r9 : List Cond := [Cond.code yX5_init cX5_init 1 none, Cond.methodLink RX5 3 objectInit, Cond.fieldLink RX5 9 "MacroScopes$Matches" "first" "[I", Cond.fieldLink RX5 15 "MacroScopes$Matches" "apart" "[I", Cond.fieldLink RX5 18 "MacroScopes$Matches" "times" "[I", Cond.fieldLink RX5 21 "MacroScopes$Matches" "matched" "[I", Cond.fieldLink RX5 24 "MacroScopes$Matches" "variables" "I", Cond.fieldLink RX5 28 "MacroScopes$Matches" "forms" "I", Cond.methodLink RX0 57 yX9_init, Cond.instanceMethod yX9_init, Cond.code yX9_init cX9_init 2 none, Cond.methodLink RX9 3 objectInit, Cond.fieldLink RX9 11 "MacroScopes$Scopes" "name" "[I", Cond.fieldLink RX9 15 "MacroScopes$Scopes" "outer" "[I", Cond.fieldLink RX9 18 "MacroScopes$Scopes" "value" "[I", Cond.fieldLink RX9 21 "MacroScopes$Scopes" "home" "[I", Cond.fieldLink RX9 24 "MacroScopes$Scopes" "top" "I", Cond.fieldLink RX9 28 "MacroScopes$Scopes" "names" "LMacroScopes$Names;", Cond.methodLink RX0 66 yX8_init, Cond.instanceMethod yX8_init, Cond.code yX8_init cX8_init 4 none, Cond.methodLink RX8 3 objectInit, Cond.fieldLink RX8 9 "MacroScopes$RuleCheck" "literals" "I", Cond.fieldLink RX8 15 "MacroScopes$RuleCheck" "forms" "LMacroScopes$Forms;"]
def wsL_law_r10 : List Cond := [Cond.fieldLink RX8 19 "MacroScopes$RuleCheck" "names" "LMacroScopes$Names;", Cond.fieldLink RX8 23 "MacroScopes$RuleCheck" "scopes" "LMacroScopes$Scopes;", Cond.methodLink RX0 75 yX4_init, Cond.instanceMethod yX4_init, Cond.code yX4_init cX4_init 5 none, Cond.methodLink RX4 3 objectInit, Cond.fieldLink RX4 9 "MacroScopes$Matcher" "literals" "I", Cond.fieldLink RX4 15 "MacroScopes$Matcher" "home" "I", Cond.fieldLink RX4 18 "MacroScopes$Matcher" "forms" "LMacroScopes$Forms;", Cond.fieldLink RX4 22 "MacroScopes$Matcher" "names" "LMacroScopes$Names;", Cond.fieldLink RX4 26 "MacroScopes$Matcher" "scopes" "LMacroScopes$Scopes;", Cond.fieldLink RX4 30 "MacroScopes$Matcher" "matches" "LMacroScopes$Matches;", Cond.methodLink RX0 84 yX3_init, Cond.instanceMethod yX3_init, Cond.code yX3_init cX3_init 4 none, Cond.methodLink RX3 3 objectInit, Cond.fieldLink RX3 9 "MacroScopes$Maker" "home" "I", Cond.fieldLink RX3 15 "MacroScopes$Maker" "start" "I", Cond.fieldLink RX3 18 "MacroScopes$Maker" "tooMuch" "Z", Cond.fieldLink RX3 22 "MacroScopes$Maker" "forms" "LMacroScopes$Forms;", Cond.fieldLink RX3 26 "MacroScopes$Maker" "names" "LMacroScopes$Names;", Cond.fieldLink RX3 30 "MacroScopes$Maker" "matches" "LMacroScopes$Matches;", Cond.methodLink RL 12 yX12_init, Cond.instanceMethod yX12_init]
def wsL_law_r11 : List Cond := [Cond.code yX12_init cX12_init 1 none, Cond.methodLink RX12 1 objectInit, Cond.arrayClass .byte, Cond.fieldLink RX12 7 "MacroScopesModel" "text" "[B", Cond.fieldLink RX12 13 "MacroScopesModel" "place" "I", Cond.constant RX12 17 (40000), Cond.fieldLink RX12 18 "MacroScopesModel" "letters" "[B", Cond.fieldLink RX12 21 "MacroScopesModel" "letterFrom" "[I", Cond.fieldLink RX12 25 "MacroScopesModel" "defined" "[I", Cond.fieldLink RX12 28 "MacroScopesModel" "definedBefore" "[I", Cond.constant RX12 31 (90000), Cond.fieldLink RX12 32 "MacroScopesModel" "kinds" "[B", Cond.fieldLink RX12 35 "MacroScopesModel" "values" "[I", Cond.fieldLink RX12 38 "MacroScopesModel" "counts" "[I", Cond.fieldLink RX12 41 "MacroScopesModel" "parts" "[I", Cond.constant RX12 44 (65000), Cond.fieldLink RX12 45 "MacroScopesModel" "aliasFor" "[I", Cond.fieldLink RX12 48 "MacroScopesModel" "aliasIn" "[I", Cond.fieldLink RX12 51 "MacroScopesModel" "around" "[I", Cond.fieldLink RX12 54 "MacroScopesModel" "bindingFrom" "[I", Cond.fieldLink RX12 57 "MacroScopesModel" "boundNames" "[I", Cond.fieldLink RX12 60 "MacroScopesModel" "variableOf" "[I", Cond.fieldLink RX12 63 "MacroScopesModel" "rulesOf" "[I", Cond.constant RX12 66 (200000)]
def wsL_law_r12 : List Cond := [Cond.fieldLink RX12 67 "MacroScopesModel" "tasks" "[B", Cond.fieldLink RX12 70 "MacroScopesModel" "taskForms" "[I", Cond.fieldLink RX12 73 "MacroScopesModel" "taskIn" "[I", Cond.fieldLink RX12 76 "MacroScopesModel" "taskDeep" "[I", Cond.fieldLink RX12 79 "MacroScopesModel" "told" "[B", Cond.fieldLink RX12 82 "MacroScopesModel" "kept" "[B", Cond.fieldLink RX12 85 "MacroScopesModel" "waiting" "[I", Cond.fieldLink RX12 88 "MacroScopesModel" "opened" "[I", Cond.fieldLink RX12 91 "MacroScopesModel" "variableNames" "[I", Cond.fieldLink RX12 94 "MacroScopesModel" "repeated" "[Z", Cond.fieldLink RX12 98 "MacroScopesModel" "look" "[I", Cond.fieldLink RX12 101 "MacroScopesModel" "lookHow" "[I", Cond.fieldLink RX12 104 "MacroScopesModel" "lookOther" "[I", Cond.fieldLink RX12 107 "MacroScopesModel" "inner" "[I", Cond.fieldLink RX12 110 "MacroScopesModel" "matchFrom" "[I", Cond.fieldLink RX12 113 "MacroScopesModel" "matchCount" "[I", Cond.fieldLink RX12 116 "MacroScopesModel" "matched" "[I", Cond.fieldLink RX12 119 "MacroScopesModel" "copyKinds" "[B", Cond.fieldLink RX12 122 "MacroScopesModel" "copyValues" "[I", Cond.fieldLink RX12 125 "MacroScopesModel" "copyCounts" "[I", Cond.fieldLink RX12 128 "MacroScopesModel" "copyParts" "[I", Cond.constantLong RX12 131 (119165702792289), Cond.constantLong RX12 137 (26982), Cond.constantLong RX12 139 (487301543013)]
def wsL_law_r13 : List Cond := [Cond.constantLong RX12 141 (465558580595), Cond.constantLong RX12 143 (521544163704), Cond.constantLong RX12 148 (126965381357944), Cond.constantLong RX12 150 (49969619559795), Cond.constantLong RX12 152 (110386672660069), Cond.constantLong RX12 154 (762542446), Cond.constantLong RX12 156 (7627128), Cond.constantLong RX12 158 (3026478), Cond.constantLong RX12 160 (95), Cond.fieldLink RX12 162 "MacroScopesModel" "environments" "I", Cond.methodLink RX12 133 yX12_word, Cond.instanceMethod yX12_word, Cond.selects RX12 yX12_word yX12_word, Cond.code yX12_word cX12_word 4 none, Cond.fieldLink RX12 165 "MacroScopesModel" "symbols" "I", Cond.methodLink RX12 145 yX12_more, Cond.instanceMethod yX12_more, Cond.selects RX12 yX12_more yX12_more, Cond.code yX12_more cX12_more 5 none, Cond.methodLink RL 15 yX11_type, Cond.instanceMethod yX11_type, Cond.selects RX11 yX11_type yX11_type, Cond.code yX11_type cX11_type 6 (some .int), Cond.methodLink RX11 68 yX11_byteOf]
def wsL_law_r14 : List Cond := [Cond.static yX11_byteOf, Cond.code yX11_byteOf cX11_byteOf 3 (some .int), Cond.methodLink RL 19 yX12_type, Cond.instanceMethod yX12_type, Cond.selects RX12 yX12_type yX12_type, Cond.code yX12_type cX12_type 8 (some .int), Cond.fieldLink RX12 168 "MacroScopesModel" "thrown" "I", Cond.fieldLink RX12 171 "MacroScopesModel" "length" "I", Cond.constantLong RX12 174 (255), Cond.constantLong RX12 176 (32), Cond.constantLong RX12 178 (126), Cond.methodLink RL 20 yX11_read, Cond.instanceMethod yX11_read, Cond.selects RX11 yX11_read yX11_read, Cond.code yX11_read cX11_read 3 (some .int), Cond.methodLink RX11 75 yX6_startText, Cond.instanceMethod yX6_startText, Cond.selects RX6 yX6_startText yX6_startText, Cond.code yX6_startText cX6_startText 1 none, Cond.methodLink RX6 89 arraycopyName, Cond.native arraycopyName, Cond.static arraycopyName, Cond.initialized "java/lang/System", Cond.methodLink RX11 78 yX1_startText]
def wsL_law_r15 : List Cond := [Cond.instanceMethod yX1_startText, Cond.selects RX1 yX1_startText yX1_startText, Cond.code yX1_startText cX1_startText 1 none, Cond.methodLink RX11 79 yX10_startText, Cond.instanceMethod yX10_startText, Cond.selects RX10 yX10_startText yX10_startText, Cond.code yX10_startText cX10_startText 1 none, Cond.methodLink RX11 80 yX7_addForms, Cond.instanceMethod yX7_addForms, Cond.selects RX7 yX7_addForms yX7_addForms, Cond.code yX7_addForms cX7_addForms 7 (some .int), Cond.methodLink RX7 37 Lib.Math.max.name, Cond.static Lib.Math.max.name, Cond.initialized "java/lang/Math", Cond.code Lib.Math.max.name Lib.Math.max.code 2 (some .int), Cond.methodLink RX7 27 yX7_tokenFrom, Cond.instanceMethod yX7_tokenFrom, Cond.selects RX7 yX7_tokenFrom yX7_tokenFrom, Cond.code yX7_tokenFrom cX7_tokenFrom 5 (some .int), Cond.methodLink RX7 31 yX7_tokenEnd, Cond.instanceMethod yX7_tokenEnd, Cond.selects RX7 yX7_tokenEnd yX7_tokenEnd, Cond.code yX7_tokenEnd cX7_tokenEnd 5 (some .int), Cond.methodLink RX7 91 yX7_isBreak]
def wsL_law_r16 : List Cond := [Cond.static yX7_isBreak, Cond.code yX7_isBreak cX7_isBreak 1 (some .boolean), Cond.methodLink RX7 34 yX7_addToken, Cond.instanceMethod yX7_addToken, Cond.selects RX7 yX7_addToken yX7_addToken, Cond.code yX7_addToken cX7_addToken 5 (some .int), Cond.methodLink RX7 43 yX7_openList, Cond.instanceMethod yX7_openList, Cond.selects RX7 yX7_openList yX7_openList, Cond.code yX7_openList cX7_openList 1 (some .int), Cond.methodLink RX7 65 yX1_add, Cond.instanceMethod yX1_add, Cond.selects RX1 yX1_add yX1_add, Cond.code yX1_add cX1_add 2 (some .int), Cond.methodLink RX7 47 yX7_closeList, Cond.instanceMethod yX7_closeList, Cond.selects RX7 yX7_closeList yX7_closeList, Cond.code yX7_closeList cX7_closeList 1 (some .int), Cond.methodLink RX7 69 yX1_endList, Cond.instanceMethod yX1_endList, Cond.selects RX1 yX1_endList yX1_endList, Cond.code yX1_endList cX1_endList 2 none, Cond.methodLink RX7 50 yX7_isNumber, Cond.static yX7_isNumber]
def wsL_law_r17 : List Cond := [Cond.code yX7_isNumber cX7_isNumber 3 (some .boolean), Cond.methodLink RX7 95 yX7_isDigits, Cond.static yX7_isDigits, Cond.code yX7_isDigits cX7_isDigits 4 (some .boolean), Cond.methodLink RX7 54 yX7_addNumber, Cond.instanceMethod yX7_addNumber, Cond.selects RX7 yX7_addNumber yX7_addNumber, Cond.code yX7_addNumber cX7_addNumber 6 (some .int), Cond.methodLink RX7 73 yX1_ofNumber, Cond.static yX1_ofNumber, Cond.code yX1_ofNumber cX1_ofNumber 1 (some .int), Cond.methodLink RX7 57 yX7_isSymbol, Cond.instanceMethod yX7_isSymbol, Cond.selects RX7 yX7_isSymbol yX7_isSymbol, Cond.code yX7_isSymbol cX7_isSymbol 4 (some .boolean), Cond.methodLink RX7 76 yX7_symbolOf, Cond.instanceMethod yX7_symbolOf, Cond.selects RX7 yX7_symbolOf yX7_symbolOf, Cond.code yX7_symbolOf cX7_symbolOf 4 (some .int), Cond.methodLink RX7 79 yX6_half, Cond.methodLink RX7 98 yX6_find, Cond.instanceMethod yX6_find, Cond.selects RX6 yX6_find yX6_find, Cond.code yX6_find cX6_find 6 (some .int)]
def wsL_law_r18 : List Cond := [Cond.methodLink RX7 60 yX7_addSymbol, Cond.instanceMethod yX7_addSymbol, Cond.selects RX7 yX7_addSymbol yX7_addSymbol, Cond.code yX7_addSymbol cX7_addSymbol 5 (some .int), Cond.methodLink RX7 85 yX6_addSymbol, Cond.methodLink RX7 88 yX1_ofName, Cond.static yX1_ofName, Cond.code yX1_ofName cX1_ofName 1 (some .int), Cond.methodLink RX11 84 yX0_tellText, Cond.instanceMethod yX0_tellText, Cond.selects RX0 yX0_tellText yX0_tellText, Cond.code yX0_tellText cX0_tellText 5 (some .int), Cond.constant RX0 99 (1000000), Cond.methodLink RX0 91 yX0_startText, Cond.instanceMethod yX0_startText, Cond.selects RX0 yX0_startText yX0_startText, Cond.code yX0_startText cX0_startText 1 none, Cond.methodLink RX0 101 yX0_nextInFrame, Cond.instanceMethod yX0_nextInFrame, Cond.selects RX0 yX0_nextInFrame yX0_nextInFrame, Cond.code yX0_nextInFrame cX0_nextInFrame 2 (some .int), Cond.methodLink RX0 147 yX2_nextForm, Cond.instanceMethod yX2_nextForm, Cond.selects RX2 yX2_nextForm yX2_nextForm]
def wsL_law_r19 : List Cond := [Cond.code yX2_nextForm cX2_nextForm 4 (some .int), Cond.methodLink RX2 35 yX1_after, Cond.instanceMethod yX1_after, Cond.selects RX1 yX1_after yX1_after, Cond.code yX1_after cX1_after 2 (some .int), Cond.methodLink RX0 151 yX0_leaveFrame, Cond.instanceMethod yX0_leaveFrame, Cond.selects RX0 yX0_leaveFrame yX0_leaveFrame, Cond.code yX0_leaveFrame cX0_leaveFrame 2 none, Cond.methodLink RX0 158 yX10_close, Cond.instanceMethod yX10_close, Cond.selects RX10 yX10_close yX10_close, Cond.code yX10_close cX10_close 1 none, Cond.methodLink RX10 29 yX10_add, Cond.instanceMethod yX10_add, Cond.selects RX10 yX10_add yX10_add, Cond.code yX10_add cX10_add 2 none, Cond.methodLink RX0 139 yX9_leaveTo, Cond.instanceMethod yX9_leaveTo, Cond.selects RX9 yX9_leaveTo yX9_leaveTo, Cond.code yX9_leaveTo cX9_leaveTo 2 none, Cond.methodLink RX9 36 yX6_has, Cond.instanceMethod yX6_has, Cond.selects RX6 yX6_has yX6_has]
def wsL_law_r20 : List Cond := [Cond.code yX6_has cX6_has 2 (some .boolean), Cond.methodLink RX0 174 yX6_setRules, Cond.instanceMethod yX6_setRules, Cond.selects RX6 yX6_setRules yX6_setRules, Cond.code yX6_setRules cX6_setRules 3 none, Cond.methodLink RX0 105 yX0_nextTopForm, Cond.instanceMethod yX0_nextTopForm, Cond.selects RX0 yX0_nextTopForm yX0_nextTopForm, Cond.code yX0_nextTopForm cX0_nextTopForm 2 (some .int), Cond.methodLink RX0 177 yX1_after, Cond.methodLink RX0 180 yX0_remember, Cond.instanceMethod yX0_remember, Cond.selects RX0 yX0_remember yX0_remember, Cond.code yX0_remember cX0_remember 1 none, Cond.methodLink RX0 193 yX2_remember, Cond.instanceMethod yX2_remember, Cond.selects RX2 yX2_remember yX2_remember, Cond.code yX2_remember cX2_remember 4 none, Cond.methodLink RX0 183 yX1_head, Cond.instanceMethod yX1_head, Cond.selects RX1 yX1_head yX1_head, Cond.code yX1_head cX1_head 2 (some .int), Cond.methodLink RX1 36 yX1_isList, Cond.instanceMethod yX1_isList]
def wsL_law_r21 : List Cond := [Cond.selects RX1 yX1_isList yX1_isList, Cond.code yX1_isList cX1_isList 2 (some .boolean), Cond.methodLink RX1 40 yX1_size, Cond.instanceMethod yX1_size, Cond.selects RX1 yX1_size yX1_size, Cond.code yX1_size cX1_size 2 (some .int), Cond.methodLink RX1 43 yX1_nameOf, Cond.instanceMethod yX1_nameOf, Cond.selects RX1 yX1_nameOf yX1_nameOf, Cond.code yX1_nameOf cX1_nameOf 3 (some .int), Cond.methodLink RX0 186 yX0_define, Cond.instanceMethod yX0_define, Cond.selects RX0 yX0_define yX0_define, Cond.code yX0_define cX0_define 2 none, Cond.methodLink RX0 206 yX0_definesSymbol, Cond.instanceMethod yX0_definesSymbol, Cond.selects RX0 yX0_definesSymbol yX0_definesSymbol, Cond.code yX0_definesSymbol cX0_definesSymbol 3 (some .boolean), Cond.methodLink RX0 196 yX1_part, Cond.instanceMethod yX1_part, Cond.selects RX1 yX1_part yX1_part, Cond.code yX1_part cX1_part 5 (some .int), Cond.methodLink RX1 46 yX1_after, Cond.methodLink RX0 200 yX1_nameOf]
def wsL_law_r22 : List Cond := [Cond.methodLink RX0 203 yX1_parts, Cond.instanceMethod yX1_parts, Cond.selects RX1 yX1_parts yX1_parts, Cond.code yX1_parts cX1_parts 4 (some .int), Cond.methodLink RX0 209 yX10_open, Cond.instanceMethod yX10_open, Cond.selects RX10 yX10_open yX10_open, Cond.code yX10_open cX10_open 1 none, Cond.methodLink RX10 33 yX10_addBlank, Cond.instanceMethod yX10_addBlank, Cond.selects RX10 yX10_addBlank yX10_addBlank, Cond.code yX10_addBlank cX10_addBlank 1 none, Cond.methodLink RX0 212 yX10_addSymbol, Cond.instanceMethod yX10_addSymbol, Cond.selects RX10 yX10_addSymbol yX10_addSymbol, Cond.code yX10_addSymbol cX10_addSymbol 3 none, Cond.methodLink RX10 46 yX10_addHalf, Cond.instanceMethod yX10_addHalf, Cond.selects RX10 yX10_addHalf yX10_addHalf, Cond.code yX10_addHalf cX10_addHalf 5 none, Cond.constantLong RX10 53 (255), Cond.methodLink RX0 216 yX2_enter, Cond.instanceMethod yX2_enter, Cond.selects RX2 yX2_enter yX2_enter]
def wsL_law_r23 : List Cond := [Cond.code yX2_enter cX2_enter 4 none, Cond.methodLink RX0 189 yX0_defineSyntax, Cond.instanceMethod yX0_defineSyntax, Cond.selects RX0 yX0_defineSyntax yX0_defineSyntax, Cond.code yX0_defineSyntax cX0_defineSyntax 4 none, Cond.methodLink RX0 220 yX8_fits, Cond.instanceMethod yX8_fits, Cond.selects RX8 yX8_fits yX8_fits, Cond.code yX8_fits cX8_fits 6 (some .boolean), Cond.methodLink RX8 27 yX1_parts, Cond.methodLink RX8 33 yX1_head, Cond.methodLink RX8 36 yX1_part, Cond.methodLink RX8 40 yX9_meaning, Cond.instanceMethod yX9_meaning, Cond.selects RX9 yX9_meaning yX9_meaning, Cond.code yX9_meaning cX9_meaning 6 (some .int), Cond.methodLink RX9 45 Lib.Math.min.name, Cond.static Lib.Math.min.name, Cond.code Lib.Math.min.name Lib.Math.min.code 2 (some .int), Cond.methodLink RX9 54 yX6_rulesOf, Cond.instanceMethod yX6_rulesOf, Cond.selects RX6 yX6_rulesOf yX6_rulesOf, Cond.code yX6_rulesOf cX6_rulesOf 2 (some .int), Cond.methodLink RX8 45 yX8_literalsFit]
def wsL_law_r24 : List Cond := [Cond.instanceMethod yX8_literalsFit, Cond.selects RX8 yX8_literalsFit yX8_literalsFit, Cond.code yX8_literalsFit cX8_literalsFit 2 (some .boolean), Cond.methodLink RX8 56 yX1_isList, Cond.methodLink RX8 49 yX1_after, Cond.methodLink RX8 59 yX1_nameOf, Cond.methodLink RX8 62 yX6_canBeBound, Cond.static yX6_canBeBound, Cond.code yX6_canBeBound cX6_canBeBound 1 (some .boolean), Cond.methodLink RX8 52 yX8_ruleFits, Cond.instanceMethod yX8_ruleFits, Cond.selects RX8 yX8_ruleFits yX8_ruleFits, Cond.code yX8_ruleFits cX8_ruleFits 3 (some .boolean), Cond.methodLink RX8 67 yX6_clearNotes, Cond.instanceMethod yX6_clearNotes, Cond.selects RX6 yX6_clearNotes yX6_clearNotes, Cond.code yX6_clearNotes cX6_clearNotes 1 none, Cond.methodLink RX8 70 yX8_patternsFit, Cond.instanceMethod yX8_patternsFit, Cond.selects RX8 yX8_patternsFit yX8_patternsFit, Cond.code yX8_patternsFit cX8_patternsFit 6 (some .boolean), Cond.methodLink RX8 78 yX1_isRepeated, Cond.instanceMethod yX1_isRepeated, Cond.selects RX1 yX1_isRepeated yX1_isRepeated]
def wsL_law_r25 : List Cond := [Cond.code yX1_isRepeated cX1_isRepeated 3 (some .boolean), Cond.methodLink RX8 81 yX8_patternFits, Cond.instanceMethod yX8_patternFits, Cond.selects RX8 yX8_patternFits yX8_patternFits, Cond.code yX8_patternFits cX8_patternFits 6 (some .boolean), Cond.methodLink RX8 85 yX1_holdsDots, Cond.instanceMethod yX1_holdsDots, Cond.selects RX1 yX1_holdsDots yX1_holdsDots, Cond.code yX1_holdsDots cX1_holdsDots 3 (some .boolean), Cond.methodLink RX8 88 yX8_isLiteral, Cond.static yX8_isLiteral, Cond.code yX8_isLiteral cX8_isLiteral 4 (some .boolean), Cond.methodLink RX8 92 yX6_isNoted, Cond.instanceMethod yX6_isNoted, Cond.selects RX6 yX6_isNoted yX6_isNoted, Cond.code yX6_isNoted cX6_isNoted 2 (some .boolean), Cond.methodLink RX8 95 yX6_setNote, Cond.instanceMethod yX6_setNote, Cond.selects RX6 yX6_setNote yX6_setNote, Cond.code yX6_setNote cX6_setNote 3 none, Cond.methodLink RX6 106 yX6_has, Cond.methodLink RX8 74 yX8_templateFits, Cond.instanceMethod yX8_templateFits, Cond.selects RX8 yX8_templateFits yX8_templateFits]
def wsL_law_r26 : List Cond := [Cond.code yX8_templateFits cX8_templateFits 7 (some .boolean), Cond.methodLink RX8 99 yX8_holdsRepeated, Cond.instanceMethod yX8_holdsRepeated, Cond.selects RX8 yX8_holdsRepeated yX8_holdsRepeated, Cond.code yX8_holdsRepeated cX8_holdsRepeated 3 (some .boolean), Cond.methodLink RX8 102 yX6_noteOf, Cond.instanceMethod yX6_noteOf, Cond.selects RX6 yX6_noteOf yX6_noteOf, Cond.code yX6_noteOf cX6_noteOf 2 (some .int), Cond.methodLink RX0 224 yX1_keep, Cond.instanceMethod yX1_keep, Cond.selects RX1 yX1_keep yX1_keep, Cond.code yX1_keep cX1_keep 3 (some .int), Cond.methodLink RX1 49 arraycopyName, Cond.methodLink RX0 108 yX0_headMeaning, Cond.instanceMethod yX0_headMeaning, Cond.selects RX0 yX0_headMeaning yX0_headMeaning, Cond.code yX0_headMeaning cX0_headMeaning 3 (some .int), Cond.methodLink RX0 227 yX9_meaning, Cond.methodLink RX0 112 yX1_isList, Cond.methodLink RX0 116 yX0_expandAlone, Cond.instanceMethod yX0_expandAlone, Cond.selects RX0 yX0_expandAlone yX0_expandAlone, Cond.code yX0_expandAlone cX0_expandAlone 4 none]
def wsL_law_r27 : List Cond := [Cond.methodLink RX0 230 yX1_numberOf, Cond.instanceMethod yX1_numberOf, Cond.selects RX1 yX1_numberOf yX1_numberOf, Cond.code yX1_numberOf cX1_numberOf 2 (some .int), Cond.methodLink RX1 32 yX1_whatIs, Cond.instanceMethod yX1_whatIs, Cond.selects RX1 yX1_whatIs yX1_whatIs, Cond.code yX1_whatIs cX1_whatIs 2 (some .int), Cond.methodLink RX0 233 yX10_addNumber, Cond.instanceMethod yX10_addNumber, Cond.selects RX10 yX10_addNumber yX10_addNumber, Cond.code yX10_addNumber cX10_addNumber 2 none, Cond.methodLink RX10 36 yX10_addDigits, Cond.instanceMethod yX10_addDigits, Cond.selects RX10 yX10_addDigits yX10_addDigits, Cond.code yX10_addDigits cX10_addDigits 4 none, Cond.methodLink RX0 130 yX9_isWord, Cond.static yX9_isWord, Cond.code yX9_isWord cX9_isWord 1 (some .boolean), Cond.methodLink RX0 123 yX9_isMacro, Cond.static yX9_isMacro, Cond.code yX9_isMacro cX9_isMacro 1 (some .boolean), Cond.methodLink RX0 236 yX10_addVariable, Cond.instanceMethod yX10_addVariable]
def wsL_law_r28 : List Cond := [Cond.selects RX10 yX10_addVariable yX10_addVariable, Cond.code yX10_addVariable cX10_addVariable 2 none, Cond.methodLink RX0 239 yX6_root, Cond.instanceMethod yX6_root, Cond.selects RX6 yX6_root yX6_root, Cond.code yX6_root cX6_root 4 (some .int), Cond.methodLink RX6 110 yX6_originalOf, Cond.instanceMethod yX6_originalOf, Cond.selects RX6 yX6_originalOf yX6_originalOf, Cond.code yX6_originalOf cX6_originalOf 2 (some .int), Cond.methodLink RX0 120 yX0_canExpand, Cond.instanceMethod yX0_canExpand, Cond.selects RX0 yX0_canExpand yX0_canExpand, Cond.code yX0_canExpand cX0_canExpand 2 (some .boolean), Cond.methodLink RX0 242 yX1_size, Cond.methodLink RX0 126 yX0_expandUse, Cond.instanceMethod yX0_expandUse, Cond.selects RX0 yX0_expandUse yX0_expandUse, Cond.code yX0_expandUse cX0_expandUse 6 none, Cond.methodLink RX0 245 yX9_homeOf, Cond.instanceMethod yX9_homeOf, Cond.selects RX9 yX9_homeOf yX9_homeOf, Cond.code yX9_homeOf cX9_homeOf 3 (some .int), Cond.methodLink RX0 248 yX9_rulesOf]
def wsL_law_r29 : List Cond := [Cond.instanceMethod yX9_rulesOf, Cond.selects RX9 yX9_rulesOf yX9_rulesOf, Cond.code yX9_rulesOf cX9_rulesOf 3 (some .int), Cond.methodLink RX0 251 yX4_ruleFor, Cond.instanceMethod yX4_ruleFor, Cond.selects RX4 yX4_ruleFor yX4_ruleFor, Cond.code yX4_ruleFor cX4_ruleFor 6 (some .int), Cond.methodLink RX4 34 yX1_part, Cond.methodLink RX4 40 yX1_after, Cond.methodLink RX4 44 yX6_clearNotes, Cond.methodLink RX4 49 yX5_clear, Cond.instanceMethod yX5_clear, Cond.selects RX5 yX5_clear yX5_clear, Cond.code yX5_clear cX5_clear 1 none, Cond.methodLink RX4 54 yX4_rowMatches, Cond.instanceMethod yX4_rowMatches, Cond.selects RX4 yX4_rowMatches yX4_rowMatches, Cond.code yX4_rowMatches cX4_rowMatches 9 (some .boolean), Cond.methodLink RX4 58 yX1_isRepeated, Cond.methodLink RX4 62 yX4_restMatches, Cond.instanceMethod yX4_restMatches, Cond.selects RX4 yX4_restMatches yX4_restMatches, Cond.methodLink RX4 66 yX4_formMatches, Cond.instanceMethod yX4_formMatches]
def wsL_law_r30 : List Cond := [Cond.selects RX4 yX4_formMatches yX4_formMatches, Cond.code yX4_formMatches cX4_formMatches 5 (some .boolean), Cond.methodLink RX4 83 yX1_nameOf, Cond.methodLink RX4 86 yX4_isVariable, Cond.instanceMethod yX4_isVariable, Cond.selects RX4 yX4_isVariable yX4_isVariable, Cond.code yX4_isVariable cX4_isVariable 2 (some .boolean), Cond.methodLink RX4 108 yX6_canBeBound, Cond.methodLink RX4 111 yX8_isLiteral, Cond.methodLink RX4 90 yX5_addVariable, Cond.instanceMethod yX5_addVariable, Cond.selects RX5 yX5_addVariable yX5_addVariable, Cond.code yX5_addVariable cX5_addVariable 2 (some .int), Cond.methodLink RX4 93 yX6_setNote, Cond.methodLink RX4 96 yX5_addForm, Cond.instanceMethod yX5_addForm, Cond.selects RX5 yX5_addForm yX5_addForm, Cond.code yX5_addForm cX5_addForm 2 none, Cond.methodLink RX4 99 yX4_isMeant, Cond.instanceMethod yX4_isMeant, Cond.selects RX4 yX4_isMeant yX4_isMeant, Cond.code yX4_isMeant cX4_isMeant 3 (some .boolean), Cond.methodLink RX4 117 yX9_meaning, Cond.methodLink RX4 102 yX1_isList]
def wsL_law_r31 : List Cond := [Cond.methodLink RX4 105 yX1_whatIs, Cond.code yX4_restMatches cX4_restMatches 7 (some .boolean), Cond.methodLink RX4 73 yX4_addVariables, Cond.instanceMethod yX4_addVariables, Cond.selects RX4 yX4_addVariables yX4_addVariables, Cond.code yX4_addVariables cX4_addVariables 5 none, Cond.methodLink RX4 77 yX5_repeat, Cond.instanceMethod yX5_repeat, Cond.selects RX5 yX5_repeat yX5_repeat, Cond.code yX5_repeat cX5_repeat 4 none, Cond.methodLink RX5 31 Lib.Math.max.name, Cond.methodLink RX0 255 yX3_make, Cond.instanceMethod yX3_make, Cond.selects RX3 yX3_make yX3_make, Cond.code yX3_make cX3_make 3 (some .int), Cond.methodLink RX3 34 yX3_isEven, Cond.instanceMethod yX3_isEven, Cond.selects RX3 yX3_isEven yX3_isEven, Cond.code yX3_isEven cX3_isEven 4 (some .boolean), Cond.methodLink RX3 53 yX1_after, Cond.methodLink RX3 57 yX1_isRepeated, Cond.methodLink RX3 61 yX3_turnsOf, Cond.instanceMethod yX3_turnsOf, Cond.selects RX3 yX3_turnsOf yX3_turnsOf]
def wsL_law_r32 : List Cond := [Cond.code yX3_turnsOf cX3_turnsOf 5 (some .int), Cond.methodLink RX3 75 Lib.Math.max.name, Cond.methodLink RX3 66 yX1_nameOf, Cond.methodLink RX3 69 yX6_noteOf, Cond.methodLink RX3 72 yX5_timesOf, Cond.instanceMethod yX5_timesOf, Cond.selects RX5 yX5_timesOf yX5_timesOf, Cond.code yX5_timesOf cX5_timesOf 2 (some .int), Cond.methodLink RX3 38 yX1_makeRoom, Cond.instanceMethod yX1_makeRoom, Cond.selects RX1 yX1_makeRoom yX1_makeRoom, Cond.code yX1_makeRoom cX1_makeRoom 1 none, Cond.constant RX1 25 (67600), Cond.methodLink RX1 26 yJ7_copyOf_59c91, Cond.static yJ7_copyOf_59c91, Cond.initialized RJ7, Cond.code yJ7_copyOf_59c91 cJ7_copyOf_59c91 3 (some (.array .int)), Cond.methodLink RJ7 316 ⟨"[I", "clone", "()Ljava/lang/Object;"⟩, Cond.sameMethod "[I" "java/lang/Object" "clone" "()Ljava/lang/Object;", Cond.native ⟨"java/lang/Object", "clone", "()Ljava/lang/Object;"⟩, Cond.instanceMethod ⟨"java/lang/Object", "clone", "()Ljava/lang/Object;"⟩, Cond.selects "[I" ⟨"[I", "clone", "()Ljava/lang/Object;"⟩ ⟨"java/lang/Object", "clone", "()Ljava/lang/Object;"⟩, Cond.classLink RJ7 317 "[I", Cond.methodLink RJ7 304 Lib.Math.min.name]
def wsL_law_r33 : List Cond := [Cond.methodLink RJ7 150 arraycopyName, Cond.methodLink RX3 43 yX6_makeRoom, Cond.instanceMethod yX6_makeRoom, Cond.selects RX6 yX6_makeRoom yX6_makeRoom, Cond.code yX6_makeRoom cX6_makeRoom 1 none, Cond.constant RX6 99 (63261), Cond.methodLink RX6 100 yJ7_copyOf_59c91, Cond.methodLink RX3 49 yX3_build, Cond.instanceMethod yX3_build, Cond.selects RX3 yX3_build yX3_build, Cond.code yX3_build cX3_build 8 none, Cond.methodLink RX3 81 yX1_isList, Cond.methodLink RX3 84 yX3_buildPart, Cond.instanceMethod yX3_buildPart, Cond.selects RX3 yX3_buildPart yX3_buildPart, Cond.code yX3_buildPart cX3_buildPart 6 none, Cond.methodLink RX3 98 yX6_canBeBound, Cond.methodLink RX3 101 yX1_whatIs, Cond.methodLink RX3 104 yX3_add, Cond.instanceMethod yX3_add, Cond.selects RX3 yX3_add yX3_add, Cond.code yX3_add cX3_add 2 (some .int), Cond.methodLink RX3 128 yX1_add, Cond.methodLink RX3 107 yX5_formOf]
def wsL_law_r34 : List Cond := [Cond.instanceMethod yX5_formOf, Cond.selects RX5 yX5_formOf yX5_formOf, Cond.code yX5_formOf cX5_formOf 4 (some .int), Cond.methodLink RX3 110 yX3_copy, Cond.instanceMethod yX3_copy, Cond.selects RX3 yX3_copy yX3_copy, Cond.code yX3_copy cX3_copy 5 none, Cond.methodLink RX3 87 yX3_addList, Cond.instanceMethod yX3_addList, Cond.selects RX3 yX3_addList yX3_addList, Cond.code yX3_addList cX3_addList 2 (some .int), Cond.methodLink RX3 94 yX1_endList, Cond.methodLink RX3 113 yX3_aliasOf, Cond.instanceMethod yX3_aliasOf, Cond.selects RX3 yX3_aliasOf yX3_aliasOf, Cond.code yX3_aliasOf cX3_aliasOf 2 (some .int), Cond.methodLink RX3 119 yX6_isNoted, Cond.methodLink RX3 122 yX6_addName, Cond.methodLink RX3 125 yX6_setNote, Cond.methodLink RX3 116 yX1_ofName, Cond.methodLink RX3 90 yX3_buildTurns, Cond.instanceMethod yX3_buildTurns, Cond.selects RX3 yX3_buildTurns yX3_buildTurns, Cond.code yX3_buildTurns cX3_buildTurns 5 none]
def wsL_law_r35 : List Cond := [Cond.methodLink RX0 133 yX0_expandWord, Cond.instanceMethod yX0_expandWord, Cond.selects RX0 yX0_expandWord yX0_expandWord, Cond.code yX0_expandWord cX0_expandWord 3 none, Cond.methodLink RX0 258 yX0_expandLambda, Cond.instanceMethod yX0_expandLambda, Cond.selects RX0 yX0_expandLambda yX0_expandLambda, Cond.code yX0_expandLambda cX0_expandLambda 3 none, Cond.methodLink RX0 279 yX0_startLayer, Cond.instanceMethod yX0_startLayer, Cond.selects RX0 yX0_startLayer yX0_startLayer, Cond.code yX0_startLayer cX0_startLayer 3 (some .boolean), Cond.methodLink RX0 282 yX0_bindVariables, Cond.instanceMethod yX0_bindVariables, Cond.selects RX0 yX0_bindVariables yX0_bindVariables, Cond.code yX0_bindVariables cX0_bindVariables 5 none, Cond.methodLink RX0 285 yX0_canBind, Cond.instanceMethod yX0_canBind, Cond.selects RX0 yX0_canBind yX0_canBind, Cond.code yX0_canBind cX0_canBind 3 (some .boolean), Cond.methodLink RX0 273 yX6_canBeBound, Cond.methodLink RX0 276 yX9_isBoundSince, Cond.instanceMethod yX9_isBoundSince, Cond.selects RX9 yX9_isBoundSince yX9_isBoundSince]
def wsL_law_r36 : List Cond := [Cond.code yX9_isBoundSince cX9_isBoundSince 3 (some .boolean), Cond.methodLink RX0 288 yX9_bindVariable, Cond.instanceMethod yX9_bindVariable, Cond.selects RX9 yX9_bindVariable yX9_bindVariable, Cond.code yX9_bindVariable cX9_bindVariable 3 none, Cond.methodLink RX9 32 yX9_bind, Cond.instanceMethod yX9_bind, Cond.selects RX9 yX9_bind yX9_bind, Cond.code yX9_bind cX9_bind 4 none, Cond.methodLink RX0 261 yX0_expandLetSyntax, Cond.instanceMethod yX0_expandLetSyntax, Cond.selects RX0 yX0_expandLetSyntax yX0_expandLetSyntax, Cond.code yX0_expandLetSyntax cX0_expandLetSyntax 5 none, Cond.methodLink RX0 291 yX0_bindMacros, Cond.instanceMethod yX0_bindMacros, Cond.selects RX0 yX0_bindMacros yX0_bindMacros, Cond.code yX0_bindMacros cX0_bindMacros 6 none, Cond.methodLink RX0 294 yX9_bindMacro, Cond.instanceMethod yX9_bindMacro, Cond.selects RX9 yX9_bindMacro yX9_bindMacro, Cond.code yX9_bindMacro cX9_bindMacro 4 none, Cond.methodLink RX0 264 yX0_expandIf, Cond.instanceMethod yX0_expandIf, Cond.selects RX0 yX0_expandIf yX0_expandIf]
def wsL_law_r37 : List Cond := [Cond.code yX0_expandIf cX0_expandIf 2 none, Cond.methodLink RX0 267 yX0_expandQuote, Cond.instanceMethod yX0_expandQuote, Cond.selects RX0 yX0_expandQuote yX0_expandQuote, Cond.code yX0_expandQuote cX0_expandQuote 2 none, Cond.methodLink RX0 270 yX0_tellRoots, Cond.instanceMethod yX0_tellRoots, Cond.selects RX0 yX0_tellRoots yX0_tellRoots, Cond.code yX0_tellRoots cX0_tellRoots 3 none, Cond.methodLink RX0 136 yX0_expandPlain, Cond.instanceMethod yX0_expandPlain, Cond.selects RX0 yX0_expandPlain yX0_expandPlain, Cond.code yX0_expandPlain cX0_expandPlain 2 none, Cond.methodLink RX11 89 yX11_takeText, Cond.instanceMethod yX11_takeText, Cond.selects RX11 yX11_takeText yX11_takeText, Cond.code yX11_takeText cX11_takeText 2 none, Cond.methodLink RX11 127 yX10_take, Cond.instanceMethod yX10_take, Cond.selects RX10 yX10_take yX10_take, Cond.code yX10_take cX10_take 2 none, Cond.methodLink RX11 132 yX6_take, Cond.instanceMethod yX6_take, Cond.selects RX6 yX6_take yX6_take]
def wsL_law_r38 : List Cond := [Cond.code yX6_take cX6_take 2 none, Cond.methodLink RX11 93 yX6_takeBack, Cond.instanceMethod yX6_takeBack, Cond.selects RX6 yX6_takeBack yX6_takeBack, Cond.code yX6_takeBack cX6_takeBack 1 none, Cond.methodLink RL 24 yX12_read, Cond.instanceMethod yX12_read, Cond.selects RX12 yX12_read yX12_read, Cond.code yX12_read cX12_read 5 (some .int), Cond.fieldLink RX12 390 "MacroScopesModel" "ruleSize" "I", Cond.fieldLink RX12 203 "MacroScopesModel" "waits" "I", Cond.fieldLink RX12 236 "MacroScopesModel" "fault" "I", Cond.fieldLink RX12 223 "MacroScopesModel" "toldSize" "I", Cond.fieldLink RX12 418 "MacroScopesModel" "keptSize" "I", Cond.fieldLink RX12 345 "MacroScopesModel" "uses" "I", Cond.fieldLink RX12 421 "MacroScopesModel" "keptUses" "I", Cond.fieldLink RX12 297 "MacroScopesModel" "variables" "I", Cond.fieldLink RX12 424 "MacroScopesModel" "keptVariables" "I", Cond.fieldLink RX12 427 "MacroScopesModel" "keptTops" "I", Cond.methodLink RX12 408 yX12_beginText, Cond.instanceMethod yX12_beginText, Cond.selects RX12 yX12_beginText yX12_beginText, Cond.code yX12_beginText cX12_beginText 1 none, Cond.fieldLink RX12 402 "MacroScopesModel" "staying" "I"]
def wsL_law_r39 : List Cond := [Cond.fieldLink RX12 196 "MacroScopesModel" "forms" "I", Cond.fieldLink RX12 405 "MacroScopesModel" "stayingParts" "I", Cond.fieldLink RX12 220 "MacroScopesModel" "partCount" "I", Cond.fieldLink RX12 374 "MacroScopesModel" "aliases" "I", Cond.fieldLink RX12 288 "MacroScopesModel" "bindings" "I", Cond.fieldLink RX12 279 "MacroScopesModel" "binders" "I", Cond.methodLink RX12 411 yX12_parse, Cond.instanceMethod yX12_parse, Cond.selects RX12 yX12_parse yX12_parse, Cond.code yX12_parse cX12_parse 6 (some .boolean), Cond.methodLink RX12 213 yX12_endList, Cond.instanceMethod yX12_endList, Cond.selects RX12 yX12_endList yX12_endList, Cond.code yX12_endList cX12_endList 4 none, Cond.methodLink RX12 206 yX12_newForm, Cond.instanceMethod yX12_newForm, Cond.selects RX12 yX12_newForm yX12_newForm, Cond.code yX12_newForm cX12_newForm 4 (some .int), Cond.methodLink RX12 217 yX12_token, Cond.instanceMethod yX12_token, Cond.selects RX12 yX12_token yX12_token, Cond.code yX12_token cX12_token 6 (some .boolean), Cond.methodLink RX12 199 yX12_isSymbol, Cond.instanceMethod yX12_isSymbol]
def wsL_law_r40 : List Cond := [Cond.selects RX12 yX12_isSymbol yX12_isSymbol, Cond.code yX12_isSymbol cX12_isSymbol 6 (some .boolean), Cond.methodLink RX12 210 yX12_symbolAt, Cond.instanceMethod yX12_symbolAt, Cond.selects RX12 yX12_symbolAt yX12_symbolAt, Cond.code yX12_symbolAt cX12_symbolAt 4 (some .int), Cond.methodLink RX12 415 yX12_top, Cond.instanceMethod yX12_top, Cond.selects RX12 yX12_top yX12_top, Cond.code yX12_top cX12_top 6 none, Cond.fieldLink RX12 229 "MacroScopesModel" "todo" "I", Cond.methodLink RX12 393 yX12_isDefinition, Cond.instanceMethod yX12_isDefinition, Cond.selects RX12 yX12_isDefinition yX12_isDefinition, Cond.code yX12_isDefinition cX12_isDefinition 3 (some .boolean), Cond.methodLink RX12 192 yX12_part, Cond.instanceMethod yX12_part, Cond.selects RX12 yX12_part yX12_part, Cond.code yX12_part cX12_part 3 (some .int), Cond.methodLink RX12 180 yX12_isName, Cond.instanceMethod yX12_isName, Cond.selects RX12 yX12_isName yX12_isName, Cond.code yX12_isName cX12_isName 2 (some .boolean), Cond.methodLink RX12 226 yX12_say]
def wsL_law_r41 : List Cond := [Cond.instanceMethod yX12_say, Cond.selects RX12 yX12_say yX12_say, Cond.code yX12_say cX12_say 2 none, Cond.methodLink RX12 276 yX12_isList, Cond.instanceMethod yX12_isList, Cond.selects RX12 yX12_isList yX12_isList, Cond.code yX12_isList cX12_isList 3 (some .boolean), Cond.methodLink RX12 255 yX12_need, Cond.instanceMethod yX12_need, Cond.selects RX12 yX12_need yX12_need, Cond.code yX12_need cX12_need 3 (some .boolean), Cond.methodLink RX12 239 yX12_fail, Cond.instanceMethod yX12_fail, Cond.selects RX12 yX12_fail yX12_fail, Cond.code yX12_fail cX12_fail 2 none, Cond.methodLink RX12 396 yX12_defineSyntax, Cond.instanceMethod yX12_defineSyntax, Cond.selects RX12 yX12_defineSyntax yX12_defineSyntax, Cond.code yX12_defineSyntax cX12_defineSyntax 4 none, Cond.methodLink RX12 303 yX12_areRules, Cond.instanceMethod yX12_areRules, Cond.selects RX12 yX12_areRules yX12_areRules, Cond.code yX12_areRules cX12_areRules 6 (some .boolean), Cond.methodLink RX12 252 yX12_meaning]
def wsL_law_r42 : List Cond := [Cond.instanceMethod yX12_meaning, Cond.selects RX12 yX12_meaning yX12_meaning, Cond.code yX12_meaning cX12_meaning 7 (some .int), Cond.methodLink RX12 291 yX12_isBindable, Cond.instanceMethod yX12_isBindable, Cond.selects RX12 yX12_isBindable yX12_isBindable, Cond.code yX12_isBindable cX12_isBindable 2 (some .boolean), Cond.methodLink RX12 188 yX12_isFrom, Cond.instanceMethod yX12_isFrom, Cond.selects RX12 yX12_isFrom yX12_isFrom, Cond.code yX12_isFrom cX12_isFrom 3 (some .boolean), Cond.methodLink RX12 184 yX12_rootOf, Cond.instanceMethod yX12_rootOf, Cond.selects RX12 yX12_rootOf yX12_rootOf, Cond.code yX12_rootOf cX12_rootOf 3 (some .int), Cond.methodLink RX12 312 yX12_isPattern, Cond.instanceMethod yX12_isPattern, Cond.selects RX12 yX12_isPattern yX12_isPattern, Cond.code yX12_isPattern cX12_isPattern 11 (some .boolean), Cond.fieldLink RX12 309 "MacroScopesModel" "variableCount" "I", Cond.fieldLink RX12 306 "MacroScopesModel" "looks" "I", Cond.methodLink RX12 318 yX12_lookAt, Cond.instanceMethod yX12_lookAt, Cond.selects RX12 yX12_lookAt yX12_lookAt]
def wsL_law_r43 : List Cond := [Cond.code yX12_lookAt cX12_lookAt 4 none, Cond.methodLink RX12 321 yX12_isEllipsis, Cond.instanceMethod yX12_isEllipsis, Cond.selects RX12 yX12_isEllipsis yX12_isEllipsis, Cond.code yX12_isEllipsis cX12_isEllipsis 3 (some .boolean), Cond.methodLink RX12 324 yX12_isLiteral, Cond.instanceMethod yX12_isLiteral, Cond.selects RX12 yX12_isLiteral yX12_isLiteral, Cond.code yX12_isLiteral cX12_isLiteral 6 (some .boolean), Cond.methodLink RX12 327 yX12_variable, Cond.instanceMethod yX12_variable, Cond.selects RX12 yX12_variable yX12_variable, Cond.code yX12_variable cX12_variable 4 (some .int), Cond.methodLink RX12 315 yX12_isTemplate, Cond.instanceMethod yX12_isTemplate, Cond.selects RX12 yX12_isTemplate yX12_isTemplate, Cond.code yX12_isTemplate cX12_isTemplate 8 (some .boolean), Cond.methodLink RX12 330 yX12_isRepeated, Cond.instanceMethod yX12_isRepeated, Cond.selects RX12 yX12_isRepeated yX12_isRepeated, Cond.code yX12_isRepeated cX12_isRepeated 3 (some .boolean), Cond.methodLink RX12 333 yX12_hasRepeated, Cond.instanceMethod yX12_hasRepeated, Cond.selects RX12 yX12_hasRepeated yX12_hasRepeated]
def wsL_law_r44 : List Cond := [Cond.code yX12_hasRepeated cX12_hasRepeated 6 (some .boolean), Cond.methodLink RX12 370 yX12_sizeOf, Cond.instanceMethod yX12_sizeOf, Cond.selects RX12 yX12_sizeOf yX12_sizeOf, Cond.code yX12_sizeOf cX12_sizeOf 6 (some .int), Cond.methodLink RX12 245 yX12_saySymbol, Cond.instanceMethod yX12_saySymbol, Cond.selects RX12 yX12_saySymbol yX12_saySymbol, Cond.code yX12_saySymbol cX12_saySymbol 3 none, Cond.methodLink RX12 232 yX12_task, Cond.instanceMethod yX12_task, Cond.selects RX12 yX12_task yX12_task, Cond.code yX12_task cX12_task 5 none, Cond.methodLink RX12 399 yX12_doAll, Cond.instanceMethod yX12_doAll, Cond.selects RX12 yX12_doAll yX12_doAll, Cond.code yX12_doAll cX12_doAll 2 none, Cond.methodLink RX12 384 yX12_expand, Cond.instanceMethod yX12_expand, Cond.selects RX12 yX12_expand yX12_expand, Cond.code yX12_expand cX12_expand 4 none, Cond.methodLink RX12 242 yX12_sayNumber, Cond.instanceMethod yX12_sayNumber, Cond.selects RX12 yX12_sayNumber yX12_sayNumber]
def wsL_law_r45 : List Cond := [Cond.code yX12_sayNumber cX12_sayNumber 4 none, Cond.methodLink RX12 259 yX12_sayName, Cond.instanceMethod yX12_sayName, Cond.selects RX12 yX12_sayName yX12_sayName, Cond.code yX12_sayName cX12_sayName 5 none, Cond.methodLink RX12 263 yX12_expandList, Cond.instanceMethod yX12_expandList, Cond.selects RX12 yX12_expandList yX12_expandList, Cond.code yX12_expandList cX12_expandList 8 none, Cond.methodLink RX12 267 yX12_environmentOf, Cond.instanceMethod yX12_environmentOf, Cond.selects RX12 yX12_environmentOf yX12_environmentOf, Cond.code yX12_environmentOf cX12_environmentOf 3 (some .int), Cond.methodLink RX12 270 yX12_use, Cond.instanceMethod yX12_use, Cond.selects RX12 yX12_use yX12_use, Cond.code yX12_use cX12_use 10 none, Cond.methodLink RX12 348 yX12_matches, Cond.instanceMethod yX12_matches, Cond.selects RX12 yX12_matches yX12_matches, Cond.code yX12_matches cX12_matches 10 (some .boolean), Cond.methodLink RX12 336 yX12_lookAtParts, Cond.instanceMethod yX12_lookAtParts, Cond.selects RX12 yX12_lookAtParts yX12_lookAtParts]
def wsL_law_r46 : List Cond := [Cond.code yX12_lookAtParts cX12_lookAtParts 9 (some .boolean), Cond.methodLink RX12 352 yX12_keepMatches, Cond.instanceMethod yX12_keepMatches, Cond.selects RX12 yX12_keepMatches yX12_keepMatches, Cond.code yX12_keepMatches cX12_keepMatches 8 none, Cond.methodLink RX12 339 yX12_keepParts, Cond.instanceMethod yX12_keepParts, Cond.selects RX12 yX12_keepParts yX12_keepParts, Cond.code yX12_keepParts cX12_keepParts 9 none, Cond.methodLink RX12 342 yX12_setCounts, Cond.instanceMethod yX12_setCounts, Cond.selects RX12 yX12_setCounts yX12_setCounts, Cond.code yX12_setCounts cX12_setCounts 7 none, Cond.methodLink RX12 355 yX12_areCountsAlike, Cond.instanceMethod yX12_areCountsAlike, Cond.selects RX12 yX12_areCountsAlike yX12_areCountsAlike, Cond.code yX12_areCountsAlike cX12_areCountsAlike 6 (some .boolean), Cond.methodLink RX12 367 yX12_turnsOf, Cond.instanceMethod yX12_turnsOf, Cond.selects RX12 yX12_turnsOf yX12_turnsOf, Cond.code yX12_turnsOf cX12_turnsOf 6 (some .int), Cond.methodLink RX12 358 yX12_sizeMade, Cond.instanceMethod yX12_sizeMade, Cond.selects RX12 yX12_sizeMade yX12_sizeMade]
def wsL_law_r47 : List Cond := [Cond.code yX12_sizeMade cX12_sizeMade 9 (some .int), Cond.constant RX12 373 (80000), Cond.methodLink RX12 361 yX12_make, Cond.instanceMethod yX12_make, Cond.selects RX12 yX12_make yX12_make, Cond.code yX12_make cX12_make 13 (some .int), Cond.methodLink RX12 380 yX12_begin, Cond.instanceMethod yX12_begin, Cond.selects RX12 yX12_begin yX12_begin, Cond.code yX12_begin cX12_begin 6 (some .int), Cond.methodLink RX12 377 yX12_alias, Cond.instanceMethod yX12_alias, Cond.selects RX12 yX12_alias yX12_alias, Cond.code yX12_alias cX12_alias 5 (some .int), Cond.methodLink RX12 364 yX12_nested, Cond.instanceMethod yX12_nested, Cond.selects RX12 yX12_nested yX12_nested, Cond.code yX12_nested cX12_nested 6 (some .int), Cond.methodLink RX12 273 yX12_expandWord, Cond.instanceMethod yX12_expandWord, Cond.selects RX12 yX12_expandWord yX12_expandWord, Cond.code yX12_expandWord cX12_expandWord 5 none, Cond.methodLink RX12 248 yX12_taskParts, Cond.instanceMethod yX12_taskParts]
def wsL_law_r48 : List Cond := [Cond.selects RX12 yX12_taskParts yX12_taskParts, Cond.code yX12_taskParts cX12_taskParts 7 none, Cond.methodLink RX12 282 yX12_lambda, Cond.instanceMethod yX12_lambda, Cond.selects RX12 yX12_lambda yX12_lambda, Cond.code yX12_lambda cX12_lambda 8 none, Cond.methodLink RX12 294 yX12_newEnvironment, Cond.instanceMethod yX12_newEnvironment, Cond.selects RX12 yX12_newEnvironment yX12_newEnvironment, Cond.code yX12_newEnvironment cX12_newEnvironment 2 (some .int), Cond.methodLink RX12 300 yX12_bind, Cond.instanceMethod yX12_bind, Cond.selects RX12 yX12_bind yX12_bind, Cond.code yX12_bind cX12_bind 4 none, Cond.methodLink RX12 285 yX12_letSyntax, Cond.instanceMethod yX12_letSyntax, Cond.selects RX12 yX12_letSyntax yX12_letSyntax, Cond.code yX12_letSyntax cX12_letSyntax 8 none, Cond.methodLink RX12 387 yX12_sayPlain, Cond.instanceMethod yX12_sayPlain, Cond.selects RX12 yX12_sayPlain yX12_sayPlain, Cond.code yX12_sayPlain cX12_sayPlain 2 none, Cond.methodLink RX12 430 yX12_stay, Cond.instanceMethod yX12_stay]
def wsL_law_r49 : List Cond := [Cond.selects RX12 yX12_stay yX12_stay, Cond.code yX12_stay cX12_stay 5 none, Cond.fieldLink RX12 433 "MacroScopesModel" "copies" "I", Cond.fieldLink RX12 436 "MacroScopesModel" "copiedParts" "I", Cond.methodLink RX12 439 yX12_copyOne, Cond.instanceMethod yX12_copyOne, Cond.selects RX12 yX12_copyOne yX12_copyOne, Cond.code yX12_copyOne cX12_copyOne 2 (some .int), Cond.methodLink RL 25 yX11_place, Cond.instanceMethod yX11_place, Cond.selects RX11 yX11_place yX11_place, Cond.code yX11_place cX11_place 1 (some .int), Cond.methodLink RL 28 yX12_place, Cond.instanceMethod yX12_place, Cond.selects RX12 yX12_place yX12_place, Cond.code yX12_place cX12_place 1 (some .int), Cond.methodLink RL 29 yX11_count, Cond.instanceMethod yX11_count, Cond.selects RX11 yX11_count yX11_count, Cond.code yX11_count cX11_count 2 (some .int), Cond.methodLink RX11 99 yX6_macros, Cond.instanceMethod yX6_macros, Cond.selects RX6 yX6_macros yX6_macros, Cond.code yX6_macros cX6_macros 3 (some .int)]
def wsL_law_r50 : List Cond := [Cond.methodLink RL 33 yX12_count, Cond.instanceMethod yX12_count, Cond.selects RX12 yX12_count yX12_count, Cond.code yX12_count cX12_count 4 (some .int), Cond.methodLink RL 34 yX11_character, Cond.instanceMethod yX11_character, Cond.selects RX11 yX11_character yX11_character, Cond.code yX11_character cX11_character 2 (some .int), Cond.methodLink RX11 102 yX10_at, Cond.instanceMethod yX10_at, Cond.selects RX10 yX10_at yX10_at, Cond.code yX10_at cX10_at 2 (some .int), Cond.methodLink RL 37 yX12_character, Cond.instanceMethod yX12_character, Cond.selects RX12 yX12_character yX12_character, Cond.code yX12_character cX12_character 2 (some .int), Cond.methodLink RL 38 yX11_means, Cond.instanceMethod yX11_means, Cond.selects RX11 yX11_means yX11_means, Cond.code yX11_means cX11_means 5 (some .int), Cond.methodLink RX11 106 yX7_tokenFrom, Cond.methodLink RX11 110 yX7_tokenEnd, Cond.methodLink RX11 113 yX7_isSymbol, Cond.methodLink RX11 117 yX7_symbolOf]
def wsL_law_r51 : List Cond := [Cond.methodLink RX11 120 yX6_rulesOf, Cond.methodLink RL 41 yX12_means, Cond.instanceMethod yX12_means, Cond.selects RX12 yX12_means yX12_means, Cond.code yX12_means cX12_means 3 (some .int), Cond.methodLink RL 42 yX11_check, Cond.instanceMethod yX11_check, Cond.selects RX11 yX11_check yX11_check, Cond.code yX11_check cX11_check 1 (some .int), Cond.methodLink RX11 123 yX10_canBeRead, Cond.instanceMethod yX10_canBeRead, Cond.selects RX10 yX10_canBeRead yX10_canBeRead, Cond.code yX10_canBeRead cX10_canBeRead 3 (some .boolean), Cond.methodLink RL 45 yX12_check, Cond.instanceMethod yX12_check, Cond.selects RX12 yX12_check yX12_check, Cond.code yX12_check cX12_check 1 (some .int)]
def wsL_law : List Cond := (wsL_law_r1 ++ (wsL_law_r2 ++ (wsL_law_r3 ++ (wsL_law_r4 ++ (wsL_law_r5 ++ (wsL_law_r6 ++ (wsL_law_r7 ++ (wsL_law_r8 ++ (wsL_law_r9 ++ (wsL_law_r10 ++ (wsL_law_r11 ++ (wsL_law_r12 ++ (wsL_law_r13 ++ (wsL_law_r14 ++ (wsL_law_r15 ++ (wsL_law_r16 ++ (wsL_law_r17 ++ (wsL_law_r18 ++ (wsL_law_r19 ++ (wsL_law_r20 ++ (wsL_law_r21 ++ (wsL_law_r22 ++ (wsL_law_r23 ++ (wsL_law_r24 ++ (wsL_law_r25 ++ (wsL_law_r26 ++ (wsL_law_r27 ++ (wsL_law_r28 ++ (wsL_law_r29 ++ (wsL_law_r30 ++ (wsL_law_r31 ++ (wsL_law_r32 ++ (wsL_law_r33 ++ (wsL_law_r34 ++ (wsL_law_r35 ++ (wsL_law_r36 ++ (wsL_law_r37 ++ (wsL_law_r38 ++ (wsL_law_r39 ++ (wsL_law_r40 ++ (wsL_law_r41 ++ (wsL_law_r42 ++ (wsL_law_r43 ++ (wsL_law_r44 ++ (wsL_law_r45 ++ (wsL_law_r46 ++ (wsL_law_r47 ++ (wsL_law_r48 ++ (wsL_law_r49 ++ (wsL_law_r50 ++ wsL_law_r51)))))))))))))))))))))))))))))))))))))))))))))))))) ++ wsX110 ++ wsX120 ++ wsX60 ++ wsX10 ++ wsX100 ++ wsX70 ++ wsX00 ++ wsX20 ++ wsX50 ++ wsX90 ++ wsX80 ++ wsX40 ++ wsX30 ++ ([] : List Cond)
abbrev vwCl : List vw_C := [(RX0, TX0, 15), (RX1, TX1, 4), (RX2, TX2, 7), (RX3, TX3, 6), (RX4, TX4, 6), (RX5, TX5, 6), (RX6, TX6, 13), (RX7, TX7, 4), (RX8, TX8, 4), (RX9, TX9, 6), (RX10, TX10, 5), (RX11, TX11, 11), (RX12, TX12, 64)]
end
section
theorem dX0_init_0 : decode cX0_init 0 = .ok (.aload_n 0, 1) := by decide +kernel
theorem dX0_init_1 : decode cX0_init 1 = .ok (.invokespecial 3, 3) := by decide +kernel
theorem dX0_init_4 : decode cX0_init 4 = .ok (.aload_n 0, 1) := by decide +kernel
theorem dX0_init_5 : decode cX0_init 5 = .ok (.new 9, 3) := by decide +kernel
theorem dX0_init_8 : decode cX0_init 8 = .ok (.dup, 1) := by decide +kernel
theorem dX0_init_9 : decode cX0_init 9 = .ok (.invokespecial 11, 3) := by decide +kernel
theorem dX0_init_12 : decode cX0_init 12 = .ok (.putfield 12, 3) := by decide +kernel
theorem dX0_init_15 : decode cX0_init 15 = .ok (.aload_n 0, 1) := by decide +kernel
theorem dX0_init_16 : decode cX0_init 16 = .ok (.iconst 0, 1) := by decide +kernel
theorem dX0_init_17 : decode cX0_init 17 = .ok (.putfield 18, 3) := by decide +kernel
theorem dX0_init_20 : decode cX0_init 20 = .ok (.aload_n 0, 1) := by decide +kernel
theorem dX0_init_21 : decode cX0_init 21 = .ok (.iconst (-1), 1) := by decide +kernel
theorem dX0_init_22 : decode cX0_init 22 = .ok (.putfield 22, 3) := by decide +kernel
theorem dX0_init_25 : decode cX0_init 25 = .ok (.aload_n 0, 1) := by decide +kernel
theorem dX0_init_26 : decode cX0_init 26 = .ok (.iconst 0, 1) := by decide +kernel
theorem dX0_init_27 : decode cX0_init 27 = .ok (.putfield 25, 3) := by decide +kernel
theorem dX0_init_30 : decode cX0_init 30 = .ok (.aload_n 0, 1) := by decide +kernel
theorem dX0_init_31 : decode cX0_init 31 = .ok (.iconst (-1), 1) := by decide +kernel
theorem dX0_init_32 : decode cX0_init 32 = .ok (.putfield 28, 3) := by decide +kernel
theorem dX0_init_35 : decode cX0_init 35 = .ok (.aload_n 0, 1) := by decide +kernel
theorem dX0_init_36 : decode cX0_init 36 = .ok (.iconst 0, 1) := by decide +kernel
theorem dX0_init_37 : decode cX0_init 37 = .ok (.putfield 31, 3) := by decide +kernel
theorem dX0_init_40 : decode cX0_init 40 = .ok (.aload_n 0, 1) := by decide +kernel
theorem dX0_init_41 : decode cX0_init 41 = .ok (.iconst 0, 1) := by decide +kernel
theorem dX0_init_42 : decode cX0_init 42 = .ok (.putfield 34, 3) := by decide +kernel
theorem dX0_init_45 : decode cX0_init 45 = .ok (.aload_n 0, 1) := by decide +kernel
theorem dX0_init_46 : decode cX0_init 46 = .ok (.iconst 0, 1) := by decide +kernel
theorem dX0_init_47 : decode cX0_init 47 = .ok (.putfield 37, 3) := by decide +kernel
theorem dX0_init_50 : decode cX0_init 50 = .ok (.new 40, 3) := by decide +kernel
theorem dX0_init_53 : decode cX0_init 53 = .ok (.dup, 1) := by decide +kernel
theorem dX0_init_54 : decode cX0_init 54 = .ok (.invokespecial 42, 3) := by decide +kernel
theorem dX0_init_57 : decode cX0_init 57 = .ok (.astore 4, 2) := by decide +kernel
theorem dX0_init_59 : decode cX0_init 59 = .ok (.aload_n 0, 1) := by decide +kernel
theorem dX0_init_60 : decode cX0_init 60 = .ok (.aload_n 1, 1) := by decide +kernel
theorem dX0_init_61 : decode cX0_init 61 = .ok (.putfield 43, 3) := by decide +kernel
theorem dX0_init_64 : decode cX0_init 64 = .ok (.aload_n 0, 1) := by decide +kernel
theorem dX0_init_65 : decode cX0_init 65 = .ok (.aload_n 2, 1) := by decide +kernel
theorem dX0_init_66 : decode cX0_init 66 = .ok (.putfield 47, 3) := by decide +kernel
theorem dX0_init_69 : decode cX0_init 69 = .ok (.aload_n 0, 1) := by decide +kernel
theorem dX0_init_70 : decode cX0_init 70 = .ok (.aload_n 3, 1) := by decide +kernel
theorem dX0_init_71 : decode cX0_init 71 = .ok (.putfield 51, 3) := by decide +kernel
theorem dX0_init_74 : decode cX0_init 74 = .ok (.aload_n 0, 1) := by decide +kernel
theorem dX0_init_75 : decode cX0_init 75 = .ok (.new 55, 3) := by decide +kernel
theorem dX0_init_78 : decode cX0_init 78 = .ok (.dup, 1) := by decide +kernel
theorem dX0_init_79 : decode cX0_init 79 = .ok (.aload_n 2, 1) := by decide +kernel
theorem dX0_init_80 : decode cX0_init 80 = .ok (.invokespecial 57, 3) := by decide +kernel
theorem dX0_init_83 : decode cX0_init 83 = .ok (.putfield 60, 3) := by decide +kernel
theorem dX0_init_86 : decode cX0_init 86 = .ok (.aload_n 0, 1) := by decide +kernel
theorem dX0_init_87 : decode cX0_init 87 = .ok (.new 64, 3) := by decide +kernel
theorem dX0_init_90 : decode cX0_init 90 = .ok (.dup, 1) := by decide +kernel
theorem dX0_init_91 : decode cX0_init 91 = .ok (.aload_n 1, 1) := by decide +kernel
theorem dX0_init_92 : decode cX0_init 92 = .ok (.aload_n 2, 1) := by decide +kernel
theorem dX0_init_93 : decode cX0_init 93 = .ok (.aload_n 0, 1) := by decide +kernel
theorem dX0_init_94 : decode cX0_init 94 = .ok (.getfield 60, 3) := by decide +kernel
theorem dX0_init_97 : decode cX0_init 97 = .ok (.invokespecial 66, 3) := by decide +kernel
theorem dX0_init_100 : decode cX0_init 100 = .ok (.putfield 69, 3) := by decide +kernel
theorem dX0_init_103 : decode cX0_init 103 = .ok (.aload_n 0, 1) := by decide +kernel
theorem dX0_init_104 : decode cX0_init 104 = .ok (.new 73, 3) := by decide +kernel
theorem dX0_init_107 : decode cX0_init 107 = .ok (.dup, 1) := by decide +kernel
theorem dX0_init_108 : decode cX0_init 108 = .ok (.aload_n 1, 1) := by decide +kernel
theorem dX0_init_109 : decode cX0_init 109 = .ok (.aload_n 2, 1) := by decide +kernel
theorem dX0_init_110 : decode cX0_init 110 = .ok (.aload_n 0, 1) := by decide +kernel
theorem dX0_init_111 : decode cX0_init 111 = .ok (.getfield 60, 3) := by decide +kernel
theorem dX0_init_114 : decode cX0_init 114 = .ok (.aload 4, 2) := by decide +kernel
theorem dX0_init_116 : decode cX0_init 116 = .ok (.invokespecial 75, 3) := by decide +kernel
theorem dX0_init_119 : decode cX0_init 119 = .ok (.putfield 78, 3) := by decide +kernel
theorem dX0_init_122 : decode cX0_init 122 = .ok (.aload_n 0, 1) := by decide +kernel
theorem dX0_init_123 : decode cX0_init 123 = .ok (.new 82, 3) := by decide +kernel
theorem dX0_init_126 : decode cX0_init 126 = .ok (.dup, 1) := by decide +kernel
theorem dX0_init_127 : decode cX0_init 127 = .ok (.aload_n 1, 1) := by decide +kernel
theorem dX0_init_128 : decode cX0_init 128 = .ok (.aload_n 2, 1) := by decide +kernel
theorem dX0_init_129 : decode cX0_init 129 = .ok (.aload 4, 2) := by decide +kernel
theorem dX0_init_131 : decode cX0_init 131 = .ok (.invokespecial 84, 3) := by decide +kernel
theorem dX0_init_134 : decode cX0_init 134 = .ok (.putfield 87, 3) := by decide +kernel
theorem dX0_init_137 : decode cX0_init 137 = .ok (.return_, 1) := by decide +kernel
theorem dX0_tellText_0 : decode cX0_tellText 0 = .ok (.aload_n 0, 1) := by decide +kernel
theorem dX0_tellText_1 : decode cX0_tellText 1 = .ok (.invokevirtual 91, 3) := by decide +kernel
theorem dX0_tellText_4 : decode cX0_tellText 4 = .ok (.aload_n 0, 1) := by decide +kernel
theorem dX0_tellText_5 : decode cX0_tellText 5 = .ok (.getfield 43, 3) := by decide +kernel
theorem dX0_tellText_8 : decode cX0_tellText 8 = .ok (.getfield 94, 3) := by decide +kernel
theorem dX0_tellText_11 : decode cX0_tellText 11 = .ok (.istore_n 1, 1) := by decide +kernel
theorem dX0_tellText_12 : decode cX0_tellText 12 = .ok (.iconst 0, 1) := by decide +kernel
theorem dX0_tellText_13 : decode cX0_tellText 13 = .ok (.istore_n 2, 1) := by decide +kernel
theorem dX0_tellText_14 : decode cX0_tellText 14 = .ok (.iload_n 2, 1) := by decide +kernel
theorem dX0_tellText_15 : decode cX0_tellText 15 = .ok (.ldc 99, 2) := by decide +kernel
theorem dX0_tellText_17 : decode cX0_tellText 17 = .ok (.if_icmp .ge 144, 3) := by decide +kernel
theorem dX0_tellText_20 : decode cX0_tellText 20 = .ok (.aload_n 0, 1) := by decide +kernel
theorem dX0_tellText_21 : decode cX0_tellText 21 = .ok (.getfield 25, 3) := by decide +kernel
theorem dX0_tellText_24 : decode cX0_tellText 24 = .ok (.ifCond .ne 137, 3) := by decide +kernel
theorem dX0_tellText_27 : decode cX0_tellText 27 = .ok (.aload_n 0, 1) := by decide +kernel
theorem dX0_tellText_28 : decode cX0_tellText 28 = .ok (.getfield 12, 3) := by decide +kernel
theorem dX0_tellText_31 : decode cX0_tellText 31 = .ok (.getfield 100, 3) := by decide +kernel
theorem dX0_tellText_34 : decode cX0_tellText 34 = .ok (.ifCond .gt 11, 3) := by decide +kernel
theorem dX0_tellText_37 : decode cX0_tellText 37 = .ok (.aload_n 0, 1) := by decide +kernel
theorem dX0_tellText_38 : decode cX0_tellText 38 = .ok (.getfield 18, 3) := by decide +kernel
theorem dX0_tellText_41 : decode cX0_tellText 41 = .ok (.iload_n 1, 1) := by decide +kernel
theorem dX0_tellText_42 : decode cX0_tellText 42 = .ok (.if_icmp .ge 119, 3) := by decide +kernel
theorem dX0_tellText_45 : decode cX0_tellText 45 = .ok (.aload_n 0, 1) := by decide +kernel
theorem dX0_tellText_46 : decode cX0_tellText 46 = .ok (.getfield 12, 3) := by decide +kernel
theorem dX0_tellText_49 : decode cX0_tellText 49 = .ok (.getfield 100, 3) := by decide +kernel
theorem dX0_tellText_52 : decode cX0_tellText 52 = .ok (.ifCond .le 10, 3) := by decide +kernel
theorem dX0_tellText_55 : decode cX0_tellText 55 = .ok (.aload_n 0, 1) := by decide +kernel
theorem dX0_tellText_56 : decode cX0_tellText 56 = .ok (.invokevirtual 101, 3) := by decide +kernel
theorem dX0_tellText_59 : decode cX0_tellText 59 = .ok (.goto 7, 3) := by decide +kernel
theorem dX0_tellText_62 : decode cX0_tellText 62 = .ok (.aload_n 0, 1) := by decide +kernel
theorem dX0_tellText_63 : decode cX0_tellText 63 = .ok (.invokevirtual 105, 3) := by decide +kernel
theorem dX0_tellText_66 : decode cX0_tellText 66 = .ok (.istore_n 3, 1) := by decide +kernel
theorem dX0_tellText_67 : decode cX0_tellText 67 = .ok (.iload_n 3, 1) := by decide +kernel
theorem dX0_tellText_68 : decode cX0_tellText 68 = .ok (.iconst (-1), 1) := by decide +kernel
theorem dX0_tellText_69 : decode cX0_tellText 69 = .ok (.if_icmp .ne 6, 3) := by decide +kernel
theorem dX0_tellText_72 : decode cX0_tellText 72 = .ok (.goto 83, 3) := by decide +kernel
theorem dX0_tellText_75 : decode cX0_tellText 75 = .ok (.aload_n 0, 1) := by decide +kernel
theorem dX0_tellText_76 : decode cX0_tellText 76 = .ok (.iload_n 3, 1) := by decide +kernel
theorem dX0_tellText_77 : decode cX0_tellText 77 = .ok (.invokevirtual 108, 3) := by decide +kernel
theorem dX0_tellText_80 : decode cX0_tellText 80 = .ok (.istore 4, 2) := by decide +kernel
theorem dX0_tellText_82 : decode cX0_tellText 82 = .ok (.aload_n 0, 1) := by decide +kernel
theorem dX0_tellText_83 : decode cX0_tellText 83 = .ok (.getfield 43, 3) := by decide +kernel
theorem dX0_tellText_86 : decode cX0_tellText 86 = .ok (.iload_n 3, 1) := by decide +kernel
theorem dX0_tellText_87 : decode cX0_tellText 87 = .ok (.invokevirtual 112, 3) := by decide +kernel
theorem dX0_tellText_90 : decode cX0_tellText 90 = .ok (.ifCond .ne 11, 3) := by decide +kernel
theorem dX0_tellText_93 : decode cX0_tellText 93 = .ok (.aload_n 0, 1) := by decide +kernel
theorem dX0_tellText_94 : decode cX0_tellText 94 = .ok (.iload_n 3, 1) := by decide +kernel
theorem dX0_tellText_95 : decode cX0_tellText 95 = .ok (.invokevirtual 116, 3) := by decide +kernel
theorem dX0_tellText_98 : decode cX0_tellText 98 = .ok (.goto 57, 3) := by decide +kernel
theorem dX0_tellText_101 : decode cX0_tellText 101 = .ok (.aload_n 0, 1) := by decide +kernel
theorem dX0_tellText_102 : decode cX0_tellText 102 = .ok (.iload_n 3, 1) := by decide +kernel
theorem dX0_tellText_103 : decode cX0_tellText 103 = .ok (.invokevirtual 120, 3) := by decide +kernel
theorem dX0_tellText_106 : decode cX0_tellText 106 = .ok (.ifCond .ne 6, 3) := by decide +kernel
theorem dX0_tellText_109 : decode cX0_tellText 109 = .ok (.goto 52, 3) := by decide +kernel
theorem dX0_tellText_112 : decode cX0_tellText 112 = .ok (.iload 4, 2) := by decide +kernel
theorem dX0_tellText_114 : decode cX0_tellText 114 = .ok (.invokestatic 123, 3) := by decide +kernel
theorem dX0_tellText_117 : decode cX0_tellText 117 = .ok (.ifCond .eq 13, 3) := by decide +kernel
theorem dX0_tellText_120 : decode cX0_tellText 120 = .ok (.aload_n 0, 1) := by decide +kernel
theorem dX0_tellText_121 : decode cX0_tellText 121 = .ok (.iload_n 3, 1) := by decide +kernel
theorem dX0_tellText_122 : decode cX0_tellText 122 = .ok (.iload 4, 2) := by decide +kernel
theorem dX0_tellText_124 : decode cX0_tellText 124 = .ok (.invokevirtual 126, 3) := by decide +kernel
theorem dX0_tellText_127 : decode cX0_tellText 127 = .ok (.goto 28, 3) := by decide +kernel
theorem dX0_tellText_130 : decode cX0_tellText 130 = .ok (.iload 4, 2) := by decide +kernel
theorem dX0_tellText_132 : decode cX0_tellText 132 = .ok (.invokestatic 130, 3) := by decide +kernel
theorem dX0_tellText_135 : decode cX0_tellText 135 = .ok (.ifCond .eq 15, 3) := by decide +kernel
theorem dX0_tellText_138 : decode cX0_tellText 138 = .ok (.aload_n 0, 1) := by decide +kernel
theorem dX0_tellText_139 : decode cX0_tellText 139 = .ok (.iload_n 3, 1) := by decide +kernel
theorem dX0_tellText_140 : decode cX0_tellText 140 = .ok (.iload 4, 2) := by decide +kernel
theorem dX0_tellText_142 : decode cX0_tellText 142 = .ok (.iconst 2, 1) := by decide +kernel
theorem dX0_tellText_143 : decode cX0_tellText 143 = .ok (.ishr, 1) := by decide +kernel
theorem dX0_tellText_144 : decode cX0_tellText 144 = .ok (.invokevirtual 133, 3) := by decide +kernel
theorem dX0_tellText_147 : decode cX0_tellText 147 = .ok (.goto 8, 3) := by decide +kernel
theorem dX0_tellText_150 : decode cX0_tellText 150 = .ok (.aload_n 0, 1) := by decide +kernel
theorem dX0_tellText_151 : decode cX0_tellText 151 = .ok (.iload_n 3, 1) := by decide +kernel
theorem dX0_tellText_152 : decode cX0_tellText 152 = .ok (.invokevirtual 136, 3) := by decide +kernel
theorem dX0_tellText_155 : decode cX0_tellText 155 = .ok (.iinc 2 1, 3) := by decide +kernel
theorem dX0_tellText_158 : decode cX0_tellText 158 = .ok (.goto (-144), 3) := by decide +kernel
theorem dX0_tellText_161 : decode cX0_tellText 161 = .ok (.aload_n 0, 1) := by decide +kernel
theorem dX0_tellText_162 : decode cX0_tellText 162 = .ok (.getfield 60, 3) := by decide +kernel
theorem dX0_tellText_165 : decode cX0_tellText 165 = .ok (.iconst 0, 1) := by decide +kernel
theorem dX0_tellText_166 : decode cX0_tellText 166 = .ok (.invokevirtual 139, 3) := by decide +kernel
theorem dX0_tellText_169 : decode cX0_tellText 169 = .ok (.aload_n 0, 1) := by decide +kernel
theorem dX0_tellText_170 : decode cX0_tellText 170 = .ok (.getfield 25, 3) := by decide +kernel
theorem dX0_tellText_173 : decode cX0_tellText 173 = .ok (.ifCond .ne 20, 3) := by decide +kernel
theorem dX0_tellText_176 : decode cX0_tellText 176 = .ok (.aload_n 0, 1) := by decide +kernel
theorem dX0_tellText_177 : decode cX0_tellText 177 = .ok (.getfield 51, 3) := by decide +kernel
theorem dX0_tellText_180 : decode cX0_tellText 180 = .ok (.getfield 142, 3) := by decide +kernel
theorem dX0_tellText_183 : decode cX0_tellText 183 = .ok (.sipush 4000, 3) := by decide +kernel
theorem dX0_tellText_186 : decode cX0_tellText 186 = .ok (.if_icmp .le 7, 3) := by decide +kernel
theorem dX0_tellText_189 : decode cX0_tellText 189 = .ok (.iconst 2, 1) := by decide +kernel
theorem dX0_tellText_190 : decode cX0_tellText 190 = .ok (.goto 7, 3) := by decide +kernel
theorem dX0_tellText_193 : decode cX0_tellText 193 = .ok (.aload_n 0, 1) := by decide +kernel
theorem dX0_tellText_194 : decode cX0_tellText 194 = .ok (.getfield 25, 3) := by decide +kernel
theorem dX0_tellText_197 : decode cX0_tellText 197 = .ok (.ireturn, 1) := by decide +kernel
theorem dX0_startText_0 : decode cX0_startText 0 = .ok (.aload_n 0, 1) := by decide +kernel
theorem dX0_startText_1 : decode cX0_startText 1 = .ok (.sipush 4000, 3) := by decide +kernel
theorem dX0_startText_4 : decode cX0_startText 4 = .ok (.putfield 18, 3) := by decide +kernel
theorem dX0_startText_7 : decode cX0_startText 7 = .ok (.aload_n 0, 1) := by decide +kernel
theorem dX0_startText_8 : decode cX0_startText 8 = .ok (.getfield 12, 3) := by decide +kernel
theorem dX0_startText_11 : decode cX0_startText 11 = .ok (.iconst 0, 1) := by decide +kernel
theorem dX0_startText_12 : decode cX0_startText 12 = .ok (.putfield 100, 3) := by decide +kernel
theorem dX0_startText_15 : decode cX0_startText 15 = .ok (.aload_n 0, 1) := by decide +kernel
theorem dX0_startText_16 : decode cX0_startText 16 = .ok (.iconst (-1), 1) := by decide +kernel
theorem dX0_startText_17 : decode cX0_startText 17 = .ok (.putfield 22, 3) := by decide +kernel
theorem dX0_startText_20 : decode cX0_startText 20 = .ok (.aload_n 0, 1) := by decide +kernel
theorem dX0_startText_21 : decode cX0_startText 21 = .ok (.iconst 0, 1) := by decide +kernel
theorem dX0_startText_22 : decode cX0_startText 22 = .ok (.putfield 25, 3) := by decide +kernel
theorem dX0_startText_25 : decode cX0_startText 25 = .ok (.aload_n 0, 1) := by decide +kernel
theorem dX0_startText_26 : decode cX0_startText 26 = .ok (.iconst (-1), 1) := by decide +kernel
theorem dX0_startText_27 : decode cX0_startText 27 = .ok (.putfield 28, 3) := by decide +kernel
theorem dX0_startText_30 : decode cX0_startText 30 = .ok (.aload_n 0, 1) := by decide +kernel
theorem dX0_startText_31 : decode cX0_startText 31 = .ok (.iconst 0, 1) := by decide +kernel
theorem dX0_startText_32 : decode cX0_startText 32 = .ok (.putfield 31, 3) := by decide +kernel
theorem dX0_startText_35 : decode cX0_startText 35 = .ok (.aload_n 0, 1) := by decide +kernel
theorem dX0_startText_36 : decode cX0_startText 36 = .ok (.iconst 0, 1) := by decide +kernel
theorem dX0_startText_37 : decode cX0_startText 37 = .ok (.putfield 34, 3) := by decide +kernel
theorem dX0_startText_40 : decode cX0_startText 40 = .ok (.aload_n 0, 1) := by decide +kernel
theorem dX0_startText_41 : decode cX0_startText 41 = .ok (.iconst 0, 1) := by decide +kernel
theorem dX0_startText_42 : decode cX0_startText 42 = .ok (.putfield 37, 3) := by decide +kernel
theorem dX0_startText_45 : decode cX0_startText 45 = .ok (.return_, 1) := by decide +kernel
theorem dX1_init_0 : decode cX1_init 0 = .ok (.aload_n 0, 1) := by decide +kernel
theorem dX1_init_1 : decode cX1_init 1 = .ok (.invokespecial 3, 3) := by decide +kernel
theorem dX1_init_4 : decode cX1_init 4 = .ok (.aload_n 0, 1) := by decide +kernel
theorem dX1_init_5 : decode cX1_init 5 = .ok (.sipush 10000, 3) := by decide +kernel
theorem dX1_init_8 : decode cX1_init 8 = .ok (.newarray .int, 2) := by decide +kernel
theorem dX1_init_10 : decode cX1_init 10 = .ok (.putfield 11, 3) := by decide +kernel
theorem dX1_init_13 : decode cX1_init 13 = .ok (.aload_n 0, 1) := by decide +kernel
theorem dX1_init_14 : decode cX1_init 14 = .ok (.sipush 10000, 3) := by decide +kernel
theorem dX1_init_17 : decode cX1_init 17 = .ok (.newarray .int, 2) := by decide +kernel
theorem dX1_init_19 : decode cX1_init 19 = .ok (.putfield 15, 3) := by decide +kernel
theorem dX1_init_22 : decode cX1_init 22 = .ok (.aload_n 0, 1) := by decide +kernel
theorem dX1_init_23 : decode cX1_init 23 = .ok (.sipush 4000, 3) := by decide +kernel
theorem dX1_init_26 : decode cX1_init 26 = .ok (.putfield 18, 3) := by decide +kernel
theorem dX1_init_29 : decode cX1_init 29 = .ok (.aload_n 0, 1) := by decide +kernel
theorem dX1_init_30 : decode cX1_init 30 = .ok (.iconst 0, 1) := by decide +kernel
theorem dX1_init_31 : decode cX1_init 31 = .ok (.putfield 22, 3) := by decide +kernel
theorem dX1_init_34 : decode cX1_init 34 = .ok (.return_, 1) := by decide +kernel
theorem dX1_startText_0 : decode cX1_startText 0 = .ok (.aload_n 0, 1) := by decide +kernel
theorem dX1_startText_1 : decode cX1_startText 1 = .ok (.sipush 4000, 3) := by decide +kernel
theorem dX1_startText_4 : decode cX1_startText 4 = .ok (.putfield 18, 3) := by decide +kernel
theorem dX1_startText_7 : decode cX1_startText 7 = .ok (.return_, 1) := by decide +kernel
theorem dX2_init_0 : decode cX2_init 0 = .ok (.aload_n 0, 1) := by decide +kernel
theorem dX2_init_1 : decode cX2_init 1 = .ok (.invokespecial 3, 3) := by decide +kernel
theorem dX2_init_4 : decode cX2_init 4 = .ok (.aload_n 0, 1) := by decide +kernel
theorem dX2_init_5 : decode cX2_init 5 = .ok (.bipush 101, 2) := by decide +kernel
theorem dX2_init_7 : decode cX2_init 7 = .ok (.newarray .int, 2) := by decide +kernel
theorem dX2_init_9 : decode cX2_init 9 = .ok (.putfield 11, 3) := by decide +kernel
theorem dX2_init_12 : decode cX2_init 12 = .ok (.aload_n 0, 1) := by decide +kernel
theorem dX2_init_13 : decode cX2_init 13 = .ok (.bipush 101, 2) := by decide +kernel
theorem dX2_init_15 : decode cX2_init 15 = .ok (.newarray .int, 2) := by decide +kernel
theorem dX2_init_17 : decode cX2_init 17 = .ok (.putfield 15, 3) := by decide +kernel
theorem dX2_init_20 : decode cX2_init 20 = .ok (.aload_n 0, 1) := by decide +kernel
theorem dX2_init_21 : decode cX2_init 21 = .ok (.bipush 101, 2) := by decide +kernel
theorem dX2_init_23 : decode cX2_init 23 = .ok (.newarray .boolean, 2) := by decide +kernel
theorem dX2_init_25 : decode cX2_init 25 = .ok (.putfield 18, 3) := by decide +kernel
theorem dX2_init_28 : decode cX2_init 28 = .ok (.aload_n 0, 1) := by decide +kernel
theorem dX2_init_29 : decode cX2_init 29 = .ok (.bipush 101, 2) := by decide +kernel
theorem dX2_init_31 : decode cX2_init 31 = .ok (.newarray .int, 2) := by decide +kernel
theorem dX2_init_33 : decode cX2_init 33 = .ok (.putfield 22, 3) := by decide +kernel
theorem dX2_init_36 : decode cX2_init 36 = .ok (.aload_n 0, 1) := by decide +kernel
theorem dX2_init_37 : decode cX2_init 37 = .ok (.bipush 101, 2) := by decide +kernel
theorem dX2_init_39 : decode cX2_init 39 = .ok (.newarray .int, 2) := by decide +kernel
theorem dX2_init_41 : decode cX2_init 41 = .ok (.putfield 25, 3) := by decide +kernel
theorem dX2_init_44 : decode cX2_init 44 = .ok (.aload_n 0, 1) := by decide +kernel
theorem dX2_init_45 : decode cX2_init 45 = .ok (.bipush 101, 2) := by decide +kernel
theorem dX2_init_47 : decode cX2_init 47 = .ok (.newarray .int, 2) := by decide +kernel
theorem dX2_init_49 : decode cX2_init 49 = .ok (.putfield 28, 3) := by decide +kernel
theorem dX2_init_52 : decode cX2_init 52 = .ok (.aload_n 0, 1) := by decide +kernel
theorem dX2_init_53 : decode cX2_init 53 = .ok (.iconst 0, 1) := by decide +kernel
theorem dX2_init_54 : decode cX2_init 54 = .ok (.putfield 31, 3) := by decide +kernel
theorem dX2_init_57 : decode cX2_init 57 = .ok (.return_, 1) := by decide +kernel
theorem dX3_init_0 : decode cX3_init 0 = .ok (.aload_n 0, 1) := by decide +kernel
theorem dX3_init_1 : decode cX3_init 1 = .ok (.invokespecial 3, 3) := by decide +kernel
theorem dX3_init_4 : decode cX3_init 4 = .ok (.aload_n 0, 1) := by decide +kernel
theorem dX3_init_5 : decode cX3_init 5 = .ok (.iconst 0, 1) := by decide +kernel
theorem dX3_init_6 : decode cX3_init 6 = .ok (.putfield 9, 3) := by decide +kernel
theorem dX3_init_9 : decode cX3_init 9 = .ok (.aload_n 0, 1) := by decide +kernel
theorem dX3_init_10 : decode cX3_init 10 = .ok (.iconst 0, 1) := by decide +kernel
theorem dX3_init_11 : decode cX3_init 11 = .ok (.putfield 15, 3) := by decide +kernel
theorem dX3_init_14 : decode cX3_init 14 = .ok (.aload_n 0, 1) := by decide +kernel
theorem dX3_init_15 : decode cX3_init 15 = .ok (.iconst 0, 1) := by decide +kernel
theorem dX3_init_16 : decode cX3_init 16 = .ok (.putfield 18, 3) := by decide +kernel
theorem dX3_init_19 : decode cX3_init 19 = .ok (.aload_n 0, 1) := by decide +kernel
theorem dX3_init_20 : decode cX3_init 20 = .ok (.aload_n 1, 1) := by decide +kernel
theorem dX3_init_21 : decode cX3_init 21 = .ok (.putfield 22, 3) := by decide +kernel
theorem dX3_init_24 : decode cX3_init 24 = .ok (.aload_n 0, 1) := by decide +kernel
theorem dX3_init_25 : decode cX3_init 25 = .ok (.aload_n 2, 1) := by decide +kernel
theorem dX3_init_26 : decode cX3_init 26 = .ok (.putfield 26, 3) := by decide +kernel
theorem dX3_init_29 : decode cX3_init 29 = .ok (.aload_n 0, 1) := by decide +kernel
theorem dX3_init_30 : decode cX3_init 30 = .ok (.aload_n 3, 1) := by decide +kernel
theorem dX3_init_31 : decode cX3_init 31 = .ok (.putfield 30, 3) := by decide +kernel
theorem dX3_init_34 : decode cX3_init 34 = .ok (.return_, 1) := by decide +kernel
theorem dX4_init_0 : decode cX4_init 0 = .ok (.aload_n 0, 1) := by decide +kernel
theorem dX4_init_1 : decode cX4_init 1 = .ok (.invokespecial 3, 3) := by decide +kernel
theorem dX4_init_4 : decode cX4_init 4 = .ok (.aload_n 0, 1) := by decide +kernel
theorem dX4_init_5 : decode cX4_init 5 = .ok (.iconst (-1), 1) := by decide +kernel
theorem dX4_init_6 : decode cX4_init 6 = .ok (.putfield 9, 3) := by decide +kernel
theorem dX4_init_9 : decode cX4_init 9 = .ok (.aload_n 0, 1) := by decide +kernel
theorem dX4_init_10 : decode cX4_init 10 = .ok (.iconst 0, 1) := by decide +kernel
theorem dX4_init_11 : decode cX4_init 11 = .ok (.putfield 15, 3) := by decide +kernel
theorem dX4_init_14 : decode cX4_init 14 = .ok (.aload_n 0, 1) := by decide +kernel
theorem dX4_init_15 : decode cX4_init 15 = .ok (.aload_n 1, 1) := by decide +kernel
theorem dX4_init_16 : decode cX4_init 16 = .ok (.putfield 18, 3) := by decide +kernel
theorem dX4_init_19 : decode cX4_init 19 = .ok (.aload_n 0, 1) := by decide +kernel
theorem dX4_init_20 : decode cX4_init 20 = .ok (.aload_n 2, 1) := by decide +kernel
theorem dX4_init_21 : decode cX4_init 21 = .ok (.putfield 22, 3) := by decide +kernel
theorem dX4_init_24 : decode cX4_init 24 = .ok (.aload_n 0, 1) := by decide +kernel
theorem dX4_init_25 : decode cX4_init 25 = .ok (.aload_n 3, 1) := by decide +kernel
theorem dX4_init_26 : decode cX4_init 26 = .ok (.putfield 26, 3) := by decide +kernel
theorem dX4_init_29 : decode cX4_init 29 = .ok (.aload_n 0, 1) := by decide +kernel
theorem dX4_init_30 : decode cX4_init 30 = .ok (.aload 4, 2) := by decide +kernel
theorem dX4_init_32 : decode cX4_init 32 = .ok (.putfield 30, 3) := by decide +kernel
theorem dX4_init_35 : decode cX4_init 35 = .ok (.return_, 1) := by decide +kernel
theorem dX5_init_0 : decode cX5_init 0 = .ok (.aload_n 0, 1) := by decide +kernel
theorem dX5_init_1 : decode cX5_init 1 = .ok (.invokespecial 3, 3) := by decide +kernel
theorem dX5_init_4 : decode cX5_init 4 = .ok (.aload_n 0, 1) := by decide +kernel
theorem dX5_init_5 : decode cX5_init 5 = .ok (.sipush 3000, 3) := by decide +kernel
theorem dX5_init_8 : decode cX5_init 8 = .ok (.newarray .int, 2) := by decide +kernel
theorem dX5_init_10 : decode cX5_init 10 = .ok (.putfield 9, 3) := by decide +kernel
theorem dX5_init_13 : decode cX5_init 13 = .ok (.aload_n 0, 1) := by decide +kernel
theorem dX5_init_14 : decode cX5_init 14 = .ok (.sipush 3000, 3) := by decide +kernel
theorem dX5_init_17 : decode cX5_init 17 = .ok (.newarray .int, 2) := by decide +kernel
theorem dX5_init_19 : decode cX5_init 19 = .ok (.putfield 15, 3) := by decide +kernel
theorem dX5_init_22 : decode cX5_init 22 = .ok (.aload_n 0, 1) := by decide +kernel
theorem dX5_init_23 : decode cX5_init 23 = .ok (.sipush 3000, 3) := by decide +kernel
theorem dX5_init_26 : decode cX5_init 26 = .ok (.newarray .int, 2) := by decide +kernel
theorem dX5_init_28 : decode cX5_init 28 = .ok (.putfield 18, 3) := by decide +kernel
theorem dX5_init_31 : decode cX5_init 31 = .ok (.aload_n 0, 1) := by decide +kernel
theorem dX5_init_32 : decode cX5_init 32 = .ok (.sipush 3000, 3) := by decide +kernel
theorem dX5_init_35 : decode cX5_init 35 = .ok (.newarray .int, 2) := by decide +kernel
theorem dX5_init_37 : decode cX5_init 37 = .ok (.putfield 21, 3) := by decide +kernel
theorem dX5_init_40 : decode cX5_init 40 = .ok (.aload_n 0, 1) := by decide +kernel
theorem dX5_init_41 : decode cX5_init 41 = .ok (.iconst 0, 1) := by decide +kernel
theorem dX5_init_42 : decode cX5_init 42 = .ok (.putfield 24, 3) := by decide +kernel
theorem dX5_init_45 : decode cX5_init 45 = .ok (.aload_n 0, 1) := by decide +kernel
theorem dX5_init_46 : decode cX5_init 46 = .ok (.iconst 0, 1) := by decide +kernel
theorem dX5_init_47 : decode cX5_init 47 = .ok (.putfield 28, 3) := by decide +kernel
theorem dX5_init_50 : decode cX5_init 50 = .ok (.return_, 1) := by decide +kernel
theorem dX6_init_0 : decode cX6_init 0 = .ok (.aload_n 0, 1) := by decide +kernel
theorem dX6_init_1 : decode cX6_init 1 = .ok (.invokespecial 3, 3) := by decide +kernel
theorem dX6_init_4 : decode cX6_init 4 = .ok (.aload_n 0, 1) := by decide +kernel
theorem dX6_init_5 : decode cX6_init 5 = .ok (.sipush 2560, 3) := by decide +kernel
theorem dX6_init_8 : decode cX6_init 8 = .ok (.newarray .long, 2) := by decide +kernel
theorem dX6_init_10 : decode cX6_init 10 = .ok (.putfield 9, 3) := by decide +kernel
theorem dX6_init_13 : decode cX6_init 13 = .ok (.aload_n 0, 1) := by decide +kernel
theorem dX6_init_14 : decode cX6_init 14 = .ok (.sipush 2560, 3) := by decide +kernel
theorem dX6_init_17 : decode cX6_init 17 = .ok (.newarray .long, 2) := by decide +kernel
theorem dX6_init_19 : decode cX6_init 19 = .ok (.putfield 15, 3) := by decide +kernel
theorem dX6_init_22 : decode cX6_init 22 = .ok (.aload_n 0, 1) := by decide +kernel
theorem dX6_init_23 : decode cX6_init 23 = .ok (.sipush 2560, 3) := by decide +kernel
theorem dX6_init_26 : decode cX6_init 26 = .ok (.newarray .int, 2) := by decide +kernel
theorem dX6_init_28 : decode cX6_init 28 = .ok (.putfield 18, 3) := by decide +kernel
theorem dX6_init_31 : decode cX6_init 31 = .ok (.aload_n 0, 1) := by decide +kernel
theorem dX6_init_32 : decode cX6_init 32 = .ok (.sipush 2560, 3) := by decide +kernel
theorem dX6_init_35 : decode cX6_init 35 = .ok (.newarray .int, 2) := by decide +kernel
theorem dX6_init_37 : decode cX6_init 37 = .ok (.putfield 22, 3) := by decide +kernel
theorem dX6_init_40 : decode cX6_init 40 = .ok (.aload_n 0, 1) := by decide +kernel
theorem dX6_init_41 : decode cX6_init 41 = .ok (.iconst 0, 1) := by decide +kernel
theorem dX6_init_42 : decode cX6_init 42 = .ok (.putfield 25, 3) := by decide +kernel
theorem dX6_init_45 : decode cX6_init 45 = .ok (.aload_n 0, 1) := by decide +kernel
theorem dX6_init_46 : decode cX6_init 46 = .ok (.iconst 0, 1) := by decide +kernel
theorem dX6_init_47 : decode cX6_init 47 = .ok (.putfield 29, 3) := by decide +kernel
theorem dX6_init_50 : decode cX6_init 50 = .ok (.aload_n 0, 1) := by decide +kernel
theorem dX6_init_51 : decode cX6_init 51 = .ok (.sipush 3760, 3) := by decide +kernel
theorem dX6_init_54 : decode cX6_init 54 = .ok (.newarray .int, 2) := by decide +kernel
theorem dX6_init_56 : decode cX6_init 56 = .ok (.putfield 32, 3) := by decide +kernel
theorem dX6_init_59 : decode cX6_init 59 = .ok (.aload_n 0, 1) := by decide +kernel
theorem dX6_init_60 : decode cX6_init 60 = .ok (.sipush 3760, 3) := by decide +kernel
theorem dX6_init_63 : decode cX6_init 63 = .ok (.newarray .int, 2) := by decide +kernel
theorem dX6_init_65 : decode cX6_init 65 = .ok (.putfield 35, 3) := by decide +kernel
theorem dX6_init_68 : decode cX6_init 68 = .ok (.aload_n 0, 1) := by decide +kernel
theorem dX6_init_69 : decode cX6_init 69 = .ok (.sipush 3760, 3) := by decide +kernel
theorem dX6_init_72 : decode cX6_init 72 = .ok (.newarray .int, 2) := by decide +kernel
theorem dX6_init_74 : decode cX6_init 74 = .ok (.putfield 38, 3) := by decide +kernel
theorem dX6_init_77 : decode cX6_init 77 = .ok (.aload_n 0, 1) := by decide +kernel
theorem dX6_init_78 : decode cX6_init 78 = .ok (.sipush 3760, 3) := by decide +kernel
theorem dX6_init_81 : decode cX6_init 81 = .ok (.newarray .int, 2) := by decide +kernel
theorem dX6_init_83 : decode cX6_init 83 = .ok (.putfield 41, 3) := by decide +kernel
theorem dX6_init_86 : decode cX6_init 86 = .ok (.aload_n 0, 1) := by decide +kernel
theorem dX6_init_87 : decode cX6_init 87 = .ok (.sipush 3760, 3) := by decide +kernel
theorem dX6_init_90 : decode cX6_init 90 = .ok (.newarray .int, 2) := by decide +kernel
theorem dX6_init_92 : decode cX6_init 92 = .ok (.putfield 44, 3) := by decide +kernel
theorem dX6_init_95 : decode cX6_init 95 = .ok (.aload_n 0, 1) := by decide +kernel
theorem dX6_init_96 : decode cX6_init 96 = .ok (.iconst 0, 1) := by decide +kernel
theorem dX6_init_97 : decode cX6_init 97 = .ok (.putfield 47, 3) := by decide +kernel
theorem dX6_init_100 : decode cX6_init 100 = .ok (.aload_n 0, 1) := by decide +kernel
theorem dX6_init_101 : decode cX6_init 101 = .ok (.iconst 0, 1) := by decide +kernel
theorem dX6_init_102 : decode cX6_init 102 = .ok (.putfield 50, 3) := by decide +kernel
theorem dX6_init_105 : decode cX6_init 105 = .ok (.aload_n 0, 1) := by decide +kernel
theorem dX6_init_106 : decode cX6_init 106 = .ok (.ldc 53, 2) := by decide +kernel
theorem dX6_init_108 : decode cX6_init 108 = .ok (.invokevirtual 55, 3) := by decide +kernel
theorem dX6_init_111 : decode cX6_init 111 = .ok (.aload_n 0, 1) := by decide +kernel
theorem dX6_init_112 : decode cX6_init 112 = .ok (.ldc 59, 2) := by decide +kernel
theorem dX6_init_114 : decode cX6_init 114 = .ok (.invokevirtual 55, 3) := by decide +kernel
theorem dX6_init_117 : decode cX6_init 117 = .ok (.aload_n 0, 1) := by decide +kernel
theorem dX6_init_118 : decode cX6_init 118 = .ok (.ldc 61, 2) := by decide +kernel
theorem dX6_init_120 : decode cX6_init 120 = .ok (.invokevirtual 55, 3) := by decide +kernel
theorem dX6_init_123 : decode cX6_init 123 = .ok (.aload_n 0, 1) := by decide +kernel
theorem dX6_init_124 : decode cX6_init 124 = .ok (.ldc 63, 2) := by decide +kernel
theorem dX6_init_126 : decode cX6_init 126 = .ok (.invokevirtual 55, 3) := by decide +kernel
theorem dX6_init_129 : decode cX6_init 129 = .ok (.aload_n 0, 1) := by decide +kernel
theorem dX6_init_130 : decode cX6_init 130 = .ok (.ldc 65, 2) := by decide +kernel
theorem dX6_init_132 : decode cX6_init 132 = .ok (.invokevirtual 55, 3) := by decide +kernel
theorem dX6_init_135 : decode cX6_init 135 = .ok (.aload_n 0, 1) := by decide +kernel
theorem dX6_init_136 : decode cX6_init 136 = .ok (.ldc 67, 2) := by decide +kernel
theorem dX6_init_138 : decode cX6_init 138 = .ok (.invokevirtual 55, 3) := by decide +kernel
theorem dX6_init_141 : decode cX6_init 141 = .ok (.aload_n 0, 1) := by decide +kernel
theorem dX6_init_142 : decode cX6_init 142 = .ok (.ldc 69, 2) := by decide +kernel
theorem dX6_init_144 : decode cX6_init 144 = .ok (.invokevirtual 55, 3) := by decide +kernel
theorem dX6_init_147 : decode cX6_init 147 = .ok (.aload_n 0, 1) := by decide +kernel
theorem dX6_init_148 : decode cX6_init 148 = .ok (.ldc 71, 2) := by decide +kernel
theorem dX6_init_150 : decode cX6_init 150 = .ok (.invokevirtual 55, 3) := by decide +kernel
theorem dX6_init_153 : decode cX6_init 153 = .ok (.aload_n 0, 1) := by decide +kernel
theorem dX6_init_154 : decode cX6_init 154 = .ok (.ldc 73, 2) := by decide +kernel
theorem dX6_init_156 : decode cX6_init 156 = .ok (.invokevirtual 55, 3) := by decide +kernel
theorem dX6_init_159 : decode cX6_init 159 = .ok (.return_, 1) := by decide +kernel
theorem dX6_addGiven_0 : decode cX6_addGiven 0 = .ok (.aload_n 1, 1) := by decide +kernel
theorem dX6_addGiven_1 : decode cX6_addGiven 1 = .ok (.invokevirtual 75, 3) := by decide +kernel
theorem dX6_addGiven_4 : decode cX6_addGiven 4 = .ok (.astore_n 2, 1) := by decide +kernel
theorem dX6_addGiven_5 : decode cX6_addGiven 5 = .ok (.aload_n 0, 1) := by decide +kernel
theorem dX6_addGiven_6 : decode cX6_addGiven 6 = .ok (.aload_n 2, 1) := by decide +kernel
theorem dX6_addGiven_7 : decode cX6_addGiven 7 = .ok (.iconst 0, 1) := by decide +kernel
theorem dX6_addGiven_8 : decode cX6_addGiven 8 = .ok (.aload_n 2, 1) := by decide +kernel
theorem dX6_addGiven_9 : decode cX6_addGiven 9 = .ok (.arraylength, 1) := by decide +kernel
theorem dX6_addGiven_10 : decode cX6_addGiven 10 = .ok (.invokestatic 81, 3) := by decide +kernel
theorem dX6_addGiven_13 : decode cX6_addGiven 13 = .ok (.aload_n 2, 1) := by decide +kernel
theorem dX6_addGiven_14 : decode cX6_addGiven 14 = .ok (.bipush 8, 2) := by decide +kernel
theorem dX6_addGiven_16 : decode cX6_addGiven 16 = .ok (.aload_n 2, 1) := by decide +kernel
theorem dX6_addGiven_17 : decode cX6_addGiven 17 = .ok (.arraylength, 1) := by decide +kernel
theorem dX6_addGiven_18 : decode cX6_addGiven 18 = .ok (.invokestatic 81, 3) := by decide +kernel
theorem dX6_addGiven_21 : decode cX6_addGiven 21 = .ok (.invokevirtual 85, 3) := by decide +kernel
theorem dX6_addGiven_24 : decode cX6_addGiven 24 = .ok (.pop, 1) := by decide +kernel
theorem dX6_addGiven_25 : decode cX6_addGiven 25 = .ok (.return_, 1) := by decide +kernel
theorem dX6_half_0 : decode cX6_half 0 = .ok (.lconst 0, 1) := by decide +kernel
theorem dX6_half_1 : decode cX6_half 1 = .ok (.lstore_n 3, 1) := by decide +kernel
theorem dX6_half_2 : decode cX6_half 2 = .ok (.iload_n 1, 1) := by decide +kernel
theorem dX6_half_3 : decode cX6_half 3 = .ok (.istore 5, 2) := by decide +kernel
theorem dX6_half_5 : decode cX6_half 5 = .ok (.iload 5, 2) := by decide +kernel
theorem dX6_half_7 : decode cX6_half 7 = .ok (.iload_n 2, 1) := by decide +kernel
theorem dX6_half_8 : decode cX6_half 8 = .ok (.if_icmp .ge 41, 3) := by decide +kernel
theorem dX6_half_11 : decode cX6_half 11 = .ok (.iload 5, 2) := by decide +kernel
theorem dX6_half_13 : decode cX6_half 13 = .ok (.iload_n 1, 1) := by decide +kernel
theorem dX6_half_14 : decode cX6_half 14 = .ok (.bipush 8, 2) := by decide +kernel
theorem dX6_half_16 : decode cX6_half 16 = .ok (.iadd, 1) := by decide +kernel
theorem dX6_half_17 : decode cX6_half 17 = .ok (.if_icmp .ge 32, 3) := by decide +kernel
theorem dX6_half_20 : decode cX6_half 20 = .ok (.iload 5, 2) := by decide +kernel
theorem dX6_half_22 : decode cX6_half 22 = .ok (.ifCond .lt 27, 3) := by decide +kernel
theorem dX6_half_25 : decode cX6_half 25 = .ok (.iload 5, 2) := by decide +kernel
theorem dX6_half_27 : decode cX6_half 27 = .ok (.aload_n 0, 1) := by decide +kernel
theorem dX6_half_28 : decode cX6_half 28 = .ok (.arraylength, 1) := by decide +kernel
theorem dX6_half_29 : decode cX6_half 29 = .ok (.if_icmp .ge 20, 3) := by decide +kernel
theorem dX6_half_32 : decode cX6_half 32 = .ok (.lload_n 3, 1) := by decide +kernel
theorem dX6_half_33 : decode cX6_half 33 = .ok (.bipush 8, 2) := by decide +kernel
theorem dX6_half_35 : decode cX6_half 35 = .ok (.lshl, 1) := by decide +kernel
theorem dX6_half_36 : decode cX6_half 36 = .ok (.aload_n 0, 1) := by decide +kernel
theorem dX6_half_37 : decode cX6_half 37 = .ok (.iload 5, 2) := by decide +kernel
theorem dX6_half_39 : decode cX6_half 39 = .ok (.caload, 1) := by decide +kernel
theorem dX6_half_40 : decode cX6_half 40 = .ok (.i2l, 1) := by decide +kernel
theorem dX6_half_41 : decode cX6_half 41 = .ok (.lor, 1) := by decide +kernel
theorem dX6_half_42 : decode cX6_half 42 = .ok (.lstore_n 3, 1) := by decide +kernel
theorem dX6_half_43 : decode cX6_half 43 = .ok (.iinc 5 1, 3) := by decide +kernel
theorem dX6_half_46 : decode cX6_half 46 = .ok (.goto (-41), 3) := by decide +kernel
theorem dX6_half_49 : decode cX6_half 49 = .ok (.lload_n 3, 1) := by decide +kernel
theorem dX6_half_50 : decode cX6_half 50 = .ok (.lreturn, 1) := by decide +kernel
theorem dX6_startText_0 : decode cX6_startText 0 = .ok (.aload_n 0, 1) := by decide +kernel
theorem dX6_startText_1 : decode cX6_startText 1 = .ok (.aload_n 0, 1) := by decide +kernel
theorem dX6_startText_2 : decode cX6_startText 2 = .ok (.getfield 25, 3) := by decide +kernel
theorem dX6_startText_5 : decode cX6_startText 5 = .ok (.putfield 47, 3) := by decide +kernel
theorem dX6_startText_8 : decode cX6_startText 8 = .ok (.aload_n 0, 1) := by decide +kernel
theorem dX6_startText_9 : decode cX6_startText 9 = .ok (.aload_n 0, 1) := by decide +kernel
theorem dX6_startText_10 : decode cX6_startText 10 = .ok (.getfield 25, 3) := by decide +kernel
theorem dX6_startText_13 : decode cX6_startText 13 = .ok (.putfield 29, 3) := by decide +kernel
theorem dX6_startText_16 : decode cX6_startText 16 = .ok (.aload_n 0, 1) := by decide +kernel
theorem dX6_startText_17 : decode cX6_startText 17 = .ok (.getfield 18, 3) := by decide +kernel
theorem dX6_startText_20 : decode cX6_startText 20 = .ok (.iconst 0, 1) := by decide +kernel
theorem dX6_startText_21 : decode cX6_startText 21 = .ok (.aload_n 0, 1) := by decide +kernel
theorem dX6_startText_22 : decode cX6_startText 22 = .ok (.getfield 22, 3) := by decide +kernel
theorem dX6_startText_25 : decode cX6_startText 25 = .ok (.iconst 0, 1) := by decide +kernel
theorem dX6_startText_26 : decode cX6_startText 26 = .ok (.aload_n 0, 1) := by decide +kernel
theorem dX6_startText_27 : decode cX6_startText 27 = .ok (.getfield 25, 3) := by decide +kernel
theorem dX6_startText_30 : decode cX6_startText 30 = .ok (.invokestatic 89, 3) := by decide +kernel
theorem dX6_startText_33 : decode cX6_startText 33 = .ok (.return_, 1) := by decide +kernel
theorem dX6_take_0 : decode cX6_take 0 = .ok (.iload_n 1, 1) := by decide +kernel
theorem dX6_take_1 : decode cX6_take 1 = .ok (.ifCond .ne 11, 3) := by decide +kernel
theorem dX6_take_4 : decode cX6_take 4 = .ok (.aload_n 0, 1) := by decide +kernel
theorem dX6_take_5 : decode cX6_take 5 = .ok (.aload_n 0, 1) := by decide +kernel
theorem dX6_take_6 : decode cX6_take 6 = .ok (.getfield 29, 3) := by decide +kernel
theorem dX6_take_9 : decode cX6_take 9 = .ok (.putfield 25, 3) := by decide +kernel
theorem dX6_take_12 : decode cX6_take 12 = .ok (.return_, 1) := by decide +kernel
theorem dX6_addSymbol_0 : decode cX6_addSymbol 0 = .ok (.aload_n 0, 1) := by decide +kernel
theorem dX6_addSymbol_1 : decode cX6_addSymbol 1 = .ok (.getfield 25, 3) := by decide +kernel
theorem dX6_addSymbol_4 : decode cX6_addSymbol 4 = .ok (.sipush 2560, 3) := by decide +kernel
theorem dX6_addSymbol_7 : decode cX6_addSymbol 7 = .ok (.if_icmp .lt 5, 3) := by decide +kernel
theorem dX6_addSymbol_10 : decode cX6_addSymbol 10 = .ok (.iconst (-1), 1) := by decide +kernel
theorem dX6_addSymbol_11 : decode cX6_addSymbol 11 = .ok (.ireturn, 1) := by decide +kernel
theorem dX6_addSymbol_12 : decode cX6_addSymbol 12 = .ok (.aload_n 0, 1) := by decide +kernel
theorem dX6_addSymbol_13 : decode cX6_addSymbol 13 = .ok (.getfield 9, 3) := by decide +kernel
theorem dX6_addSymbol_16 : decode cX6_addSymbol 16 = .ok (.aload_n 0, 1) := by decide +kernel
theorem dX6_addSymbol_17 : decode cX6_addSymbol 17 = .ok (.getfield 25, 3) := by decide +kernel
theorem dX6_addSymbol_20 : decode cX6_addSymbol 20 = .ok (.lload_n 1, 1) := by decide +kernel
theorem dX6_addSymbol_21 : decode cX6_addSymbol 21 = .ok (.lastore, 1) := by decide +kernel
theorem dX6_addSymbol_22 : decode cX6_addSymbol 22 = .ok (.aload_n 0, 1) := by decide +kernel
theorem dX6_addSymbol_23 : decode cX6_addSymbol 23 = .ok (.getfield 15, 3) := by decide +kernel
theorem dX6_addSymbol_26 : decode cX6_addSymbol 26 = .ok (.aload_n 0, 1) := by decide +kernel
theorem dX6_addSymbol_27 : decode cX6_addSymbol 27 = .ok (.getfield 25, 3) := by decide +kernel
theorem dX6_addSymbol_30 : decode cX6_addSymbol 30 = .ok (.lload_n 3, 1) := by decide +kernel
theorem dX6_addSymbol_31 : decode cX6_addSymbol 31 = .ok (.lastore, 1) := by decide +kernel
theorem dX6_addSymbol_32 : decode cX6_addSymbol 32 = .ok (.aload_n 0, 1) := by decide +kernel
theorem dX6_addSymbol_33 : decode cX6_addSymbol 33 = .ok (.getfield 18, 3) := by decide +kernel
theorem dX6_addSymbol_36 : decode cX6_addSymbol 36 = .ok (.aload_n 0, 1) := by decide +kernel
theorem dX6_addSymbol_37 : decode cX6_addSymbol 37 = .ok (.getfield 25, 3) := by decide +kernel
theorem dX6_addSymbol_40 : decode cX6_addSymbol 40 = .ok (.iconst (-1), 1) := by decide +kernel
theorem dX6_addSymbol_41 : decode cX6_addSymbol 41 = .ok (.iastore, 1) := by decide +kernel
theorem dX6_addSymbol_42 : decode cX6_addSymbol 42 = .ok (.aload_n 0, 1) := by decide +kernel
theorem dX6_addSymbol_43 : decode cX6_addSymbol 43 = .ok (.dup, 1) := by decide +kernel
theorem dX6_addSymbol_44 : decode cX6_addSymbol 44 = .ok (.getfield 25, 3) := by decide +kernel
theorem dX6_addSymbol_47 : decode cX6_addSymbol 47 = .ok (.iconst 1, 1) := by decide +kernel
theorem dX6_addSymbol_48 : decode cX6_addSymbol 48 = .ok (.iadd, 1) := by decide +kernel
theorem dX6_addSymbol_49 : decode cX6_addSymbol 49 = .ok (.putfield 25, 3) := by decide +kernel
theorem dX6_addSymbol_52 : decode cX6_addSymbol 52 = .ok (.aload_n 0, 1) := by decide +kernel
theorem dX6_addSymbol_53 : decode cX6_addSymbol 53 = .ok (.iconst (-1), 1) := by decide +kernel
theorem dX6_addSymbol_54 : decode cX6_addSymbol 54 = .ok (.iconst 0, 1) := by decide +kernel
theorem dX6_addSymbol_55 : decode cX6_addSymbol 55 = .ok (.invokevirtual 95, 3) := by decide +kernel
theorem dX6_addSymbol_58 : decode cX6_addSymbol 58 = .ok (.ireturn, 1) := by decide +kernel
theorem dX6_addName_0 : decode cX6_addName 0 = .ok (.aload_n 0, 1) := by decide +kernel
theorem dX6_addName_1 : decode cX6_addName 1 = .ok (.getfield 47, 3) := by decide +kernel
theorem dX6_addName_4 : decode cX6_addName 4 = .ok (.aload_n 0, 1) := by decide +kernel
theorem dX6_addName_5 : decode cX6_addName 5 = .ok (.getfield 32, 3) := by decide +kernel
theorem dX6_addName_8 : decode cX6_addName 8 = .ok (.arraylength, 1) := by decide +kernel
theorem dX6_addName_9 : decode cX6_addName 9 = .ok (.if_icmp .lt 5, 3) := by decide +kernel
theorem dX6_addName_12 : decode cX6_addName 12 = .ok (.iconst (-1), 1) := by decide +kernel
theorem dX6_addName_13 : decode cX6_addName 13 = .ok (.ireturn, 1) := by decide +kernel
theorem dX6_addName_14 : decode cX6_addName 14 = .ok (.aload_n 0, 1) := by decide +kernel
theorem dX6_addName_15 : decode cX6_addName 15 = .ok (.getfield 32, 3) := by decide +kernel
theorem dX6_addName_18 : decode cX6_addName 18 = .ok (.aload_n 0, 1) := by decide +kernel
theorem dX6_addName_19 : decode cX6_addName 19 = .ok (.getfield 47, 3) := by decide +kernel
theorem dX6_addName_22 : decode cX6_addName 22 = .ok (.iload_n 1, 1) := by decide +kernel
theorem dX6_addName_23 : decode cX6_addName 23 = .ok (.iastore, 1) := by decide +kernel
theorem dX6_addName_24 : decode cX6_addName 24 = .ok (.aload_n 0, 1) := by decide +kernel
theorem dX6_addName_25 : decode cX6_addName 25 = .ok (.getfield 35, 3) := by decide +kernel
theorem dX6_addName_28 : decode cX6_addName 28 = .ok (.aload_n 0, 1) := by decide +kernel
theorem dX6_addName_29 : decode cX6_addName 29 = .ok (.getfield 47, 3) := by decide +kernel
theorem dX6_addName_32 : decode cX6_addName 32 = .ok (.iload_n 2, 1) := by decide +kernel
theorem dX6_addName_33 : decode cX6_addName 33 = .ok (.iastore, 1) := by decide +kernel
theorem dX6_addName_34 : decode cX6_addName 34 = .ok (.aload_n 0, 1) := by decide +kernel
theorem dX6_addName_35 : decode cX6_addName 35 = .ok (.getfield 38, 3) := by decide +kernel
theorem dX6_addName_38 : decode cX6_addName 38 = .ok (.aload_n 0, 1) := by decide +kernel
theorem dX6_addName_39 : decode cX6_addName 39 = .ok (.getfield 47, 3) := by decide +kernel
theorem dX6_addName_42 : decode cX6_addName 42 = .ok (.iconst (-1), 1) := by decide +kernel
theorem dX6_addName_43 : decode cX6_addName 43 = .ok (.iastore, 1) := by decide +kernel
theorem dX6_addName_44 : decode cX6_addName 44 = .ok (.aload_n 0, 1) := by decide +kernel
theorem dX6_addName_45 : decode cX6_addName 45 = .ok (.getfield 41, 3) := by decide +kernel
theorem dX6_addName_48 : decode cX6_addName 48 = .ok (.aload_n 0, 1) := by decide +kernel
theorem dX6_addName_49 : decode cX6_addName 49 = .ok (.getfield 47, 3) := by decide +kernel
theorem dX6_addName_52 : decode cX6_addName 52 = .ok (.iconst 0, 1) := by decide +kernel
theorem dX6_addName_53 : decode cX6_addName 53 = .ok (.iastore, 1) := by decide +kernel
theorem dX6_addName_54 : decode cX6_addName 54 = .ok (.aload_n 0, 1) := by decide +kernel
theorem dX6_addName_55 : decode cX6_addName 55 = .ok (.dup, 1) := by decide +kernel
theorem dX6_addName_56 : decode cX6_addName 56 = .ok (.getfield 47, 3) := by decide +kernel
theorem dX6_addName_59 : decode cX6_addName 59 = .ok (.iconst 1, 1) := by decide +kernel
theorem dX6_addName_60 : decode cX6_addName 60 = .ok (.iadd, 1) := by decide +kernel
theorem dX6_addName_61 : decode cX6_addName 61 = .ok (.putfield 47, 3) := by decide +kernel
theorem dX6_addName_64 : decode cX6_addName 64 = .ok (.aload_n 0, 1) := by decide +kernel
theorem dX6_addName_65 : decode cX6_addName 65 = .ok (.getfield 47, 3) := by decide +kernel
theorem dX6_addName_68 : decode cX6_addName 68 = .ok (.iconst 1, 1) := by decide +kernel
theorem dX6_addName_69 : decode cX6_addName 69 = .ok (.isub, 1) := by decide +kernel
theorem dX6_addName_70 : decode cX6_addName 70 = .ok (.ireturn, 1) := by decide +kernel
theorem dX6_macros_0 : decode cX6_macros 0 = .ok (.iconst 0, 1) := by decide +kernel
theorem dX6_macros_1 : decode cX6_macros 1 = .ok (.istore_n 1, 1) := by decide +kernel
theorem dX6_macros_2 : decode cX6_macros 2 = .ok (.iconst 0, 1) := by decide +kernel
theorem dX6_macros_3 : decode cX6_macros 3 = .ok (.istore_n 2, 1) := by decide +kernel
theorem dX6_macros_4 : decode cX6_macros 4 = .ok (.iload_n 2, 1) := by decide +kernel
theorem dX6_macros_5 : decode cX6_macros 5 = .ok (.aload_n 0, 1) := by decide +kernel
theorem dX6_macros_6 : decode cX6_macros 6 = .ok (.getfield 25, 3) := by decide +kernel
theorem dX6_macros_9 : decode cX6_macros 9 = .ok (.if_icmp .ge 22, 3) := by decide +kernel
theorem dX6_macros_12 : decode cX6_macros 12 = .ok (.aload_n 0, 1) := by decide +kernel
theorem dX6_macros_13 : decode cX6_macros 13 = .ok (.getfield 18, 3) := by decide +kernel
theorem dX6_macros_16 : decode cX6_macros 16 = .ok (.iload_n 2, 1) := by decide +kernel
theorem dX6_macros_17 : decode cX6_macros 17 = .ok (.iaload, 1) := by decide +kernel
theorem dX6_macros_18 : decode cX6_macros 18 = .ok (.iconst (-1), 1) := by decide +kernel
theorem dX6_macros_19 : decode cX6_macros 19 = .ok (.if_icmp .eq 6, 3) := by decide +kernel
theorem dX6_macros_22 : decode cX6_macros 22 = .ok (.iinc 1 1, 3) := by decide +kernel
theorem dX6_macros_25 : decode cX6_macros 25 = .ok (.iinc 2 1, 3) := by decide +kernel
theorem dX6_macros_28 : decode cX6_macros 28 = .ok (.goto (-24), 3) := by decide +kernel
theorem dX6_macros_31 : decode cX6_macros 31 = .ok (.iload_n 1, 1) := by decide +kernel
theorem dX6_macros_32 : decode cX6_macros 32 = .ok (.ireturn, 1) := by decide +kernel
theorem dX7_init_0 : decode cX7_init 0 = .ok (.aload_n 0, 1) := by decide +kernel
theorem dX7_init_1 : decode cX7_init 1 = .ok (.invokespecial 3, 3) := by decide +kernel
theorem dX7_init_4 : decode cX7_init 4 = .ok (.aload_n 0, 1) := by decide +kernel
theorem dX7_init_5 : decode cX7_init 5 = .ok (.bipush 61, 2) := by decide +kernel
theorem dX7_init_7 : decode cX7_init 7 = .ok (.newarray .int, 2) := by decide +kernel
theorem dX7_init_9 : decode cX7_init 9 = .ok (.putfield 9, 3) := by decide +kernel
theorem dX7_init_12 : decode cX7_init 12 = .ok (.aload_n 0, 1) := by decide +kernel
theorem dX7_init_13 : decode cX7_init 13 = .ok (.iconst 0, 1) := by decide +kernel
theorem dX7_init_14 : decode cX7_init 14 = .ok (.putfield 15, 3) := by decide +kernel
theorem dX7_init_17 : decode cX7_init 17 = .ok (.aload_n 0, 1) := by decide +kernel
theorem dX7_init_18 : decode cX7_init 18 = .ok (.aload_n 1, 1) := by decide +kernel
theorem dX7_init_19 : decode cX7_init 19 = .ok (.putfield 19, 3) := by decide +kernel
theorem dX7_init_22 : decode cX7_init 22 = .ok (.aload_n 0, 1) := by decide +kernel
theorem dX7_init_23 : decode cX7_init 23 = .ok (.aload_n 2, 1) := by decide +kernel
theorem dX7_init_24 : decode cX7_init 24 = .ok (.putfield 23, 3) := by decide +kernel
theorem dX7_init_27 : decode cX7_init 27 = .ok (.return_, 1) := by decide +kernel
theorem dX7_addForms_0 : decode cX7_addForms 0 = .ok (.aload_n 0, 1) := by decide +kernel
theorem dX7_addForms_1 : decode cX7_addForms 1 = .ok (.iconst 0, 1) := by decide +kernel
theorem dX7_addForms_2 : decode cX7_addForms 2 = .ok (.putfield 15, 3) := by decide +kernel
theorem dX7_addForms_5 : decode cX7_addForms 5 = .ok (.iconst 0, 1) := by decide +kernel
theorem dX7_addForms_6 : decode cX7_addForms 6 = .ok (.istore_n 3, 1) := by decide +kernel
theorem dX7_addForms_7 : decode cX7_addForms 7 = .ok (.iconst 0, 1) := by decide +kernel
theorem dX7_addForms_8 : decode cX7_addForms 8 = .ok (.istore 4, 2) := by decide +kernel
theorem dX7_addForms_10 : decode cX7_addForms 10 = .ok (.aload_n 0, 1) := by decide +kernel
theorem dX7_addForms_11 : decode cX7_addForms 11 = .ok (.aload_n 1, 1) := by decide +kernel
theorem dX7_addForms_12 : decode cX7_addForms 12 = .ok (.iconst 0, 1) := by decide +kernel
theorem dX7_addForms_13 : decode cX7_addForms 13 = .ok (.iload_n 2, 1) := by decide +kernel
theorem dX7_addForms_14 : decode cX7_addForms 14 = .ok (.invokevirtual 27, 3) := by decide +kernel
theorem dX7_addForms_17 : decode cX7_addForms 17 = .ok (.istore 5, 2) := by decide +kernel
theorem dX7_addForms_19 : decode cX7_addForms 19 = .ok (.iload 5, 2) := by decide +kernel
theorem dX7_addForms_21 : decode cX7_addForms 21 = .ok (.iload_n 2, 1) := by decide +kernel
theorem dX7_addForms_22 : decode cX7_addForms 22 = .ok (.if_icmp .ge 51, 3) := by decide +kernel
theorem dX7_addForms_25 : decode cX7_addForms 25 = .ok (.iload_n 3, 1) := by decide +kernel
theorem dX7_addForms_26 : decode cX7_addForms 26 = .ok (.ifCond .ne 47, 3) := by decide +kernel
theorem dX7_addForms_29 : decode cX7_addForms 29 = .ok (.aload_n 0, 1) := by decide +kernel
theorem dX7_addForms_30 : decode cX7_addForms 30 = .ok (.aload_n 1, 1) := by decide +kernel
theorem dX7_addForms_31 : decode cX7_addForms 31 = .ok (.iload 5, 2) := by decide +kernel
theorem dX7_addForms_33 : decode cX7_addForms 33 = .ok (.iload_n 2, 1) := by decide +kernel
theorem dX7_addForms_34 : decode cX7_addForms 34 = .ok (.invokevirtual 31, 3) := by decide +kernel
theorem dX7_addForms_37 : decode cX7_addForms 37 = .ok (.istore 6, 2) := by decide +kernel
theorem dX7_addForms_39 : decode cX7_addForms 39 = .ok (.aload_n 0, 1) := by decide +kernel
theorem dX7_addForms_40 : decode cX7_addForms 40 = .ok (.aload_n 1, 1) := by decide +kernel
theorem dX7_addForms_41 : decode cX7_addForms 41 = .ok (.iload 5, 2) := by decide +kernel
theorem dX7_addForms_43 : decode cX7_addForms 43 = .ok (.iload 6, 2) := by decide +kernel
theorem dX7_addForms_45 : decode cX7_addForms 45 = .ok (.invokevirtual 34, 3) := by decide +kernel
theorem dX7_addForms_48 : decode cX7_addForms 48 = .ok (.istore_n 3, 1) := by decide +kernel
theorem dX7_addForms_49 : decode cX7_addForms 49 = .ok (.aload_n 0, 1) := by decide +kernel
theorem dX7_addForms_50 : decode cX7_addForms 50 = .ok (.aload_n 1, 1) := by decide +kernel
theorem dX7_addForms_51 : decode cX7_addForms 51 = .ok (.iload 6, 2) := by decide +kernel
theorem dX7_addForms_53 : decode cX7_addForms 53 = .ok (.iload_n 2, 1) := by decide +kernel
theorem dX7_addForms_54 : decode cX7_addForms 54 = .ok (.invokevirtual 27, 3) := by decide +kernel
theorem dX7_addForms_57 : decode cX7_addForms 57 = .ok (.istore 4, 2) := by decide +kernel
theorem dX7_addForms_59 : decode cX7_addForms 59 = .ok (.iload 5, 2) := by decide +kernel
theorem dX7_addForms_61 : decode cX7_addForms 61 = .ok (.iconst 1, 1) := by decide +kernel
theorem dX7_addForms_62 : decode cX7_addForms 62 = .ok (.iadd, 1) := by decide +kernel
theorem dX7_addForms_63 : decode cX7_addForms 63 = .ok (.iload 4, 2) := by decide +kernel
theorem dX7_addForms_65 : decode cX7_addForms 65 = .ok (.invokestatic 37, 3) := by decide +kernel
theorem dX7_addForms_68 : decode cX7_addForms 68 = .ok (.istore 5, 2) := by decide +kernel
theorem dX7_addForms_70 : decode cX7_addForms 70 = .ok (.goto (-51), 3) := by decide +kernel
theorem dX7_addForms_73 : decode cX7_addForms 73 = .ok (.iload_n 3, 1) := by decide +kernel
theorem dX7_addForms_74 : decode cX7_addForms 74 = .ok (.ifCond .ne 14, 3) := by decide +kernel
theorem dX7_addForms_77 : decode cX7_addForms 77 = .ok (.aload_n 0, 1) := by decide +kernel
theorem dX7_addForms_78 : decode cX7_addForms 78 = .ok (.getfield 15, 3) := by decide +kernel
theorem dX7_addForms_81 : decode cX7_addForms 81 = .ok (.ifCond .le 7, 3) := by decide +kernel
theorem dX7_addForms_84 : decode cX7_addForms 84 = .ok (.iconst 1, 1) := by decide +kernel
theorem dX7_addForms_85 : decode cX7_addForms 85 = .ok (.goto 4, 3) := by decide +kernel
theorem dX7_addForms_88 : decode cX7_addForms 88 = .ok (.iload_n 3, 1) := by decide +kernel
theorem dX7_addForms_89 : decode cX7_addForms 89 = .ok (.ireturn, 1) := by decide +kernel
theorem dX7_tokenFrom_0 : decode cX7_tokenFrom 0 = .ok (.iload_n 2, 1) := by decide +kernel
theorem dX7_tokenFrom_1 : decode cX7_tokenFrom 1 = .ok (.istore 4, 2) := by decide +kernel
theorem dX7_tokenFrom_3 : decode cX7_tokenFrom 3 = .ok (.iload 4, 2) := by decide +kernel
theorem dX7_tokenFrom_5 : decode cX7_tokenFrom 5 = .ok (.ifCond .lt 31, 3) := by decide +kernel
theorem dX7_tokenFrom_8 : decode cX7_tokenFrom 8 = .ok (.iload 4, 2) := by decide +kernel
theorem dX7_tokenFrom_10 : decode cX7_tokenFrom 10 = .ok (.iload_n 3, 1) := by decide +kernel
theorem dX7_tokenFrom_11 : decode cX7_tokenFrom 11 = .ok (.if_icmp .ge 25, 3) := by decide +kernel
theorem dX7_tokenFrom_14 : decode cX7_tokenFrom 14 = .ok (.iload 4, 2) := by decide +kernel
theorem dX7_tokenFrom_16 : decode cX7_tokenFrom 16 = .ok (.aload_n 1, 1) := by decide +kernel
theorem dX7_tokenFrom_17 : decode cX7_tokenFrom 17 = .ok (.arraylength, 1) := by decide +kernel
theorem dX7_tokenFrom_18 : decode cX7_tokenFrom 18 = .ok (.if_icmp .ge 18, 3) := by decide +kernel
theorem dX7_tokenFrom_21 : decode cX7_tokenFrom 21 = .ok (.aload_n 1, 1) := by decide +kernel
theorem dX7_tokenFrom_22 : decode cX7_tokenFrom 22 = .ok (.iload 4, 2) := by decide +kernel
theorem dX7_tokenFrom_24 : decode cX7_tokenFrom 24 = .ok (.caload, 1) := by decide +kernel
theorem dX7_tokenFrom_25 : decode cX7_tokenFrom 25 = .ok (.bipush 32, 2) := by decide +kernel
theorem dX7_tokenFrom_27 : decode cX7_tokenFrom 27 = .ok (.if_icmp .ne 9, 3) := by decide +kernel
theorem dX7_tokenFrom_30 : decode cX7_tokenFrom 30 = .ok (.iinc 4 1, 3) := by decide +kernel
theorem dX7_tokenFrom_33 : decode cX7_tokenFrom 33 = .ok (.goto (-30), 3) := by decide +kernel
theorem dX7_tokenFrom_36 : decode cX7_tokenFrom 36 = .ok (.iload 4, 2) := by decide +kernel
theorem dX7_tokenFrom_38 : decode cX7_tokenFrom 38 = .ok (.ireturn, 1) := by decide +kernel
theorem dX7_tokenEnd_0 : decode cX7_tokenEnd 0 = .ok (.iload_n 2, 1) := by decide +kernel
theorem dX7_tokenEnd_1 : decode cX7_tokenEnd 1 = .ok (.istore 4, 2) := by decide +kernel
theorem dX7_tokenEnd_3 : decode cX7_tokenEnd 3 = .ok (.iload 4, 2) := by decide +kernel
theorem dX7_tokenEnd_5 : decode cX7_tokenEnd 5 = .ok (.ifCond .lt 32, 3) := by decide +kernel
theorem dX7_tokenEnd_8 : decode cX7_tokenEnd 8 = .ok (.iload 4, 2) := by decide +kernel
theorem dX7_tokenEnd_10 : decode cX7_tokenEnd 10 = .ok (.iload_n 3, 1) := by decide +kernel
theorem dX7_tokenEnd_11 : decode cX7_tokenEnd 11 = .ok (.if_icmp .ge 26, 3) := by decide +kernel
theorem dX7_tokenEnd_14 : decode cX7_tokenEnd 14 = .ok (.iload 4, 2) := by decide +kernel
theorem dX7_tokenEnd_16 : decode cX7_tokenEnd 16 = .ok (.aload_n 1, 1) := by decide +kernel
theorem dX7_tokenEnd_17 : decode cX7_tokenEnd 17 = .ok (.arraylength, 1) := by decide +kernel
theorem dX7_tokenEnd_18 : decode cX7_tokenEnd 18 = .ok (.if_icmp .ge 19, 3) := by decide +kernel
theorem dX7_tokenEnd_21 : decode cX7_tokenEnd 21 = .ok (.aload_n 1, 1) := by decide +kernel
theorem dX7_tokenEnd_22 : decode cX7_tokenEnd 22 = .ok (.iload 4, 2) := by decide +kernel
theorem dX7_tokenEnd_24 : decode cX7_tokenEnd 24 = .ok (.caload, 1) := by decide +kernel
theorem dX7_tokenEnd_25 : decode cX7_tokenEnd 25 = .ok (.invokestatic 91, 3) := by decide +kernel
theorem dX7_tokenEnd_28 : decode cX7_tokenEnd 28 = .ok (.ifCond .ne 9, 3) := by decide +kernel
theorem dX7_tokenEnd_31 : decode cX7_tokenEnd 31 = .ok (.iinc 4 1, 3) := by decide +kernel
theorem dX7_tokenEnd_34 : decode cX7_tokenEnd 34 = .ok (.goto (-31), 3) := by decide +kernel
theorem dX7_tokenEnd_37 : decode cX7_tokenEnd 37 = .ok (.iload 4, 2) := by decide +kernel
theorem dX7_tokenEnd_39 : decode cX7_tokenEnd 39 = .ok (.iload_n 2, 1) := by decide +kernel
theorem dX7_tokenEnd_40 : decode cX7_tokenEnd 40 = .ok (.if_icmp .ne 14, 3) := by decide +kernel
theorem dX7_tokenEnd_43 : decode cX7_tokenEnd 43 = .ok (.iload_n 2, 1) := by decide +kernel
theorem dX7_tokenEnd_44 : decode cX7_tokenEnd 44 = .ok (.iload_n 3, 1) := by decide +kernel
theorem dX7_tokenEnd_45 : decode cX7_tokenEnd 45 = .ok (.if_icmp .ge 9, 3) := by decide +kernel
theorem dX7_tokenEnd_48 : decode cX7_tokenEnd 48 = .ok (.iload_n 2, 1) := by decide +kernel
theorem dX7_tokenEnd_49 : decode cX7_tokenEnd 49 = .ok (.iconst 1, 1) := by decide +kernel
theorem dX7_tokenEnd_50 : decode cX7_tokenEnd 50 = .ok (.iadd, 1) := by decide +kernel
theorem dX7_tokenEnd_51 : decode cX7_tokenEnd 51 = .ok (.goto 5, 3) := by decide +kernel
theorem dX7_tokenEnd_54 : decode cX7_tokenEnd 54 = .ok (.iload 4, 2) := by decide +kernel
theorem dX7_tokenEnd_56 : decode cX7_tokenEnd 56 = .ok (.ireturn, 1) := by decide +kernel
theorem dX7_isSymbol_0 : decode cX7_isSymbol 0 = .ok (.iload_n 2, 1) := by decide +kernel
theorem dX7_isSymbol_1 : decode cX7_isSymbol 1 = .ok (.ifCond .lt 32, 3) := by decide +kernel
theorem dX7_isSymbol_4 : decode cX7_isSymbol 4 = .ok (.iload_n 2, 1) := by decide +kernel
theorem dX7_isSymbol_5 : decode cX7_isSymbol 5 = .ok (.iload_n 3, 1) := by decide +kernel
theorem dX7_isSymbol_6 : decode cX7_isSymbol 6 = .ok (.if_icmp .ge 27, 3) := by decide +kernel
theorem dX7_isSymbol_9 : decode cX7_isSymbol 9 = .ok (.iload_n 3, 1) := by decide +kernel
theorem dX7_isSymbol_10 : decode cX7_isSymbol 10 = .ok (.aload_n 1, 1) := by decide +kernel
theorem dX7_isSymbol_11 : decode cX7_isSymbol 11 = .ok (.arraylength, 1) := by decide +kernel
theorem dX7_isSymbol_12 : decode cX7_isSymbol 12 = .ok (.if_icmp .gt 21, 3) := by decide +kernel
theorem dX7_isSymbol_15 : decode cX7_isSymbol 15 = .ok (.aload_n 1, 1) := by decide +kernel
theorem dX7_isSymbol_16 : decode cX7_isSymbol 16 = .ok (.iload_n 2, 1) := by decide +kernel
theorem dX7_isSymbol_17 : decode cX7_isSymbol 17 = .ok (.caload, 1) := by decide +kernel
theorem dX7_isSymbol_18 : decode cX7_isSymbol 18 = .ok (.invokestatic 91, 3) := by decide +kernel
theorem dX7_isSymbol_21 : decode cX7_isSymbol 21 = .ok (.ifCond .ne 12, 3) := by decide +kernel
theorem dX7_isSymbol_24 : decode cX7_isSymbol 24 = .ok (.aload_n 1, 1) := by decide +kernel
theorem dX7_isSymbol_25 : decode cX7_isSymbol 25 = .ok (.iload_n 2, 1) := by decide +kernel
theorem dX7_isSymbol_26 : decode cX7_isSymbol 26 = .ok (.iload_n 3, 1) := by decide +kernel
theorem dX7_isSymbol_27 : decode cX7_isSymbol 27 = .ok (.invokestatic 95, 3) := by decide +kernel
theorem dX7_isSymbol_30 : decode cX7_isSymbol 30 = .ok (.ifCond .eq 5, 3) := by decide +kernel
theorem dX7_isSymbol_33 : decode cX7_isSymbol 33 = .ok (.iconst 0, 1) := by decide +kernel
theorem dX7_isSymbol_34 : decode cX7_isSymbol 34 = .ok (.ireturn, 1) := by decide +kernel
theorem dX7_isSymbol_35 : decode cX7_isSymbol 35 = .ok (.iload_n 3, 1) := by decide +kernel
theorem dX7_isSymbol_36 : decode cX7_isSymbol 36 = .ok (.iload_n 2, 1) := by decide +kernel
theorem dX7_isSymbol_37 : decode cX7_isSymbol 37 = .ok (.isub, 1) := by decide +kernel
theorem dX7_isSymbol_38 : decode cX7_isSymbol 38 = .ok (.bipush 12, 2) := by decide +kernel
theorem dX7_isSymbol_40 : decode cX7_isSymbol 40 = .ok (.if_icmp .le 23, 3) := by decide +kernel
theorem dX7_isSymbol_43 : decode cX7_isSymbol 43 = .ok (.iload_n 3, 1) := by decide +kernel
theorem dX7_isSymbol_44 : decode cX7_isSymbol 44 = .ok (.iload_n 2, 1) := by decide +kernel
theorem dX7_isSymbol_45 : decode cX7_isSymbol 45 = .ok (.isub, 1) := by decide +kernel
theorem dX7_isSymbol_46 : decode cX7_isSymbol 46 = .ok (.bipush 16, 2) := by decide +kernel
theorem dX7_isSymbol_48 : decode cX7_isSymbol 48 = .ok (.if_icmp .gt 19, 3) := by decide +kernel
theorem dX7_isSymbol_51 : decode cX7_isSymbol 51 = .ok (.aload_n 0, 1) := by decide +kernel
theorem dX7_isSymbol_52 : decode cX7_isSymbol 52 = .ok (.aload_n 1, 1) := by decide +kernel
theorem dX7_isSymbol_53 : decode cX7_isSymbol 53 = .ok (.iload_n 2, 1) := by decide +kernel
theorem dX7_isSymbol_54 : decode cX7_isSymbol 54 = .ok (.iload_n 3, 1) := by decide +kernel
theorem dX7_isSymbol_55 : decode cX7_isSymbol 55 = .ok (.invokevirtual 76, 3) := by decide +kernel
theorem dX7_isSymbol_58 : decode cX7_isSymbol 58 = .ok (.bipush 6, 2) := by decide +kernel
theorem dX7_isSymbol_60 : decode cX7_isSymbol 60 = .ok (.if_icmp .ne 7, 3) := by decide +kernel
theorem dX7_isSymbol_63 : decode cX7_isSymbol 63 = .ok (.iconst 1, 1) := by decide +kernel
theorem dX7_isSymbol_64 : decode cX7_isSymbol 64 = .ok (.goto 4, 3) := by decide +kernel
theorem dX7_isSymbol_67 : decode cX7_isSymbol 67 = .ok (.iconst 0, 1) := by decide +kernel
theorem dX7_isSymbol_68 : decode cX7_isSymbol 68 = .ok (.ireturn, 1) := by decide +kernel
theorem dX8_init_0 : decode cX8_init 0 = .ok (.aload_n 0, 1) := by decide +kernel
theorem dX8_init_1 : decode cX8_init 1 = .ok (.invokespecial 3, 3) := by decide +kernel
theorem dX8_init_4 : decode cX8_init 4 = .ok (.aload_n 0, 1) := by decide +kernel
theorem dX8_init_5 : decode cX8_init 5 = .ok (.iconst (-1), 1) := by decide +kernel
theorem dX8_init_6 : decode cX8_init 6 = .ok (.putfield 9, 3) := by decide +kernel
theorem dX8_init_9 : decode cX8_init 9 = .ok (.aload_n 0, 1) := by decide +kernel
theorem dX8_init_10 : decode cX8_init 10 = .ok (.aload_n 1, 1) := by decide +kernel
theorem dX8_init_11 : decode cX8_init 11 = .ok (.putfield 15, 3) := by decide +kernel
theorem dX8_init_14 : decode cX8_init 14 = .ok (.aload_n 0, 1) := by decide +kernel
theorem dX8_init_15 : decode cX8_init 15 = .ok (.aload_n 2, 1) := by decide +kernel
theorem dX8_init_16 : decode cX8_init 16 = .ok (.putfield 19, 3) := by decide +kernel
theorem dX8_init_19 : decode cX8_init 19 = .ok (.aload_n 0, 1) := by decide +kernel
theorem dX8_init_20 : decode cX8_init 20 = .ok (.aload_n 3, 1) := by decide +kernel
theorem dX8_init_21 : decode cX8_init 21 = .ok (.putfield 23, 3) := by decide +kernel
theorem dX8_init_24 : decode cX8_init 24 = .ok (.return_, 1) := by decide +kernel
theorem dX9_init_0 : decode cX9_init 0 = .ok (.aload_n 0, 1) := by decide +kernel
theorem dX9_init_1 : decode cX9_init 1 = .ok (.invokespecial 3, 3) := by decide +kernel
theorem dX9_init_4 : decode cX9_init 4 = .ok (.aload_n 0, 1) := by decide +kernel
theorem dX9_init_5 : decode cX9_init 5 = .ok (.sipush 606, 3) := by decide +kernel
theorem dX9_init_8 : decode cX9_init 8 = .ok (.newarray .int, 2) := by decide +kernel
theorem dX9_init_10 : decode cX9_init 10 = .ok (.putfield 11, 3) := by decide +kernel
theorem dX9_init_13 : decode cX9_init 13 = .ok (.aload_n 0, 1) := by decide +kernel
theorem dX9_init_14 : decode cX9_init 14 = .ok (.sipush 606, 3) := by decide +kernel
theorem dX9_init_17 : decode cX9_init 17 = .ok (.newarray .int, 2) := by decide +kernel
theorem dX9_init_19 : decode cX9_init 19 = .ok (.putfield 15, 3) := by decide +kernel
theorem dX9_init_22 : decode cX9_init 22 = .ok (.aload_n 0, 1) := by decide +kernel
theorem dX9_init_23 : decode cX9_init 23 = .ok (.sipush 606, 3) := by decide +kernel
theorem dX9_init_26 : decode cX9_init 26 = .ok (.newarray .int, 2) := by decide +kernel
theorem dX9_init_28 : decode cX9_init 28 = .ok (.putfield 18, 3) := by decide +kernel
theorem dX9_init_31 : decode cX9_init 31 = .ok (.aload_n 0, 1) := by decide +kernel
theorem dX9_init_32 : decode cX9_init 32 = .ok (.sipush 606, 3) := by decide +kernel
theorem dX9_init_35 : decode cX9_init 35 = .ok (.newarray .int, 2) := by decide +kernel
theorem dX9_init_37 : decode cX9_init 37 = .ok (.putfield 21, 3) := by decide +kernel
theorem dX9_init_40 : decode cX9_init 40 = .ok (.aload_n 0, 1) := by decide +kernel
theorem dX9_init_41 : decode cX9_init 41 = .ok (.iconst 0, 1) := by decide +kernel
theorem dX9_init_42 : decode cX9_init 42 = .ok (.putfield 24, 3) := by decide +kernel
theorem dX9_init_45 : decode cX9_init 45 = .ok (.aload_n 0, 1) := by decide +kernel
theorem dX9_init_46 : decode cX9_init 46 = .ok (.aload_n 1, 1) := by decide +kernel
theorem dX9_init_47 : decode cX9_init 47 = .ok (.putfield 28, 3) := by decide +kernel
theorem dX9_init_50 : decode cX9_init 50 = .ok (.return_, 1) := by decide +kernel
theorem dX9_leaveTo_0 : decode cX9_leaveTo 0 = .ok (.aload_n 0, 1) := by decide +kernel
theorem dX9_leaveTo_1 : decode cX9_leaveTo 1 = .ok (.getfield 24, 3) := by decide +kernel
theorem dX9_leaveTo_4 : decode cX9_leaveTo 4 = .ok (.ifCond .le 69, 3) := by decide +kernel
theorem dX9_leaveTo_7 : decode cX9_leaveTo 7 = .ok (.aload_n 0, 1) := by decide +kernel
theorem dX9_leaveTo_8 : decode cX9_leaveTo 8 = .ok (.getfield 24, 3) := by decide +kernel
theorem dX9_leaveTo_11 : decode cX9_leaveTo 11 = .ok (.iload_n 1, 1) := by decide +kernel
theorem dX9_leaveTo_12 : decode cX9_leaveTo 12 = .ok (.if_icmp .le 61, 3) := by decide +kernel
theorem dX9_leaveTo_15 : decode cX9_leaveTo 15 = .ok (.aload_n 0, 1) := by decide +kernel
theorem dX9_leaveTo_16 : decode cX9_leaveTo 16 = .ok (.dup, 1) := by decide +kernel
theorem dX9_leaveTo_17 : decode cX9_leaveTo 17 = .ok (.getfield 24, 3) := by decide +kernel
theorem dX9_leaveTo_20 : decode cX9_leaveTo 20 = .ok (.iconst 1, 1) := by decide +kernel
theorem dX9_leaveTo_21 : decode cX9_leaveTo 21 = .ok (.isub, 1) := by decide +kernel
theorem dX9_leaveTo_22 : decode cX9_leaveTo 22 = .ok (.putfield 24, 3) := by decide +kernel
theorem dX9_leaveTo_25 : decode cX9_leaveTo 25 = .ok (.aload_n 0, 1) := by decide +kernel
theorem dX9_leaveTo_26 : decode cX9_leaveTo 26 = .ok (.getfield 28, 3) := by decide +kernel
theorem dX9_leaveTo_29 : decode cX9_leaveTo 29 = .ok (.aload_n 0, 1) := by decide +kernel
theorem dX9_leaveTo_30 : decode cX9_leaveTo 30 = .ok (.getfield 11, 3) := by decide +kernel
theorem dX9_leaveTo_33 : decode cX9_leaveTo 33 = .ok (.aload_n 0, 1) := by decide +kernel
theorem dX9_leaveTo_34 : decode cX9_leaveTo 34 = .ok (.getfield 24, 3) := by decide +kernel
theorem dX9_leaveTo_37 : decode cX9_leaveTo 37 = .ok (.iaload, 1) := by decide +kernel
theorem dX9_leaveTo_38 : decode cX9_leaveTo 38 = .ok (.invokevirtual 36, 3) := by decide +kernel
theorem dX9_leaveTo_41 : decode cX9_leaveTo 41 = .ok (.ifCond .eq (-41), 3) := by decide +kernel
theorem dX9_leaveTo_44 : decode cX9_leaveTo 44 = .ok (.aload_n 0, 1) := by decide +kernel
theorem dX9_leaveTo_45 : decode cX9_leaveTo 45 = .ok (.getfield 28, 3) := by decide +kernel
theorem dX9_leaveTo_48 : decode cX9_leaveTo 48 = .ok (.getfield 42, 3) := by decide +kernel
theorem dX9_leaveTo_51 : decode cX9_leaveTo 51 = .ok (.aload_n 0, 1) := by decide +kernel
theorem dX9_leaveTo_52 : decode cX9_leaveTo 52 = .ok (.getfield 11, 3) := by decide +kernel
theorem dX9_leaveTo_55 : decode cX9_leaveTo 55 = .ok (.aload_n 0, 1) := by decide +kernel
theorem dX9_leaveTo_56 : decode cX9_leaveTo 56 = .ok (.getfield 24, 3) := by decide +kernel
theorem dX9_leaveTo_59 : decode cX9_leaveTo 59 = .ok (.iaload, 1) := by decide +kernel
theorem dX9_leaveTo_60 : decode cX9_leaveTo 60 = .ok (.aload_n 0, 1) := by decide +kernel
theorem dX9_leaveTo_61 : decode cX9_leaveTo 61 = .ok (.getfield 15, 3) := by decide +kernel
theorem dX9_leaveTo_64 : decode cX9_leaveTo 64 = .ok (.aload_n 0, 1) := by decide +kernel
theorem dX9_leaveTo_65 : decode cX9_leaveTo 65 = .ok (.getfield 24, 3) := by decide +kernel
theorem dX9_leaveTo_68 : decode cX9_leaveTo 68 = .ok (.iaload, 1) := by decide +kernel
theorem dX9_leaveTo_69 : decode cX9_leaveTo 69 = .ok (.iastore, 1) := by decide +kernel
theorem dX9_leaveTo_70 : decode cX9_leaveTo 70 = .ok (.goto (-70), 3) := by decide +kernel
theorem dX9_leaveTo_73 : decode cX9_leaveTo 73 = .ok (.return_, 1) := by decide +kernel
theorem dX10_init_0 : decode cX10_init 0 = .ok (.aload_n 0, 1) := by decide +kernel
theorem dX10_init_1 : decode cX10_init 1 = .ok (.invokespecial 3, 3) := by decide +kernel
theorem dX10_init_4 : decode cX10_init 4 = .ok (.aload_n 0, 1) := by decide +kernel
theorem dX10_init_5 : decode cX10_init 5 = .ok (.sipush 4000, 3) := by decide +kernel
theorem dX10_init_8 : decode cX10_init 8 = .ok (.newarray .char, 2) := by decide +kernel
theorem dX10_init_10 : decode cX10_init 10 = .ok (.putfield 9, 3) := by decide +kernel
theorem dX10_init_13 : decode cX10_init 13 = .ok (.aload_n 0, 1) := by decide +kernel
theorem dX10_init_14 : decode cX10_init 14 = .ok (.iconst 0, 1) := by decide +kernel
theorem dX10_init_15 : decode cX10_init 15 = .ok (.putfield 15, 3) := by decide +kernel
theorem dX10_init_18 : decode cX10_init 18 = .ok (.aload_n 0, 1) := by decide +kernel
theorem dX10_init_19 : decode cX10_init 19 = .ok (.sipush 4000, 3) := by decide +kernel
theorem dX10_init_22 : decode cX10_init 22 = .ok (.newarray .char, 2) := by decide +kernel
theorem dX10_init_24 : decode cX10_init 24 = .ok (.putfield 19, 3) := by decide +kernel
theorem dX10_init_27 : decode cX10_init 27 = .ok (.aload_n 0, 1) := by decide +kernel
theorem dX10_init_28 : decode cX10_init 28 = .ok (.iconst 0, 1) := by decide +kernel
theorem dX10_init_29 : decode cX10_init 29 = .ok (.putfield 22, 3) := by decide +kernel
theorem dX10_init_32 : decode cX10_init 32 = .ok (.aload_n 0, 1) := by decide +kernel
theorem dX10_init_33 : decode cX10_init 33 = .ok (.bipush 32, 2) := by decide +kernel
theorem dX10_init_35 : decode cX10_init 35 = .ok (.putfield 25, 3) := by decide +kernel
theorem dX10_init_38 : decode cX10_init 38 = .ok (.return_, 1) := by decide +kernel
theorem dX10_startText_0 : decode cX10_startText 0 = .ok (.aload_n 0, 1) := by decide +kernel
theorem dX10_startText_1 : decode cX10_startText 1 = .ok (.iconst 0, 1) := by decide +kernel
theorem dX10_startText_2 : decode cX10_startText 2 = .ok (.putfield 22, 3) := by decide +kernel
theorem dX10_startText_5 : decode cX10_startText 5 = .ok (.return_, 1) := by decide +kernel
theorem dX10_take_0 : decode cX10_take 0 = .ok (.aload_n 0, 1) := by decide +kernel
theorem dX10_take_1 : decode cX10_take 1 = .ok (.getfield 9, 3) := by decide +kernel
theorem dX10_take_4 : decode cX10_take 4 = .ok (.astore_n 1, 1) := by decide +kernel
theorem dX10_take_5 : decode cX10_take 5 = .ok (.aload_n 0, 1) := by decide +kernel
theorem dX10_take_6 : decode cX10_take 6 = .ok (.aload_n 0, 1) := by decide +kernel
theorem dX10_take_7 : decode cX10_take 7 = .ok (.getfield 19, 3) := by decide +kernel
theorem dX10_take_10 : decode cX10_take 10 = .ok (.putfield 9, 3) := by decide +kernel
theorem dX10_take_13 : decode cX10_take 13 = .ok (.aload_n 0, 1) := by decide +kernel
theorem dX10_take_14 : decode cX10_take 14 = .ok (.aload_n 0, 1) := by decide +kernel
theorem dX10_take_15 : decode cX10_take 15 = .ok (.getfield 22, 3) := by decide +kernel
theorem dX10_take_18 : decode cX10_take 18 = .ok (.putfield 15, 3) := by decide +kernel
theorem dX10_take_21 : decode cX10_take 21 = .ok (.aload_n 0, 1) := by decide +kernel
theorem dX10_take_22 : decode cX10_take 22 = .ok (.aload_n 1, 1) := by decide +kernel
theorem dX10_take_23 : decode cX10_take 23 = .ok (.putfield 19, 3) := by decide +kernel
theorem dX10_take_26 : decode cX10_take 26 = .ok (.return_, 1) := by decide +kernel
theorem dX10_at_0 : decode cX10_at 0 = .ok (.iload_n 1, 1) := by decide +kernel
theorem dX10_at_1 : decode cX10_at 1 = .ok (.ifCond .lt 29, 3) := by decide +kernel
theorem dX10_at_4 : decode cX10_at 4 = .ok (.iload_n 1, 1) := by decide +kernel
theorem dX10_at_5 : decode cX10_at 5 = .ok (.aload_n 0, 1) := by decide +kernel
theorem dX10_at_6 : decode cX10_at 6 = .ok (.getfield 15, 3) := by decide +kernel
theorem dX10_at_9 : decode cX10_at 9 = .ok (.if_icmp .ge 21, 3) := by decide +kernel
theorem dX10_at_12 : decode cX10_at 12 = .ok (.iload_n 1, 1) := by decide +kernel
theorem dX10_at_13 : decode cX10_at 13 = .ok (.aload_n 0, 1) := by decide +kernel
theorem dX10_at_14 : decode cX10_at 14 = .ok (.getfield 9, 3) := by decide +kernel
theorem dX10_at_17 : decode cX10_at 17 = .ok (.arraylength, 1) := by decide +kernel
theorem dX10_at_18 : decode cX10_at 18 = .ok (.if_icmp .ge 12, 3) := by decide +kernel
theorem dX10_at_21 : decode cX10_at 21 = .ok (.aload_n 0, 1) := by decide +kernel
theorem dX10_at_22 : decode cX10_at 22 = .ok (.getfield 9, 3) := by decide +kernel
theorem dX10_at_25 : decode cX10_at 25 = .ok (.iload_n 1, 1) := by decide +kernel
theorem dX10_at_26 : decode cX10_at 26 = .ok (.caload, 1) := by decide +kernel
theorem dX10_at_27 : decode cX10_at 27 = .ok (.goto 4, 3) := by decide +kernel
theorem dX10_at_30 : decode cX10_at 30 = .ok (.iconst (-1), 1) := by decide +kernel
theorem dX10_at_31 : decode cX10_at 31 = .ok (.ireturn, 1) := by decide +kernel
theorem dX10_canBeRead_0 : decode cX10_canBeRead 0 = .ok (.iconst 0, 1) := by decide +kernel
theorem dX10_canBeRead_1 : decode cX10_canBeRead 1 = .ok (.istore_n 1, 1) := by decide +kernel
theorem dX10_canBeRead_2 : decode cX10_canBeRead 2 = .ok (.iconst 0, 1) := by decide +kernel
theorem dX10_canBeRead_3 : decode cX10_canBeRead 3 = .ok (.istore_n 2, 1) := by decide +kernel
theorem dX10_canBeRead_4 : decode cX10_canBeRead 4 = .ok (.iload_n 2, 1) := by decide +kernel
theorem dX10_canBeRead_5 : decode cX10_canBeRead 5 = .ok (.aload_n 0, 1) := by decide +kernel
theorem dX10_canBeRead_6 : decode cX10_canBeRead 6 = .ok (.getfield 15, 3) := by decide +kernel
theorem dX10_canBeRead_9 : decode cX10_canBeRead 9 = .ok (.if_icmp .ge 61, 3) := by decide +kernel
theorem dX10_canBeRead_12 : decode cX10_canBeRead 12 = .ok (.iload_n 2, 1) := by decide +kernel
theorem dX10_canBeRead_13 : decode cX10_canBeRead 13 = .ok (.aload_n 0, 1) := by decide +kernel
theorem dX10_canBeRead_14 : decode cX10_canBeRead 14 = .ok (.getfield 9, 3) := by decide +kernel
theorem dX10_canBeRead_17 : decode cX10_canBeRead 17 = .ok (.arraylength, 1) := by decide +kernel
theorem dX10_canBeRead_18 : decode cX10_canBeRead 18 = .ok (.if_icmp .ge 52, 3) := by decide +kernel
theorem dX10_canBeRead_21 : decode cX10_canBeRead 21 = .ok (.aload_n 0, 1) := by decide +kernel
theorem dX10_canBeRead_22 : decode cX10_canBeRead 22 = .ok (.getfield 9, 3) := by decide +kernel
theorem dX10_canBeRead_25 : decode cX10_canBeRead 25 = .ok (.iload_n 2, 1) := by decide +kernel
theorem dX10_canBeRead_26 : decode cX10_canBeRead 26 = .ok (.caload, 1) := by decide +kernel
theorem dX10_canBeRead_27 : decode cX10_canBeRead 27 = .ok (.bipush 40, 2) := by decide +kernel
theorem dX10_canBeRead_29 : decode cX10_canBeRead 29 = .ok (.if_icmp .ne 9, 3) := by decide +kernel
theorem dX10_canBeRead_32 : decode cX10_canBeRead 32 = .ok (.iinc 1 1, 3) := by decide +kernel
theorem dX10_canBeRead_35 : decode cX10_canBeRead 35 = .ok (.goto 17, 3) := by decide +kernel
theorem dX10_canBeRead_38 : decode cX10_canBeRead 38 = .ok (.aload_n 0, 1) := by decide +kernel
theorem dX10_canBeRead_39 : decode cX10_canBeRead 39 = .ok (.getfield 9, 3) := by decide +kernel
theorem dX10_canBeRead_42 : decode cX10_canBeRead 42 = .ok (.iload_n 2, 1) := by decide +kernel
theorem dX10_canBeRead_43 : decode cX10_canBeRead 43 = .ok (.caload, 1) := by decide +kernel
theorem dX10_canBeRead_44 : decode cX10_canBeRead 44 = .ok (.bipush 41, 2) := by decide +kernel
theorem dX10_canBeRead_46 : decode cX10_canBeRead 46 = .ok (.if_icmp .ne 6, 3) := by decide +kernel
theorem dX10_canBeRead_49 : decode cX10_canBeRead 49 = .ok (.iinc 1 (-1), 3) := by decide +kernel
theorem dX10_canBeRead_52 : decode cX10_canBeRead 52 = .ok (.iload_n 1, 1) := by decide +kernel
theorem dX10_canBeRead_53 : decode cX10_canBeRead 53 = .ok (.ifCond .lt 9, 3) := by decide +kernel
theorem dX10_canBeRead_56 : decode cX10_canBeRead 56 = .ok (.iload_n 1, 1) := by decide +kernel
theorem dX10_canBeRead_57 : decode cX10_canBeRead 57 = .ok (.bipush 61, 2) := by decide +kernel
theorem dX10_canBeRead_59 : decode cX10_canBeRead 59 = .ok (.if_icmp .le 5, 3) := by decide +kernel
theorem dX10_canBeRead_62 : decode cX10_canBeRead 62 = .ok (.iconst 0, 1) := by decide +kernel
theorem dX10_canBeRead_63 : decode cX10_canBeRead 63 = .ok (.ireturn, 1) := by decide +kernel
theorem dX10_canBeRead_64 : decode cX10_canBeRead 64 = .ok (.iinc 2 1, 3) := by decide +kernel
theorem dX10_canBeRead_67 : decode cX10_canBeRead 67 = .ok (.goto (-63), 3) := by decide +kernel
theorem dX10_canBeRead_70 : decode cX10_canBeRead 70 = .ok (.iload_n 1, 1) := by decide +kernel
theorem dX10_canBeRead_71 : decode cX10_canBeRead 71 = .ok (.ifCond .ne 7, 3) := by decide +kernel
theorem dX10_canBeRead_74 : decode cX10_canBeRead 74 = .ok (.iconst 1, 1) := by decide +kernel
theorem dX10_canBeRead_75 : decode cX10_canBeRead 75 = .ok (.goto 4, 3) := by decide +kernel
theorem dX10_canBeRead_78 : decode cX10_canBeRead 78 = .ok (.iconst 0, 1) := by decide +kernel
theorem dX10_canBeRead_79 : decode cX10_canBeRead 79 = .ok (.ireturn, 1) := by decide +kernel
theorem dX11_init_0 : decode cX11_init 0 = .ok (.aload_n 0, 1) := by decide +kernel
theorem dX11_init_1 : decode cX11_init 1 = .ok (.invokespecial 1, 3) := by decide +kernel
theorem dX11_init_4 : decode cX11_init 4 = .ok (.aload_n 0, 1) := by decide +kernel
theorem dX11_init_5 : decode cX11_init 5 = .ok (.sipush 3000, 3) := by decide +kernel
theorem dX11_init_8 : decode cX11_init 8 = .ok (.newarray .char, 2) := by decide +kernel
theorem dX11_init_10 : decode cX11_init 10 = .ok (.putfield 9, 3) := by decide +kernel
theorem dX11_init_13 : decode cX11_init 13 = .ok (.aload_n 0, 1) := by decide +kernel
theorem dX11_init_14 : decode cX11_init 14 = .ok (.new 13, 3) := by decide +kernel
theorem dX11_init_17 : decode cX11_init 17 = .ok (.dup, 1) := by decide +kernel
theorem dX11_init_18 : decode cX11_init 18 = .ok (.invokespecial 15, 3) := by decide +kernel
theorem dX11_init_21 : decode cX11_init 21 = .ok (.putfield 16, 3) := by decide +kernel
theorem dX11_init_24 : decode cX11_init 24 = .ok (.aload_n 0, 1) := by decide +kernel
theorem dX11_init_25 : decode cX11_init 25 = .ok (.new 20, 3) := by decide +kernel
theorem dX11_init_28 : decode cX11_init 28 = .ok (.dup, 1) := by decide +kernel
theorem dX11_init_29 : decode cX11_init 29 = .ok (.invokespecial 22, 3) := by decide +kernel
theorem dX11_init_32 : decode cX11_init 32 = .ok (.putfield 23, 3) := by decide +kernel
theorem dX11_init_35 : decode cX11_init 35 = .ok (.aload_n 0, 1) := by decide +kernel
theorem dX11_init_36 : decode cX11_init 36 = .ok (.new 27, 3) := by decide +kernel
theorem dX11_init_39 : decode cX11_init 39 = .ok (.dup, 1) := by decide +kernel
theorem dX11_init_40 : decode cX11_init 40 = .ok (.invokespecial 29, 3) := by decide +kernel
theorem dX11_init_43 : decode cX11_init 43 = .ok (.putfield 30, 3) := by decide +kernel
theorem dX11_init_46 : decode cX11_init 46 = .ok (.aload_n 0, 1) := by decide +kernel
theorem dX11_init_47 : decode cX11_init 47 = .ok (.new 34, 3) := by decide +kernel
theorem dX11_init_50 : decode cX11_init 50 = .ok (.dup, 1) := by decide +kernel
theorem dX11_init_51 : decode cX11_init 51 = .ok (.aload_n 0, 1) := by decide +kernel
theorem dX11_init_52 : decode cX11_init 52 = .ok (.getfield 23, 3) := by decide +kernel
theorem dX11_init_55 : decode cX11_init 55 = .ok (.aload_n 0, 1) := by decide +kernel
theorem dX11_init_56 : decode cX11_init 56 = .ok (.getfield 16, 3) := by decide +kernel
theorem dX11_init_59 : decode cX11_init 59 = .ok (.invokespecial 36, 3) := by decide +kernel
theorem dX11_init_62 : decode cX11_init 62 = .ok (.putfield 39, 3) := by decide +kernel
theorem dX11_init_65 : decode cX11_init 65 = .ok (.aload_n 0, 1) := by decide +kernel
theorem dX11_init_66 : decode cX11_init 66 = .ok (.new 43, 3) := by decide +kernel
theorem dX11_init_69 : decode cX11_init 69 = .ok (.dup, 1) := by decide +kernel
theorem dX11_init_70 : decode cX11_init 70 = .ok (.aload_n 0, 1) := by decide +kernel
theorem dX11_init_71 : decode cX11_init 71 = .ok (.getfield 23, 3) := by decide +kernel
theorem dX11_init_74 : decode cX11_init 74 = .ok (.aload_n 0, 1) := by decide +kernel
theorem dX11_init_75 : decode cX11_init 75 = .ok (.getfield 16, 3) := by decide +kernel
theorem dX11_init_78 : decode cX11_init 78 = .ok (.aload_n 0, 1) := by decide +kernel
theorem dX11_init_79 : decode cX11_init 79 = .ok (.getfield 30, 3) := by decide +kernel
theorem dX11_init_82 : decode cX11_init 82 = .ok (.invokespecial 45, 3) := by decide +kernel
theorem dX11_init_85 : decode cX11_init 85 = .ok (.putfield 48, 3) := by decide +kernel
theorem dX11_init_88 : decode cX11_init 88 = .ok (.aload_n 0, 1) := by decide +kernel
theorem dX11_init_89 : decode cX11_init 89 = .ok (.iconst 0, 1) := by decide +kernel
theorem dX11_init_90 : decode cX11_init 90 = .ok (.putfield 52, 3) := by decide +kernel
theorem dX11_init_93 : decode cX11_init 93 = .ok (.aload_n 0, 1) := by decide +kernel
theorem dX11_init_94 : decode cX11_init 94 = .ok (.iconst (-1), 1) := by decide +kernel
theorem dX11_init_95 : decode cX11_init 95 = .ok (.putfield 56, 3) := by decide +kernel
theorem dX11_init_98 : decode cX11_init 98 = .ok (.aload_n 0, 1) := by decide +kernel
theorem dX11_init_99 : decode cX11_init 99 = .ok (.iconst 0, 1) := by decide +kernel
theorem dX11_init_100 : decode cX11_init 100 = .ok (.putfield 59, 3) := by decide +kernel
theorem dX11_init_103 : decode cX11_init 103 = .ok (.aload_n 0, 1) := by decide +kernel
theorem dX11_init_104 : decode cX11_init 104 = .ok (.iconst 0, 1) := by decide +kernel
theorem dX11_init_105 : decode cX11_init 105 = .ok (.putfield 62, 3) := by decide +kernel
theorem dX11_init_108 : decode cX11_init 108 = .ok (.aload_n 0, 1) := by decide +kernel
theorem dX11_init_109 : decode cX11_init 109 = .ok (.iconst 0, 1) := by decide +kernel
theorem dX11_init_110 : decode cX11_init 110 = .ok (.putfield 65, 3) := by decide +kernel
theorem dX11_init_113 : decode cX11_init 113 = .ok (.return_, 1) := by decide +kernel
theorem dX11_type_0 : decode cX11_type 0 = .ok (.iload_n 3, 1) := by decide +kernel
theorem dX11_type_1 : decode cX11_type 1 = .ok (.iconst 1, 1) := by decide +kernel
theorem dX11_type_2 : decode cX11_type 2 = .ok (.if_icmp .lt 21, 3) := by decide +kernel
theorem dX11_type_5 : decode cX11_type 5 = .ok (.iload_n 3, 1) := by decide +kernel
theorem dX11_type_6 : decode cX11_type 6 = .ok (.bipush 8, 2) := by decide +kernel
theorem dX11_type_8 : decode cX11_type 8 = .ok (.if_icmp .gt 15, 3) := by decide +kernel
theorem dX11_type_11 : decode cX11_type 11 = .ok (.aload_n 0, 1) := by decide +kernel
theorem dX11_type_12 : decode cX11_type 12 = .ok (.getfield 52, 3) := by decide +kernel
theorem dX11_type_15 : decode cX11_type 15 = .ok (.iload_n 3, 1) := by decide +kernel
theorem dX11_type_16 : decode cX11_type 16 = .ok (.iadd, 1) := by decide +kernel
theorem dX11_type_17 : decode cX11_type 17 = .ok (.sipush 3000, 3) := by decide +kernel
theorem dX11_type_20 : decode cX11_type 20 = .ok (.if_icmp .le 5, 3) := by decide +kernel
theorem dX11_type_23 : decode cX11_type 23 = .ok (.iconst (-1), 1) := by decide +kernel
theorem dX11_type_24 : decode cX11_type 24 = .ok (.ireturn, 1) := by decide +kernel
theorem dX11_type_25 : decode cX11_type 25 = .ok (.iconst 0, 1) := by decide +kernel
theorem dX11_type_26 : decode cX11_type 26 = .ok (.istore 4, 2) := by decide +kernel
theorem dX11_type_28 : decode cX11_type 28 = .ok (.iload 4, 2) := by decide +kernel
theorem dX11_type_30 : decode cX11_type 30 = .ok (.iload_n 3, 1) := by decide +kernel
theorem dX11_type_31 : decode cX11_type 31 = .ok (.if_icmp .ge 33, 3) := by decide +kernel
theorem dX11_type_34 : decode cX11_type 34 = .ok (.lload_n 1, 1) := by decide +kernel
theorem dX11_type_35 : decode cX11_type 35 = .ok (.iload 4, 2) := by decide +kernel
theorem dX11_type_37 : decode cX11_type 37 = .ok (.invokestatic 68, 3) := by decide +kernel
theorem dX11_type_40 : decode cX11_type 40 = .ok (.istore 5, 2) := by decide +kernel
theorem dX11_type_42 : decode cX11_type 42 = .ok (.iload 5, 2) := by decide +kernel
theorem dX11_type_44 : decode cX11_type 44 = .ok (.bipush 32, 2) := by decide +kernel
theorem dX11_type_46 : decode cX11_type 46 = .ok (.if_icmp .lt 10, 3) := by decide +kernel
theorem dX11_type_49 : decode cX11_type 49 = .ok (.iload 5, 2) := by decide +kernel
theorem dX11_type_51 : decode cX11_type 51 = .ok (.bipush 126, 2) := by decide +kernel
theorem dX11_type_53 : decode cX11_type 53 = .ok (.if_icmp .le 5, 3) := by decide +kernel
theorem dX11_type_56 : decode cX11_type 56 = .ok (.iconst (-1), 1) := by decide +kernel
theorem dX11_type_57 : decode cX11_type 57 = .ok (.ireturn, 1) := by decide +kernel
theorem dX11_type_58 : decode cX11_type 58 = .ok (.iinc 4 1, 3) := by decide +kernel
theorem dX11_type_61 : decode cX11_type 61 = .ok (.goto (-33), 3) := by decide +kernel
theorem dX11_type_64 : decode cX11_type 64 = .ok (.iload_n 3, 1) := by decide +kernel
theorem dX11_type_65 : decode cX11_type 65 = .ok (.iconst 1, 1) := by decide +kernel
theorem dX11_type_66 : decode cX11_type 66 = .ok (.isub, 1) := by decide +kernel
theorem dX11_type_67 : decode cX11_type 67 = .ok (.istore 4, 2) := by decide +kernel
theorem dX11_type_69 : decode cX11_type 69 = .ok (.iload 4, 2) := by decide +kernel
theorem dX11_type_71 : decode cX11_type 71 = .ok (.ifCond .lt 35, 3) := by decide +kernel
theorem dX11_type_74 : decode cX11_type 74 = .ok (.aload_n 0, 1) := by decide +kernel
theorem dX11_type_75 : decode cX11_type 75 = .ok (.getfield 9, 3) := by decide +kernel
theorem dX11_type_78 : decode cX11_type 78 = .ok (.aload_n 0, 1) := by decide +kernel
theorem dX11_type_79 : decode cX11_type 79 = .ok (.getfield 52, 3) := by decide +kernel
theorem dX11_type_82 : decode cX11_type 82 = .ok (.lload_n 1, 1) := by decide +kernel
theorem dX11_type_83 : decode cX11_type 83 = .ok (.iload 4, 2) := by decide +kernel
theorem dX11_type_85 : decode cX11_type 85 = .ok (.invokestatic 68, 3) := by decide +kernel
theorem dX11_type_88 : decode cX11_type 88 = .ok (.i2c, 1) := by decide +kernel
theorem dX11_type_89 : decode cX11_type 89 = .ok (.castore, 1) := by decide +kernel
theorem dX11_type_90 : decode cX11_type 90 = .ok (.aload_n 0, 1) := by decide +kernel
theorem dX11_type_91 : decode cX11_type 91 = .ok (.dup, 1) := by decide +kernel
theorem dX11_type_92 : decode cX11_type 92 = .ok (.getfield 52, 3) := by decide +kernel
theorem dX11_type_95 : decode cX11_type 95 = .ok (.iconst 1, 1) := by decide +kernel
theorem dX11_type_96 : decode cX11_type 96 = .ok (.iadd, 1) := by decide +kernel
theorem dX11_type_97 : decode cX11_type 97 = .ok (.putfield 52, 3) := by decide +kernel
theorem dX11_type_100 : decode cX11_type 100 = .ok (.iinc 4 (-1), 3) := by decide +kernel
theorem dX11_type_103 : decode cX11_type 103 = .ok (.goto (-34), 3) := by decide +kernel
theorem dX11_type_106 : decode cX11_type 106 = .ok (.aload_n 0, 1) := by decide +kernel
theorem dX11_type_107 : decode cX11_type 107 = .ok (.getfield 52, 3) := by decide +kernel
theorem dX11_type_110 : decode cX11_type 110 = .ok (.ireturn, 1) := by decide +kernel
theorem dX11_read_0 : decode cX11_read 0 = .ok (.aload_n 0, 1) := by decide +kernel
theorem dX11_read_1 : decode cX11_read 1 = .ok (.getfield 23, 3) := by decide +kernel
theorem dX11_read_4 : decode cX11_read 4 = .ok (.getfield 72, 3) := by decide +kernel
theorem dX11_read_7 : decode cX11_read 7 = .ok (.istore_n 1, 1) := by decide +kernel
theorem dX11_read_8 : decode cX11_read 8 = .ok (.aload_n 0, 1) := by decide +kernel
theorem dX11_read_9 : decode cX11_read 9 = .ok (.getfield 16, 3) := by decide +kernel
theorem dX11_read_12 : decode cX11_read 12 = .ok (.invokevirtual 75, 3) := by decide +kernel
theorem dX11_read_15 : decode cX11_read 15 = .ok (.aload_n 0, 1) := by decide +kernel
theorem dX11_read_16 : decode cX11_read 16 = .ok (.getfield 23, 3) := by decide +kernel
theorem dX11_read_19 : decode cX11_read 19 = .ok (.invokevirtual 78, 3) := by decide +kernel
theorem dX11_read_22 : decode cX11_read 22 = .ok (.aload_n 0, 1) := by decide +kernel
theorem dX11_read_23 : decode cX11_read 23 = .ok (.getfield 30, 3) := by decide +kernel
theorem dX11_read_26 : decode cX11_read 26 = .ok (.invokevirtual 79, 3) := by decide +kernel
theorem dX11_read_29 : decode cX11_read 29 = .ok (.aload_n 0, 1) := by decide +kernel
theorem dX11_read_30 : decode cX11_read 30 = .ok (.iconst (-1), 1) := by decide +kernel
theorem dX11_read_31 : decode cX11_read 31 = .ok (.putfield 56, 3) := by decide +kernel
theorem dX11_read_34 : decode cX11_read 34 = .ok (.aload_n 0, 1) := by decide +kernel
theorem dX11_read_35 : decode cX11_read 35 = .ok (.getfield 39, 3) := by decide +kernel
theorem dX11_read_38 : decode cX11_read 38 = .ok (.aload_n 0, 1) := by decide +kernel
theorem dX11_read_39 : decode cX11_read 39 = .ok (.getfield 9, 3) := by decide +kernel
theorem dX11_read_42 : decode cX11_read 42 = .ok (.aload_n 0, 1) := by decide +kernel
theorem dX11_read_43 : decode cX11_read 43 = .ok (.getfield 52, 3) := by decide +kernel
theorem dX11_read_46 : decode cX11_read 46 = .ok (.invokevirtual 80, 3) := by decide +kernel
theorem dX11_read_49 : decode cX11_read 49 = .ok (.istore_n 2, 1) := by decide +kernel
theorem dX11_read_50 : decode cX11_read 50 = .ok (.aload_n 0, 1) := by decide +kernel
theorem dX11_read_51 : decode cX11_read 51 = .ok (.iconst 0, 1) := by decide +kernel
theorem dX11_read_52 : decode cX11_read 52 = .ok (.putfield 52, 3) := by decide +kernel
theorem dX11_read_55 : decode cX11_read 55 = .ok (.iload_n 2, 1) := by decide +kernel
theorem dX11_read_56 : decode cX11_read 56 = .ok (.ifCond .ne 30, 3) := by decide +kernel
theorem dX11_read_59 : decode cX11_read 59 = .ok (.aload_n 0, 1) := by decide +kernel
theorem dX11_read_60 : decode cX11_read 60 = .ok (.getfield 48, 3) := by decide +kernel
theorem dX11_read_63 : decode cX11_read 63 = .ok (.invokevirtual 84, 3) := by decide +kernel
theorem dX11_read_66 : decode cX11_read 66 = .ok (.istore_n 2, 1) := by decide +kernel
theorem dX11_read_67 : decode cX11_read 67 = .ok (.aload_n 0, 1) := by decide +kernel
theorem dX11_read_68 : decode cX11_read 68 = .ok (.iload_n 2, 1) := by decide +kernel
theorem dX11_read_69 : decode cX11_read 69 = .ok (.ifCond .ne 7, 3) := by decide +kernel
theorem dX11_read_72 : decode cX11_read 72 = .ok (.iconst (-1), 1) := by decide +kernel
theorem dX11_read_73 : decode cX11_read 73 = .ok (.goto 10, 3) := by decide +kernel
theorem dX11_read_76 : decode cX11_read 76 = .ok (.aload_n 0, 1) := by decide +kernel
theorem dX11_read_77 : decode cX11_read 77 = .ok (.getfield 48, 3) := by decide +kernel
theorem dX11_read_80 : decode cX11_read 80 = .ok (.getfield 88, 3) := by decide +kernel
theorem dX11_read_83 : decode cX11_read 83 = .ok (.putfield 56, 3) := by decide +kernel
theorem dX11_read_86 : decode cX11_read 86 = .ok (.iload_n 2, 1) := by decide +kernel
theorem dX11_read_87 : decode cX11_read 87 = .ok (.ifCond .ne 26, 3) := by decide +kernel
theorem dX11_read_90 : decode cX11_read 90 = .ok (.aload_n 0, 1) := by decide +kernel
theorem dX11_read_91 : decode cX11_read 91 = .ok (.aload_n 0, 1) := by decide +kernel
theorem dX11_read_92 : decode cX11_read 92 = .ok (.getfield 23, 3) := by decide +kernel
theorem dX11_read_95 : decode cX11_read 95 = .ok (.getfield 72, 3) := by decide +kernel
theorem dX11_read_98 : decode cX11_read 98 = .ok (.iload_n 1, 1) := by decide +kernel
theorem dX11_read_99 : decode cX11_read 99 = .ok (.if_icmp .le 7, 3) := by decide +kernel
theorem dX11_read_102 : decode cX11_read 102 = .ok (.iconst 1, 1) := by decide +kernel
theorem dX11_read_103 : decode cX11_read 103 = .ok (.goto 4, 3) := by decide +kernel
theorem dX11_read_106 : decode cX11_read 106 = .ok (.iconst 0, 1) := by decide +kernel
theorem dX11_read_107 : decode cX11_read 107 = .ok (.invokevirtual 89, 3) := by decide +kernel
theorem dX11_read_110 : decode cX11_read 110 = .ok (.goto 18, 3) := by decide +kernel
theorem dX11_read_113 : decode cX11_read 113 = .ok (.aload_n 0, 1) := by decide +kernel
theorem dX11_read_114 : decode cX11_read 114 = .ok (.getfield 23, 3) := by decide +kernel
theorem dX11_read_117 : decode cX11_read 117 = .ok (.iload_n 1, 1) := by decide +kernel
theorem dX11_read_118 : decode cX11_read 118 = .ok (.putfield 72, 3) := by decide +kernel
theorem dX11_read_121 : decode cX11_read 121 = .ok (.aload_n 0, 1) := by decide +kernel
theorem dX11_read_122 : decode cX11_read 122 = .ok (.getfield 16, 3) := by decide +kernel
theorem dX11_read_125 : decode cX11_read 125 = .ok (.invokevirtual 93, 3) := by decide +kernel
theorem dX11_read_128 : decode cX11_read 128 = .ok (.iload_n 2, 1) := by decide +kernel
theorem dX11_read_129 : decode cX11_read 129 = .ok (.ireturn, 1) := by decide +kernel
theorem dX11_place_0 : decode cX11_place 0 = .ok (.aload_n 0, 1) := by decide +kernel
theorem dX11_place_1 : decode cX11_place 1 = .ok (.getfield 56, 3) := by decide +kernel
theorem dX11_place_4 : decode cX11_place 4 = .ok (.ireturn, 1) := by decide +kernel
theorem dX11_count_0 : decode cX11_count 0 = .ok (.iload_n 1, 1) := by decide +kernel
theorem dX11_count_1 : decode cX11_count 1 = .ok (.tableswitch 78 0 5 #[39, 47, 52, 57, 62, 70], 39) := by decide +kernel
theorem dX11_count_40 : decode cX11_count 40 = .ok (.aload_n 0, 1) := by decide +kernel
theorem dX11_count_41 : decode cX11_count 41 = .ok (.getfield 30, 3) := by decide +kernel
theorem dX11_count_44 : decode cX11_count 44 = .ok (.getfield 96, 3) := by decide +kernel
theorem dX11_count_47 : decode cX11_count 47 = .ok (.ireturn, 1) := by decide +kernel
theorem dX11_count_48 : decode cX11_count 48 = .ok (.aload_n 0, 1) := by decide +kernel
theorem dX11_count_49 : decode cX11_count 49 = .ok (.getfield 59, 3) := by decide +kernel
theorem dX11_count_52 : decode cX11_count 52 = .ok (.ireturn, 1) := by decide +kernel
theorem dX11_count_53 : decode cX11_count 53 = .ok (.aload_n 0, 1) := by decide +kernel
theorem dX11_count_54 : decode cX11_count 54 = .ok (.getfield 62, 3) := by decide +kernel
theorem dX11_count_57 : decode cX11_count 57 = .ok (.ireturn, 1) := by decide +kernel
theorem dX11_count_58 : decode cX11_count 58 = .ok (.aload_n 0, 1) := by decide +kernel
theorem dX11_count_59 : decode cX11_count 59 = .ok (.getfield 65, 3) := by decide +kernel
theorem dX11_count_62 : decode cX11_count 62 = .ok (.ireturn, 1) := by decide +kernel
theorem dX11_count_63 : decode cX11_count 63 = .ok (.aload_n 0, 1) := by decide +kernel
theorem dX11_count_64 : decode cX11_count 64 = .ok (.getfield 16, 3) := by decide +kernel
theorem dX11_count_67 : decode cX11_count 67 = .ok (.invokevirtual 99, 3) := by decide +kernel
theorem dX11_count_70 : decode cX11_count 70 = .ok (.ireturn, 1) := by decide +kernel
theorem dX11_count_71 : decode cX11_count 71 = .ok (.aload_n 0, 1) := by decide +kernel
theorem dX11_count_72 : decode cX11_count 72 = .ok (.getfield 23, 3) := by decide +kernel
theorem dX11_count_75 : decode cX11_count 75 = .ok (.getfield 72, 3) := by decide +kernel
theorem dX11_count_78 : decode cX11_count 78 = .ok (.ireturn, 1) := by decide +kernel
theorem dX11_count_79 : decode cX11_count 79 = .ok (.iconst (-1), 1) := by decide +kernel
theorem dX11_count_80 : decode cX11_count 80 = .ok (.ireturn, 1) := by decide +kernel
theorem dX11_character_0 : decode cX11_character 0 = .ok (.aload_n 0, 1) := by decide +kernel
theorem dX11_character_1 : decode cX11_character 1 = .ok (.getfield 30, 3) := by decide +kernel
theorem dX11_character_4 : decode cX11_character 4 = .ok (.iload_n 1, 1) := by decide +kernel
theorem dX11_character_5 : decode cX11_character 5 = .ok (.invokevirtual 102, 3) := by decide +kernel
theorem dX11_character_8 : decode cX11_character 8 = .ok (.ireturn, 1) := by decide +kernel
theorem dX11_means_0 : decode cX11_means 0 = .ok (.aload_n 0, 1) := by decide +kernel
theorem dX11_means_1 : decode cX11_means 1 = .ok (.getfield 39, 3) := by decide +kernel
theorem dX11_means_4 : decode cX11_means 4 = .ok (.aload_n 0, 1) := by decide +kernel
theorem dX11_means_5 : decode cX11_means 5 = .ok (.getfield 9, 3) := by decide +kernel
theorem dX11_means_8 : decode cX11_means 8 = .ok (.iconst 0, 1) := by decide +kernel
theorem dX11_means_9 : decode cX11_means 9 = .ok (.aload_n 0, 1) := by decide +kernel
theorem dX11_means_10 : decode cX11_means 10 = .ok (.getfield 52, 3) := by decide +kernel
theorem dX11_means_13 : decode cX11_means 13 = .ok (.invokevirtual 106, 3) := by decide +kernel
theorem dX11_means_16 : decode cX11_means 16 = .ok (.istore_n 1, 1) := by decide +kernel
theorem dX11_means_17 : decode cX11_means 17 = .ok (.aload_n 0, 1) := by decide +kernel
theorem dX11_means_18 : decode cX11_means 18 = .ok (.getfield 39, 3) := by decide +kernel
theorem dX11_means_21 : decode cX11_means 21 = .ok (.aload_n 0, 1) := by decide +kernel
theorem dX11_means_22 : decode cX11_means 22 = .ok (.getfield 9, 3) := by decide +kernel
theorem dX11_means_25 : decode cX11_means 25 = .ok (.iload_n 1, 1) := by decide +kernel
theorem dX11_means_26 : decode cX11_means 26 = .ok (.aload_n 0, 1) := by decide +kernel
theorem dX11_means_27 : decode cX11_means 27 = .ok (.getfield 52, 3) := by decide +kernel
theorem dX11_means_30 : decode cX11_means 30 = .ok (.invokevirtual 110, 3) := by decide +kernel
theorem dX11_means_33 : decode cX11_means 33 = .ok (.istore_n 2, 1) := by decide +kernel
theorem dX11_means_34 : decode cX11_means 34 = .ok (.aload_n 0, 1) := by decide +kernel
theorem dX11_means_35 : decode cX11_means 35 = .ok (.getfield 39, 3) := by decide +kernel
theorem dX11_means_38 : decode cX11_means 38 = .ok (.aload_n 0, 1) := by decide +kernel
theorem dX11_means_39 : decode cX11_means 39 = .ok (.getfield 9, 3) := by decide +kernel
theorem dX11_means_42 : decode cX11_means 42 = .ok (.iload_n 2, 1) := by decide +kernel
theorem dX11_means_43 : decode cX11_means 43 = .ok (.aload_n 0, 1) := by decide +kernel
theorem dX11_means_44 : decode cX11_means 44 = .ok (.getfield 52, 3) := by decide +kernel
theorem dX11_means_47 : decode cX11_means 47 = .ok (.invokevirtual 106, 3) := by decide +kernel
theorem dX11_means_50 : decode cX11_means 50 = .ok (.aload_n 0, 1) := by decide +kernel
theorem dX11_means_51 : decode cX11_means 51 = .ok (.getfield 52, 3) := by decide +kernel
theorem dX11_means_54 : decode cX11_means 54 = .ok (.if_icmp .ne 7, 3) := by decide +kernel
theorem dX11_means_57 : decode cX11_means 57 = .ok (.iconst 1, 1) := by decide +kernel
theorem dX11_means_58 : decode cX11_means 58 = .ok (.goto 4, 3) := by decide +kernel
theorem dX11_means_61 : decode cX11_means 61 = .ok (.iconst 0, 1) := by decide +kernel
theorem dX11_means_62 : decode cX11_means 62 = .ok (.istore_n 3, 1) := by decide +kernel
theorem dX11_means_63 : decode cX11_means 63 = .ok (.aload_n 0, 1) := by decide +kernel
theorem dX11_means_64 : decode cX11_means 64 = .ok (.iconst 0, 1) := by decide +kernel
theorem dX11_means_65 : decode cX11_means 65 = .ok (.putfield 52, 3) := by decide +kernel
theorem dX11_means_68 : decode cX11_means 68 = .ok (.iload_n 3, 1) := by decide +kernel
theorem dX11_means_69 : decode cX11_means 69 = .ok (.ifCond .eq 19, 3) := by decide +kernel
theorem dX11_means_72 : decode cX11_means 72 = .ok (.aload_n 0, 1) := by decide +kernel
theorem dX11_means_73 : decode cX11_means 73 = .ok (.getfield 39, 3) := by decide +kernel
theorem dX11_means_76 : decode cX11_means 76 = .ok (.aload_n 0, 1) := by decide +kernel
theorem dX11_means_77 : decode cX11_means 77 = .ok (.getfield 9, 3) := by decide +kernel
theorem dX11_means_80 : decode cX11_means 80 = .ok (.iload_n 1, 1) := by decide +kernel
theorem dX11_means_81 : decode cX11_means 81 = .ok (.iload_n 2, 1) := by decide +kernel
theorem dX11_means_82 : decode cX11_means 82 = .ok (.invokevirtual 113, 3) := by decide +kernel
theorem dX11_means_85 : decode cX11_means 85 = .ok (.ifCond .ne 5, 3) := by decide +kernel
theorem dX11_means_88 : decode cX11_means 88 = .ok (.iconst (-1), 1) := by decide +kernel
theorem dX11_means_89 : decode cX11_means 89 = .ok (.ireturn, 1) := by decide +kernel
theorem dX11_means_90 : decode cX11_means 90 = .ok (.aload_n 0, 1) := by decide +kernel
theorem dX11_means_91 : decode cX11_means 91 = .ok (.getfield 39, 3) := by decide +kernel
theorem dX11_means_94 : decode cX11_means 94 = .ok (.aload_n 0, 1) := by decide +kernel
theorem dX11_means_95 : decode cX11_means 95 = .ok (.getfield 9, 3) := by decide +kernel
theorem dX11_means_98 : decode cX11_means 98 = .ok (.iload_n 1, 1) := by decide +kernel
theorem dX11_means_99 : decode cX11_means 99 = .ok (.iload_n 2, 1) := by decide +kernel
theorem dX11_means_100 : decode cX11_means 100 = .ok (.invokevirtual 117, 3) := by decide +kernel
theorem dX11_means_103 : decode cX11_means 103 = .ok (.istore 4, 2) := by decide +kernel
theorem dX11_means_105 : decode cX11_means 105 = .ok (.iload 4, 2) := by decide +kernel
theorem dX11_means_107 : decode cX11_means 107 = .ok (.iconst (-1), 1) := by decide +kernel
theorem dX11_means_108 : decode cX11_means 108 = .ok (.if_icmp .ne 5, 3) := by decide +kernel
theorem dX11_means_111 : decode cX11_means 111 = .ok (.iconst 0, 1) := by decide +kernel
theorem dX11_means_112 : decode cX11_means 112 = .ok (.ireturn, 1) := by decide +kernel
theorem dX11_means_113 : decode cX11_means 113 = .ok (.iload 4, 2) := by decide +kernel
theorem dX11_means_115 : decode cX11_means 115 = .ok (.bipush 6, 2) := by decide +kernel
theorem dX11_means_117 : decode cX11_means 117 = .ok (.if_icmp .gt 5, 3) := by decide +kernel
theorem dX11_means_120 : decode cX11_means 120 = .ok (.iconst 1, 1) := by decide +kernel
theorem dX11_means_121 : decode cX11_means 121 = .ok (.ireturn, 1) := by decide +kernel
theorem dX11_means_122 : decode cX11_means 122 = .ok (.aload_n 0, 1) := by decide +kernel
theorem dX11_means_123 : decode cX11_means 123 = .ok (.getfield 16, 3) := by decide +kernel
theorem dX11_means_126 : decode cX11_means 126 = .ok (.iload 4, 2) := by decide +kernel
theorem dX11_means_128 : decode cX11_means 128 = .ok (.invokevirtual 120, 3) := by decide +kernel
theorem dX11_means_131 : decode cX11_means 131 = .ok (.iconst (-1), 1) := by decide +kernel
theorem dX11_means_132 : decode cX11_means 132 = .ok (.if_icmp .ne 7, 3) := by decide +kernel
theorem dX11_means_135 : decode cX11_means 135 = .ok (.iconst 0, 1) := by decide +kernel
theorem dX11_means_136 : decode cX11_means 136 = .ok (.goto 4, 3) := by decide +kernel
theorem dX11_means_139 : decode cX11_means 139 = .ok (.iconst 2, 1) := by decide +kernel
theorem dX11_means_140 : decode cX11_means 140 = .ok (.ireturn, 1) := by decide +kernel
theorem dX11_check_0 : decode cX11_check 0 = .ok (.aload_n 0, 1) := by decide +kernel
theorem dX11_check_1 : decode cX11_check 1 = .ok (.getfield 30, 3) := by decide +kernel
theorem dX11_check_4 : decode cX11_check 4 = .ok (.invokevirtual 123, 3) := by decide +kernel
theorem dX11_check_7 : decode cX11_check 7 = .ok (.ifCond .eq 7, 3) := by decide +kernel
theorem dX11_check_10 : decode cX11_check 10 = .ok (.iconst 1, 1) := by decide +kernel
theorem dX11_check_11 : decode cX11_check 11 = .ok (.goto 4, 3) := by decide +kernel
theorem dX11_check_14 : decode cX11_check 14 = .ok (.iconst 0, 1) := by decide +kernel
theorem dX11_check_15 : decode cX11_check 15 = .ok (.ireturn, 1) := by decide +kernel
theorem dX11_byteOf_0 : decode cX11_byteOf 0 = .ok (.lload_n 0, 1) := by decide +kernel
theorem dX11_byteOf_1 : decode cX11_byteOf 1 = .ok (.bipush 8, 2) := by decide +kernel
theorem dX11_byteOf_3 : decode cX11_byteOf 3 = .ok (.iload_n 2, 1) := by decide +kernel
theorem dX11_byteOf_4 : decode cX11_byteOf 4 = .ok (.imul, 1) := by decide +kernel
theorem dX11_byteOf_5 : decode cX11_byteOf 5 = .ok (.lushr, 1) := by decide +kernel
theorem dX11_byteOf_6 : decode cX11_byteOf 6 = .ok (.l2i, 1) := by decide +kernel
theorem dX11_byteOf_7 : decode cX11_byteOf 7 = .ok (.sipush 255, 3) := by decide +kernel
theorem dX11_byteOf_10 : decode cX11_byteOf 10 = .ok (.iand, 1) := by decide +kernel
theorem dX11_byteOf_11 : decode cX11_byteOf 11 = .ok (.ireturn, 1) := by decide +kernel
theorem dX11_takeText_0 : decode cX11_takeText 0 = .ok (.aload_n 0, 1) := by decide +kernel
theorem dX11_takeText_1 : decode cX11_takeText 1 = .ok (.getfield 30, 3) := by decide +kernel
theorem dX11_takeText_4 : decode cX11_takeText 4 = .ok (.invokevirtual 127, 3) := by decide +kernel
theorem dX11_takeText_7 : decode cX11_takeText 7 = .ok (.aload_n 0, 1) := by decide +kernel
theorem dX11_takeText_8 : decode cX11_takeText 8 = .ok (.aload_n 0, 1) := by decide +kernel
theorem dX11_takeText_9 : decode cX11_takeText 9 = .ok (.getfield 48, 3) := by decide +kernel
theorem dX11_takeText_12 : decode cX11_takeText 12 = .ok (.getfield 130, 3) := by decide +kernel
theorem dX11_takeText_15 : decode cX11_takeText 15 = .ok (.putfield 59, 3) := by decide +kernel
theorem dX11_takeText_18 : decode cX11_takeText 18 = .ok (.aload_n 0, 1) := by decide +kernel
theorem dX11_takeText_19 : decode cX11_takeText 19 = .ok (.aload_n 0, 1) := by decide +kernel
theorem dX11_takeText_20 : decode cX11_takeText 20 = .ok (.getfield 48, 3) := by decide +kernel
theorem dX11_takeText_23 : decode cX11_takeText 23 = .ok (.getfield 131, 3) := by decide +kernel
theorem dX11_takeText_26 : decode cX11_takeText 26 = .ok (.putfield 62, 3) := by decide +kernel
theorem dX11_takeText_29 : decode cX11_takeText 29 = .ok (.aload_n 0, 1) := by decide +kernel
theorem dX11_takeText_30 : decode cX11_takeText 30 = .ok (.aload_n 0, 1) := by decide +kernel
theorem dX11_takeText_31 : decode cX11_takeText 31 = .ok (.getfield 48, 3) := by decide +kernel
theorem dX11_takeText_34 : decode cX11_takeText 34 = .ok (.getfield 88, 3) := by decide +kernel
theorem dX11_takeText_37 : decode cX11_takeText 37 = .ok (.iconst 1, 1) := by decide +kernel
theorem dX11_takeText_38 : decode cX11_takeText 38 = .ok (.iadd, 1) := by decide +kernel
theorem dX11_takeText_39 : decode cX11_takeText 39 = .ok (.putfield 65, 3) := by decide +kernel
theorem dX11_takeText_42 : decode cX11_takeText 42 = .ok (.aload_n 0, 1) := by decide +kernel
theorem dX11_takeText_43 : decode cX11_takeText 43 = .ok (.getfield 16, 3) := by decide +kernel
theorem dX11_takeText_46 : decode cX11_takeText 46 = .ok (.iload_n 1, 1) := by decide +kernel
theorem dX11_takeText_47 : decode cX11_takeText 47 = .ok (.invokevirtual 132, 3) := by decide +kernel
theorem dX11_takeText_50 : decode cX11_takeText 50 = .ok (.return_, 1) := by decide +kernel
theorem dX12_init_0 : decode cX12_init 0 = .ok (.aload_n 0, 1) := by decide +kernel
theorem dX12_init_1 : decode cX12_init 1 = .ok (.invokespecial 1, 3) := by decide +kernel
theorem dX12_init_4 : decode cX12_init 4 = .ok (.aload_n 0, 1) := by decide +kernel
theorem dX12_init_5 : decode cX12_init 5 = .ok (.sipush 3000, 3) := by decide +kernel
theorem dX12_init_8 : decode cX12_init 8 = .ok (.newarray .byte, 2) := by decide +kernel
theorem dX12_init_10 : decode cX12_init 10 = .ok (.putfield 7, 3) := by decide +kernel
theorem dX12_init_13 : decode cX12_init 13 = .ok (.aload_n 0, 1) := by decide +kernel
theorem dX12_init_14 : decode cX12_init 14 = .ok (.iconst (-1), 1) := by decide +kernel
theorem dX12_init_15 : decode cX12_init 15 = .ok (.putfield 13, 3) := by decide +kernel
theorem dX12_init_18 : decode cX12_init 18 = .ok (.aload_n 0, 1) := by decide +kernel
theorem dX12_init_19 : decode cX12_init 19 = .ok (.ldc 17, 2) := by decide +kernel
theorem dX12_init_21 : decode cX12_init 21 = .ok (.newarray .byte, 2) := by decide +kernel
theorem dX12_init_23 : decode cX12_init 23 = .ok (.putfield 18, 3) := by decide +kernel
theorem dX12_init_26 : decode cX12_init 26 = .ok (.aload_n 0, 1) := by decide +kernel
theorem dX12_init_27 : decode cX12_init 27 = .ok (.sipush 5001, 3) := by decide +kernel
theorem dX12_init_30 : decode cX12_init 30 = .ok (.newarray .int, 2) := by decide +kernel
theorem dX12_init_32 : decode cX12_init 32 = .ok (.putfield 21, 3) := by decide +kernel
theorem dX12_init_35 : decode cX12_init 35 = .ok (.aload_n 0, 1) := by decide +kernel
theorem dX12_init_36 : decode cX12_init 36 = .ok (.sipush 5000, 3) := by decide +kernel
theorem dX12_init_39 : decode cX12_init 39 = .ok (.newarray .int, 2) := by decide +kernel
theorem dX12_init_41 : decode cX12_init 41 = .ok (.putfield 25, 3) := by decide +kernel
theorem dX12_init_44 : decode cX12_init 44 = .ok (.aload_n 0, 1) := by decide +kernel
theorem dX12_init_45 : decode cX12_init 45 = .ok (.sipush 5000, 3) := by decide +kernel
theorem dX12_init_48 : decode cX12_init 48 = .ok (.newarray .int, 2) := by decide +kernel
theorem dX12_init_50 : decode cX12_init 50 = .ok (.putfield 28, 3) := by decide +kernel
theorem dX12_init_53 : decode cX12_init 53 = .ok (.aload_n 0, 1) := by decide +kernel
theorem dX12_init_54 : decode cX12_init 54 = .ok (.ldc 31, 2) := by decide +kernel
theorem dX12_init_56 : decode cX12_init 56 = .ok (.newarray .byte, 2) := by decide +kernel
theorem dX12_init_58 : decode cX12_init 58 = .ok (.putfield 32, 3) := by decide +kernel
theorem dX12_init_61 : decode cX12_init 61 = .ok (.aload_n 0, 1) := by decide +kernel
theorem dX12_init_62 : decode cX12_init 62 = .ok (.ldc 31, 2) := by decide +kernel
theorem dX12_init_64 : decode cX12_init 64 = .ok (.newarray .int, 2) := by decide +kernel
theorem dX12_init_66 : decode cX12_init 66 = .ok (.putfield 35, 3) := by decide +kernel
theorem dX12_init_69 : decode cX12_init 69 = .ok (.aload_n 0, 1) := by decide +kernel
theorem dX12_init_70 : decode cX12_init 70 = .ok (.ldc 31, 2) := by decide +kernel
theorem dX12_init_72 : decode cX12_init 72 = .ok (.newarray .int, 2) := by decide +kernel
theorem dX12_init_74 : decode cX12_init 74 = .ok (.putfield 38, 3) := by decide +kernel
theorem dX12_init_77 : decode cX12_init 77 = .ok (.aload_n 0, 1) := by decide +kernel
theorem dX12_init_78 : decode cX12_init 78 = .ok (.ldc 31, 2) := by decide +kernel
theorem dX12_init_80 : decode cX12_init 80 = .ok (.newarray .int, 2) := by decide +kernel
theorem dX12_init_82 : decode cX12_init 82 = .ok (.putfield 41, 3) := by decide +kernel
theorem dX12_init_85 : decode cX12_init 85 = .ok (.aload_n 0, 1) := by decide +kernel
theorem dX12_init_86 : decode cX12_init 86 = .ok (.ldc 44, 2) := by decide +kernel
theorem dX12_init_88 : decode cX12_init 88 = .ok (.newarray .int, 2) := by decide +kernel
theorem dX12_init_90 : decode cX12_init 90 = .ok (.putfield 45, 3) := by decide +kernel
theorem dX12_init_93 : decode cX12_init 93 = .ok (.aload_n 0, 1) := by decide +kernel
theorem dX12_init_94 : decode cX12_init 94 = .ok (.ldc 44, 2) := by decide +kernel
theorem dX12_init_96 : decode cX12_init 96 = .ok (.newarray .int, 2) := by decide +kernel
theorem dX12_init_98 : decode cX12_init 98 = .ok (.putfield 48, 3) := by decide +kernel
theorem dX12_init_101 : decode cX12_init 101 = .ok (.aload_n 0, 1) := by decide +kernel
theorem dX12_init_102 : decode cX12_init 102 = .ok (.sipush 260, 3) := by decide +kernel
theorem dX12_init_105 : decode cX12_init 105 = .ok (.newarray .int, 2) := by decide +kernel
theorem dX12_init_107 : decode cX12_init 107 = .ok (.putfield 51, 3) := by decide +kernel
theorem dX12_init_110 : decode cX12_init 110 = .ok (.aload_n 0, 1) := by decide +kernel
theorem dX12_init_111 : decode cX12_init 111 = .ok (.sipush 261, 3) := by decide +kernel
theorem dX12_init_114 : decode cX12_init 114 = .ok (.newarray .int, 2) := by decide +kernel
theorem dX12_init_116 : decode cX12_init 116 = .ok (.putfield 54, 3) := by decide +kernel
theorem dX12_init_119 : decode cX12_init 119 = .ok (.aload_n 0, 1) := by decide +kernel
theorem dX12_init_120 : decode cX12_init 120 = .ok (.sipush 1600, 3) := by decide +kernel
theorem dX12_init_123 : decode cX12_init 123 = .ok (.newarray .int, 2) := by decide +kernel
theorem dX12_init_125 : decode cX12_init 125 = .ok (.putfield 57, 3) := by decide +kernel
theorem dX12_init_128 : decode cX12_init 128 = .ok (.aload_n 0, 1) := by decide +kernel
theorem dX12_init_129 : decode cX12_init 129 = .ok (.sipush 1600, 3) := by decide +kernel
theorem dX12_init_132 : decode cX12_init 132 = .ok (.newarray .int, 2) := by decide +kernel
theorem dX12_init_134 : decode cX12_init 134 = .ok (.putfield 60, 3) := by decide +kernel
theorem dX12_init_137 : decode cX12_init 137 = .ok (.aload_n 0, 1) := by decide +kernel
theorem dX12_init_138 : decode cX12_init 138 = .ok (.sipush 1600, 3) := by decide +kernel
theorem dX12_init_141 : decode cX12_init 141 = .ok (.newarray .int, 2) := by decide +kernel
theorem dX12_init_143 : decode cX12_init 143 = .ok (.putfield 63, 3) := by decide +kernel
theorem dX12_init_146 : decode cX12_init 146 = .ok (.aload_n 0, 1) := by decide +kernel
theorem dX12_init_147 : decode cX12_init 147 = .ok (.ldc 66, 2) := by decide +kernel
theorem dX12_init_149 : decode cX12_init 149 = .ok (.newarray .byte, 2) := by decide +kernel
theorem dX12_init_151 : decode cX12_init 151 = .ok (.putfield 67, 3) := by decide +kernel
theorem dX12_init_154 : decode cX12_init 154 = .ok (.aload_n 0, 1) := by decide +kernel
theorem dX12_init_155 : decode cX12_init 155 = .ok (.ldc 66, 2) := by decide +kernel
theorem dX12_init_157 : decode cX12_init 157 = .ok (.newarray .int, 2) := by decide +kernel
theorem dX12_init_159 : decode cX12_init 159 = .ok (.putfield 70, 3) := by decide +kernel
theorem dX12_init_162 : decode cX12_init 162 = .ok (.aload_n 0, 1) := by decide +kernel
theorem dX12_init_163 : decode cX12_init 163 = .ok (.ldc 66, 2) := by decide +kernel
theorem dX12_init_165 : decode cX12_init 165 = .ok (.newarray .int, 2) := by decide +kernel
theorem dX12_init_167 : decode cX12_init 167 = .ok (.putfield 73, 3) := by decide +kernel
theorem dX12_init_170 : decode cX12_init 170 = .ok (.aload_n 0, 1) := by decide +kernel
theorem dX12_init_171 : decode cX12_init 171 = .ok (.ldc 66, 2) := by decide +kernel
theorem dX12_init_173 : decode cX12_init 173 = .ok (.newarray .int, 2) := by decide +kernel
theorem dX12_init_175 : decode cX12_init 175 = .ok (.putfield 76, 3) := by decide +kernel
theorem dX12_init_178 : decode cX12_init 178 = .ok (.aload_n 0, 1) := by decide +kernel
theorem dX12_init_179 : decode cX12_init 179 = .ok (.sipush 4000, 3) := by decide +kernel
theorem dX12_init_182 : decode cX12_init 182 = .ok (.newarray .byte, 2) := by decide +kernel
theorem dX12_init_184 : decode cX12_init 184 = .ok (.putfield 79, 3) := by decide +kernel
theorem dX12_init_187 : decode cX12_init 187 = .ok (.aload_n 0, 1) := by decide +kernel
theorem dX12_init_188 : decode cX12_init 188 = .ok (.sipush 4000, 3) := by decide +kernel
theorem dX12_init_191 : decode cX12_init 191 = .ok (.newarray .byte, 2) := by decide +kernel
theorem dX12_init_193 : decode cX12_init 193 = .ok (.putfield 82, 3) := by decide +kernel
theorem dX12_init_196 : decode cX12_init 196 = .ok (.aload_n 0, 1) := by decide +kernel
theorem dX12_init_197 : decode cX12_init 197 = .ok (.sipush 3001, 3) := by decide +kernel
theorem dX12_init_200 : decode cX12_init 200 = .ok (.newarray .int, 2) := by decide +kernel
theorem dX12_init_202 : decode cX12_init 202 = .ok (.putfield 85, 3) := by decide +kernel
theorem dX12_init_205 : decode cX12_init 205 = .ok (.aload_n 0, 1) := by decide +kernel
theorem dX12_init_206 : decode cX12_init 206 = .ok (.bipush 110, 2) := by decide +kernel
theorem dX12_init_208 : decode cX12_init 208 = .ok (.newarray .int, 2) := by decide +kernel
theorem dX12_init_210 : decode cX12_init 210 = .ok (.putfield 88, 3) := by decide +kernel
theorem dX12_init_213 : decode cX12_init 213 = .ok (.aload_n 0, 1) := by decide +kernel
theorem dX12_init_214 : decode cX12_init 214 = .ok (.sipush 1600, 3) := by decide +kernel
theorem dX12_init_217 : decode cX12_init 217 = .ok (.newarray .int, 2) := by decide +kernel
theorem dX12_init_219 : decode cX12_init 219 = .ok (.putfield 91, 3) := by decide +kernel
theorem dX12_init_222 : decode cX12_init 222 = .ok (.aload_n 0, 1) := by decide +kernel
theorem dX12_init_223 : decode cX12_init 223 = .ok (.sipush 1600, 3) := by decide +kernel
theorem dX12_init_226 : decode cX12_init 226 = .ok (.newarray .boolean, 2) := by decide +kernel
theorem dX12_init_228 : decode cX12_init 228 = .ok (.putfield 94, 3) := by decide +kernel
theorem dX12_init_231 : decode cX12_init 231 = .ok (.aload_n 0, 1) := by decide +kernel
theorem dX12_init_232 : decode cX12_init 232 = .ok (.ldc 31, 2) := by decide +kernel
theorem dX12_init_234 : decode cX12_init 234 = .ok (.newarray .int, 2) := by decide +kernel
theorem dX12_init_236 : decode cX12_init 236 = .ok (.putfield 98, 3) := by decide +kernel
theorem dX12_init_239 : decode cX12_init 239 = .ok (.aload_n 0, 1) := by decide +kernel
theorem dX12_init_240 : decode cX12_init 240 = .ok (.ldc 31, 2) := by decide +kernel
theorem dX12_init_242 : decode cX12_init 242 = .ok (.newarray .int, 2) := by decide +kernel
theorem dX12_init_244 : decode cX12_init 244 = .ok (.putfield 101, 3) := by decide +kernel
theorem dX12_init_247 : decode cX12_init 247 = .ok (.aload_n 0, 1) := by decide +kernel
theorem dX12_init_248 : decode cX12_init 248 = .ok (.ldc 31, 2) := by decide +kernel
theorem dX12_init_250 : decode cX12_init 250 = .ok (.newarray .int, 2) := by decide +kernel
theorem dX12_init_252 : decode cX12_init 252 = .ok (.putfield 104, 3) := by decide +kernel
theorem dX12_init_255 : decode cX12_init 255 = .ok (.aload_n 0, 1) := by decide +kernel
theorem dX12_init_256 : decode cX12_init 256 = .ok (.ldc 31, 2) := by decide +kernel
theorem dX12_init_258 : decode cX12_init 258 = .ok (.newarray .int, 2) := by decide +kernel
theorem dX12_init_260 : decode cX12_init 260 = .ok (.putfield 107, 3) := by decide +kernel
theorem dX12_init_263 : decode cX12_init 263 = .ok (.aload_n 0, 1) := by decide +kernel
theorem dX12_init_264 : decode cX12_init 264 = .ok (.sipush 1600, 3) := by decide +kernel
theorem dX12_init_267 : decode cX12_init 267 = .ok (.newarray .int, 2) := by decide +kernel
theorem dX12_init_269 : decode cX12_init 269 = .ok (.putfield 110, 3) := by decide +kernel
theorem dX12_init_272 : decode cX12_init 272 = .ok (.aload_n 0, 1) := by decide +kernel
theorem dX12_init_273 : decode cX12_init 273 = .ok (.sipush 1600, 3) := by decide +kernel
theorem dX12_init_276 : decode cX12_init 276 = .ok (.newarray .int, 2) := by decide +kernel
theorem dX12_init_278 : decode cX12_init 278 = .ok (.putfield 113, 3) := by decide +kernel
theorem dX12_init_281 : decode cX12_init 281 = .ok (.aload_n 0, 1) := by decide +kernel
theorem dX12_init_282 : decode cX12_init 282 = .ok (.ldc 31, 2) := by decide +kernel
theorem dX12_init_284 : decode cX12_init 284 = .ok (.newarray .int, 2) := by decide +kernel
theorem dX12_init_286 : decode cX12_init 286 = .ok (.putfield 116, 3) := by decide +kernel
theorem dX12_init_289 : decode cX12_init 289 = .ok (.aload_n 0, 1) := by decide +kernel
theorem dX12_init_290 : decode cX12_init 290 = .ok (.sipush 4200, 3) := by decide +kernel
theorem dX12_init_293 : decode cX12_init 293 = .ok (.newarray .byte, 2) := by decide +kernel
theorem dX12_init_295 : decode cX12_init 295 = .ok (.putfield 119, 3) := by decide +kernel
theorem dX12_init_298 : decode cX12_init 298 = .ok (.aload_n 0, 1) := by decide +kernel
theorem dX12_init_299 : decode cX12_init 299 = .ok (.sipush 4200, 3) := by decide +kernel
theorem dX12_init_302 : decode cX12_init 302 = .ok (.newarray .int, 2) := by decide +kernel
theorem dX12_init_304 : decode cX12_init 304 = .ok (.putfield 122, 3) := by decide +kernel
theorem dX12_init_307 : decode cX12_init 307 = .ok (.aload_n 0, 1) := by decide +kernel
theorem dX12_init_308 : decode cX12_init 308 = .ok (.sipush 4200, 3) := by decide +kernel
theorem dX12_init_311 : decode cX12_init 311 = .ok (.newarray .int, 2) := by decide +kernel
theorem dX12_init_313 : decode cX12_init 313 = .ok (.putfield 125, 3) := by decide +kernel
theorem dX12_init_316 : decode cX12_init 316 = .ok (.aload_n 0, 1) := by decide +kernel
theorem dX12_init_317 : decode cX12_init 317 = .ok (.sipush 4200, 3) := by decide +kernel
theorem dX12_init_320 : decode cX12_init 320 = .ok (.newarray .int, 2) := by decide +kernel
theorem dX12_init_322 : decode cX12_init 322 = .ok (.putfield 128, 3) := by decide +kernel
theorem dX12_init_325 : decode cX12_init 325 = .ok (.aload_n 0, 1) := by decide +kernel
theorem dX12_init_326 : decode cX12_init 326 = .ok (.ldc2_w 131, 3) := by decide +kernel
theorem dX12_init_329 : decode cX12_init 329 = .ok (.bipush 6, 2) := by decide +kernel
theorem dX12_init_331 : decode cX12_init 331 = .ok (.invokevirtual 133, 3) := by decide +kernel
theorem dX12_init_334 : decode cX12_init 334 = .ok (.aload_n 0, 1) := by decide +kernel
theorem dX12_init_335 : decode cX12_init 335 = .ok (.ldc2_w 137, 3) := by decide +kernel
theorem dX12_init_338 : decode cX12_init 338 = .ok (.iconst 2, 1) := by decide +kernel
theorem dX12_init_339 : decode cX12_init 339 = .ok (.invokevirtual 133, 3) := by decide +kernel
theorem dX12_init_342 : decode cX12_init 342 = .ok (.aload_n 0, 1) := by decide +kernel
theorem dX12_init_343 : decode cX12_init 343 = .ok (.ldc2_w 139, 3) := by decide +kernel
theorem dX12_init_346 : decode cX12_init 346 = .ok (.iconst 5, 1) := by decide +kernel
theorem dX12_init_347 : decode cX12_init 347 = .ok (.invokevirtual 133, 3) := by decide +kernel
theorem dX12_init_350 : decode cX12_init 350 = .ok (.aload_n 0, 1) := by decide +kernel
theorem dX12_init_351 : decode cX12_init 351 = .ok (.ldc2_w 141, 3) := by decide +kernel
theorem dX12_init_354 : decode cX12_init 354 = .ok (.iconst 5, 1) := by decide +kernel
theorem dX12_init_355 : decode cX12_init 355 = .ok (.invokevirtual 133, 3) := by decide +kernel
theorem dX12_init_358 : decode cX12_init 358 = .ok (.aload_n 0, 1) := by decide +kernel
theorem dX12_init_359 : decode cX12_init 359 = .ok (.ldc2_w 143, 3) := by decide +kernel
theorem dX12_init_362 : decode cX12_init 362 = .ok (.iconst 5, 1) := by decide +kernel
theorem dX12_init_363 : decode cX12_init 363 = .ok (.invokevirtual 145, 3) := by decide +kernel
theorem dX12_init_366 : decode cX12_init 366 = .ok (.aload_n 0, 1) := by decide +kernel
theorem dX12_init_367 : decode cX12_init 367 = .ok (.ldc2_w 148, 3) := by decide +kernel
theorem dX12_init_370 : decode cX12_init 370 = .ok (.bipush 6, 2) := by decide +kernel
theorem dX12_init_372 : decode cX12_init 372 = .ok (.invokevirtual 133, 3) := by decide +kernel
theorem dX12_init_375 : decode cX12_init 375 = .ok (.aload_n 0, 1) := by decide +kernel
theorem dX12_init_376 : decode cX12_init 376 = .ok (.ldc2_w 150, 3) := by decide +kernel
theorem dX12_init_379 : decode cX12_init 379 = .ok (.bipush 6, 2) := by decide +kernel
theorem dX12_init_381 : decode cX12_init 381 = .ok (.invokevirtual 145, 3) := by decide +kernel
theorem dX12_init_384 : decode cX12_init 384 = .ok (.aload_n 0, 1) := by decide +kernel
theorem dX12_init_385 : decode cX12_init 385 = .ok (.ldc2_w 152, 3) := by decide +kernel
theorem dX12_init_388 : decode cX12_init 388 = .ok (.bipush 6, 2) := by decide +kernel
theorem dX12_init_390 : decode cX12_init 390 = .ok (.invokevirtual 133, 3) := by decide +kernel
theorem dX12_init_393 : decode cX12_init 393 = .ok (.aload_n 0, 1) := by decide +kernel
theorem dX12_init_394 : decode cX12_init 394 = .ok (.ldc2_w 152, 3) := by decide +kernel
theorem dX12_init_397 : decode cX12_init 397 = .ok (.bipush 6, 2) := by decide +kernel
theorem dX12_init_399 : decode cX12_init 399 = .ok (.invokevirtual 133, 3) := by decide +kernel
theorem dX12_init_402 : decode cX12_init 402 = .ok (.aload_n 0, 1) := by decide +kernel
theorem dX12_init_403 : decode cX12_init 403 = .ok (.ldc2_w 154, 3) := by decide +kernel
theorem dX12_init_406 : decode cX12_init 406 = .ok (.iconst 4, 1) := by decide +kernel
theorem dX12_init_407 : decode cX12_init 407 = .ok (.invokevirtual 145, 3) := by decide +kernel
theorem dX12_init_410 : decode cX12_init 410 = .ok (.aload_n 0, 1) := by decide +kernel
theorem dX12_init_411 : decode cX12_init 411 = .ok (.ldc2_w 156, 3) := by decide +kernel
theorem dX12_init_414 : decode cX12_init 414 = .ok (.iconst 3, 1) := by decide +kernel
theorem dX12_init_415 : decode cX12_init 415 = .ok (.invokevirtual 145, 3) := by decide +kernel
theorem dX12_init_418 : decode cX12_init 418 = .ok (.aload_n 0, 1) := by decide +kernel
theorem dX12_init_419 : decode cX12_init 419 = .ok (.ldc2_w 158, 3) := by decide +kernel
theorem dX12_init_422 : decode cX12_init 422 = .ok (.iconst 3, 1) := by decide +kernel
theorem dX12_init_423 : decode cX12_init 423 = .ok (.invokevirtual 133, 3) := by decide +kernel
theorem dX12_init_426 : decode cX12_init 426 = .ok (.aload_n 0, 1) := by decide +kernel
theorem dX12_init_427 : decode cX12_init 427 = .ok (.ldc2_w 160, 3) := by decide +kernel
theorem dX12_init_430 : decode cX12_init 430 = .ok (.iconst 1, 1) := by decide +kernel
theorem dX12_init_431 : decode cX12_init 431 = .ok (.invokevirtual 133, 3) := by decide +kernel
theorem dX12_init_434 : decode cX12_init 434 = .ok (.aload_n 0, 1) := by decide +kernel
theorem dX12_init_435 : decode cX12_init 435 = .ok (.iconst 1, 1) := by decide +kernel
theorem dX12_init_436 : decode cX12_init 436 = .ok (.putfield 162, 3) := by decide +kernel
theorem dX12_init_439 : decode cX12_init 439 = .ok (.return_, 1) := by decide +kernel
theorem dX12_word_0 : decode cX12_word 0 = .ok (.aload_n 0, 1) := by decide +kernel
theorem dX12_word_1 : decode cX12_word 1 = .ok (.getfield 21, 3) := by decide +kernel
theorem dX12_word_4 : decode cX12_word 4 = .ok (.aload_n 0, 1) := by decide +kernel
theorem dX12_word_5 : decode cX12_word 5 = .ok (.getfield 165, 3) := by decide +kernel
theorem dX12_word_8 : decode cX12_word 8 = .ok (.iconst 1, 1) := by decide +kernel
theorem dX12_word_9 : decode cX12_word 9 = .ok (.iadd, 1) := by decide +kernel
theorem dX12_word_10 : decode cX12_word 10 = .ok (.aload_n 0, 1) := by decide +kernel
theorem dX12_word_11 : decode cX12_word 11 = .ok (.getfield 21, 3) := by decide +kernel
theorem dX12_word_14 : decode cX12_word 14 = .ok (.aload_n 0, 1) := by decide +kernel
theorem dX12_word_15 : decode cX12_word 15 = .ok (.getfield 165, 3) := by decide +kernel
theorem dX12_word_18 : decode cX12_word 18 = .ok (.iaload, 1) := by decide +kernel
theorem dX12_word_19 : decode cX12_word 19 = .ok (.iastore, 1) := by decide +kernel
theorem dX12_word_20 : decode cX12_word 20 = .ok (.aload_n 0, 1) := by decide +kernel
theorem dX12_word_21 : decode cX12_word 21 = .ok (.dup, 1) := by decide +kernel
theorem dX12_word_22 : decode cX12_word 22 = .ok (.getfield 165, 3) := by decide +kernel
theorem dX12_word_25 : decode cX12_word 25 = .ok (.iconst 1, 1) := by decide +kernel
theorem dX12_word_26 : decode cX12_word 26 = .ok (.iadd, 1) := by decide +kernel
theorem dX12_word_27 : decode cX12_word 27 = .ok (.putfield 165, 3) := by decide +kernel
theorem dX12_word_30 : decode cX12_word 30 = .ok (.aload_n 0, 1) := by decide +kernel
theorem dX12_word_31 : decode cX12_word 31 = .ok (.lload_n 1, 1) := by decide +kernel
theorem dX12_word_32 : decode cX12_word 32 = .ok (.iload_n 3, 1) := by decide +kernel
theorem dX12_word_33 : decode cX12_word 33 = .ok (.invokevirtual 145, 3) := by decide +kernel
theorem dX12_word_36 : decode cX12_word 36 = .ok (.return_, 1) := by decide +kernel
theorem dX12_more_0 : decode cX12_more 0 = .ok (.iload_n 3, 1) := by decide +kernel
theorem dX12_more_1 : decode cX12_more 1 = .ok (.iconst 1, 1) := by decide +kernel
theorem dX12_more_2 : decode cX12_more 2 = .ok (.isub, 1) := by decide +kernel
theorem dX12_more_3 : decode cX12_more 3 = .ok (.istore 4, 2) := by decide +kernel
theorem dX12_more_5 : decode cX12_more 5 = .ok (.iload 4, 2) := by decide +kernel
theorem dX12_more_7 : decode cX12_more 7 = .ok (.ifCond .lt 45, 3) := by decide +kernel
theorem dX12_more_10 : decode cX12_more 10 = .ok (.aload_n 0, 1) := by decide +kernel
theorem dX12_more_11 : decode cX12_more 11 = .ok (.getfield 18, 3) := by decide +kernel
theorem dX12_more_14 : decode cX12_more 14 = .ok (.aload_n 0, 1) := by decide +kernel
theorem dX12_more_15 : decode cX12_more 15 = .ok (.getfield 21, 3) := by decide +kernel
theorem dX12_more_18 : decode cX12_more 18 = .ok (.aload_n 0, 1) := by decide +kernel
theorem dX12_more_19 : decode cX12_more 19 = .ok (.getfield 165, 3) := by decide +kernel
theorem dX12_more_22 : decode cX12_more 22 = .ok (.iaload, 1) := by decide +kernel
theorem dX12_more_23 : decode cX12_more 23 = .ok (.lload_n 1, 1) := by decide +kernel
theorem dX12_more_24 : decode cX12_more 24 = .ok (.bipush 8, 2) := by decide +kernel
theorem dX12_more_26 : decode cX12_more 26 = .ok (.iload 4, 2) := by decide +kernel
theorem dX12_more_28 : decode cX12_more 28 = .ok (.imul, 1) := by decide +kernel
theorem dX12_more_29 : decode cX12_more 29 = .ok (.lshr, 1) := by decide +kernel
theorem dX12_more_30 : decode cX12_more 30 = .ok (.l2i, 1) := by decide +kernel
theorem dX12_more_31 : decode cX12_more 31 = .ok (.i2b, 1) := by decide +kernel
theorem dX12_more_32 : decode cX12_more 32 = .ok (.bastore, 1) := by decide +kernel
theorem dX12_more_33 : decode cX12_more 33 = .ok (.aload_n 0, 1) := by decide +kernel
theorem dX12_more_34 : decode cX12_more 34 = .ok (.getfield 21, 3) := by decide +kernel
theorem dX12_more_37 : decode cX12_more 37 = .ok (.aload_n 0, 1) := by decide +kernel
theorem dX12_more_38 : decode cX12_more 38 = .ok (.getfield 165, 3) := by decide +kernel
theorem dX12_more_41 : decode cX12_more 41 = .ok (.dup2, 1) := by decide +kernel
theorem dX12_more_42 : decode cX12_more 42 = .ok (.iaload, 1) := by decide +kernel
theorem dX12_more_43 : decode cX12_more 43 = .ok (.iconst 1, 1) := by decide +kernel
theorem dX12_more_44 : decode cX12_more 44 = .ok (.iadd, 1) := by decide +kernel
theorem dX12_more_45 : decode cX12_more 45 = .ok (.iastore, 1) := by decide +kernel
theorem dX12_more_46 : decode cX12_more 46 = .ok (.iinc 4 (-1), 3) := by decide +kernel
theorem dX12_more_49 : decode cX12_more 49 = .ok (.goto (-44), 3) := by decide +kernel
theorem dX12_more_52 : decode cX12_more 52 = .ok (.return_, 1) := by decide +kernel
theorem dX12_type_0 : decode cX12_type 0 = .ok (.aload_n 0, 1) := by decide +kernel
theorem dX12_type_1 : decode cX12_type 1 = .ok (.iconst 0, 1) := by decide +kernel
theorem dX12_type_2 : decode cX12_type 2 = .ok (.putfield 168, 3) := by decide +kernel
theorem dX12_type_5 : decode cX12_type 5 = .ok (.iload_n 3, 1) := by decide +kernel
theorem dX12_type_6 : decode cX12_type 6 = .ok (.iconst 1, 1) := by decide +kernel
theorem dX12_type_7 : decode cX12_type 7 = .ok (.if_icmp .lt 25, 3) := by decide +kernel
theorem dX12_type_10 : decode cX12_type 10 = .ok (.iload_n 3, 1) := by decide +kernel
theorem dX12_type_11 : decode cX12_type 11 = .ok (.bipush 8, 2) := by decide +kernel
theorem dX12_type_13 : decode cX12_type 13 = .ok (.if_icmp .gt 19, 3) := by decide +kernel
theorem dX12_type_16 : decode cX12_type 16 = .ok (.aload_n 0, 1) := by decide +kernel
theorem dX12_type_17 : decode cX12_type 17 = .ok (.getfield 171, 3) := by decide +kernel
theorem dX12_type_20 : decode cX12_type 20 = .ok (.iload_n 3, 1) := by decide +kernel
theorem dX12_type_21 : decode cX12_type 21 = .ok (.iadd, 1) := by decide +kernel
theorem dX12_type_22 : decode cX12_type 22 = .ok (.sipush 3000, 3) := by decide +kernel
theorem dX12_type_25 : decode cX12_type 25 = .ok (.if_icmp .gt 7, 3) := by decide +kernel
theorem dX12_type_28 : decode cX12_type 28 = .ok (.iconst 1, 1) := by decide +kernel
theorem dX12_type_29 : decode cX12_type 29 = .ok (.goto 4, 3) := by decide +kernel
theorem dX12_type_32 : decode cX12_type 32 = .ok (.iconst 0, 1) := by decide +kernel
theorem dX12_type_33 : decode cX12_type 33 = .ok (.istore 4, 2) := by decide +kernel
theorem dX12_type_35 : decode cX12_type 35 = .ok (.iconst 0, 1) := by decide +kernel
theorem dX12_type_36 : decode cX12_type 36 = .ok (.istore 5, 2) := by decide +kernel
theorem dX12_type_38 : decode cX12_type 38 = .ok (.iload 4, 2) := by decide +kernel
theorem dX12_type_40 : decode cX12_type 40 = .ok (.ifCond .eq 53, 3) := by decide +kernel
theorem dX12_type_43 : decode cX12_type 43 = .ok (.iload 5, 2) := by decide +kernel
theorem dX12_type_45 : decode cX12_type 45 = .ok (.iload_n 3, 1) := by decide +kernel
theorem dX12_type_46 : decode cX12_type 46 = .ok (.if_icmp .ge 47, 3) := by decide +kernel
theorem dX12_type_49 : decode cX12_type 49 = .ok (.lload_n 1, 1) := by decide +kernel
theorem dX12_type_50 : decode cX12_type 50 = .ok (.bipush 8, 2) := by decide +kernel
theorem dX12_type_52 : decode cX12_type 52 = .ok (.iload 5, 2) := by decide +kernel
theorem dX12_type_54 : decode cX12_type 54 = .ok (.imul, 1) := by decide +kernel
theorem dX12_type_55 : decode cX12_type 55 = .ok (.lshr, 1) := by decide +kernel
theorem dX12_type_56 : decode cX12_type 56 = .ok (.ldc2_w 174, 3) := by decide +kernel
theorem dX12_type_59 : decode cX12_type 59 = .ok (.land, 1) := by decide +kernel
theorem dX12_type_60 : decode cX12_type 60 = .ok (.lstore 6, 2) := by decide +kernel
theorem dX12_type_62 : decode cX12_type 62 = .ok (.lload 6, 2) := by decide +kernel
theorem dX12_type_64 : decode cX12_type 64 = .ok (.ldc2_w 176, 3) := by decide +kernel
theorem dX12_type_67 : decode cX12_type 67 = .ok (.lcmp, 1) := by decide +kernel
theorem dX12_type_68 : decode cX12_type 68 = .ok (.ifCond .lt 16, 3) := by decide +kernel
theorem dX12_type_71 : decode cX12_type 71 = .ok (.lload 6, 2) := by decide +kernel
theorem dX12_type_73 : decode cX12_type 73 = .ok (.ldc2_w 178, 3) := by decide +kernel
theorem dX12_type_76 : decode cX12_type 76 = .ok (.lcmp, 1) := by decide +kernel
theorem dX12_type_77 : decode cX12_type 77 = .ok (.ifCond .gt 7, 3) := by decide +kernel
theorem dX12_type_80 : decode cX12_type 80 = .ok (.iconst 1, 1) := by decide +kernel
theorem dX12_type_81 : decode cX12_type 81 = .ok (.goto 4, 3) := by decide +kernel
theorem dX12_type_84 : decode cX12_type 84 = .ok (.iconst 0, 1) := by decide +kernel
theorem dX12_type_85 : decode cX12_type 85 = .ok (.istore 4, 2) := by decide +kernel
theorem dX12_type_87 : decode cX12_type 87 = .ok (.iinc 5 1, 3) := by decide +kernel
theorem dX12_type_90 : decode cX12_type 90 = .ok (.goto (-52), 3) := by decide +kernel
theorem dX12_type_93 : decode cX12_type 93 = .ok (.iload 4, 2) := by decide +kernel
theorem dX12_type_95 : decode cX12_type 95 = .ok (.ifCond .ne 5, 3) := by decide +kernel
theorem dX12_type_98 : decode cX12_type 98 = .ok (.iconst (-1), 1) := by decide +kernel
theorem dX12_type_99 : decode cX12_type 99 = .ok (.ireturn, 1) := by decide +kernel
theorem dX12_type_100 : decode cX12_type 100 = .ok (.iload_n 3, 1) := by decide +kernel
theorem dX12_type_101 : decode cX12_type 101 = .ok (.iconst 1, 1) := by decide +kernel
theorem dX12_type_102 : decode cX12_type 102 = .ok (.isub, 1) := by decide +kernel
theorem dX12_type_103 : decode cX12_type 103 = .ok (.istore 5, 2) := by decide +kernel
theorem dX12_type_105 : decode cX12_type 105 = .ok (.iload 5, 2) := by decide +kernel
theorem dX12_type_107 : decode cX12_type 107 = .ok (.ifCond .lt 37, 3) := by decide +kernel
theorem dX12_type_110 : decode cX12_type 110 = .ok (.aload_n 0, 1) := by decide +kernel
theorem dX12_type_111 : decode cX12_type 111 = .ok (.getfield 7, 3) := by decide +kernel
theorem dX12_type_114 : decode cX12_type 114 = .ok (.aload_n 0, 1) := by decide +kernel
theorem dX12_type_115 : decode cX12_type 115 = .ok (.getfield 171, 3) := by decide +kernel
theorem dX12_type_118 : decode cX12_type 118 = .ok (.lload_n 1, 1) := by decide +kernel
theorem dX12_type_119 : decode cX12_type 119 = .ok (.bipush 8, 2) := by decide +kernel
theorem dX12_type_121 : decode cX12_type 121 = .ok (.iload 5, 2) := by decide +kernel
theorem dX12_type_123 : decode cX12_type 123 = .ok (.imul, 1) := by decide +kernel
theorem dX12_type_124 : decode cX12_type 124 = .ok (.lshr, 1) := by decide +kernel
theorem dX12_type_125 : decode cX12_type 125 = .ok (.l2i, 1) := by decide +kernel
theorem dX12_type_126 : decode cX12_type 126 = .ok (.i2b, 1) := by decide +kernel
theorem dX12_type_127 : decode cX12_type 127 = .ok (.bastore, 1) := by decide +kernel
theorem dX12_type_128 : decode cX12_type 128 = .ok (.aload_n 0, 1) := by decide +kernel
theorem dX12_type_129 : decode cX12_type 129 = .ok (.dup, 1) := by decide +kernel
theorem dX12_type_130 : decode cX12_type 130 = .ok (.getfield 171, 3) := by decide +kernel
theorem dX12_type_133 : decode cX12_type 133 = .ok (.iconst 1, 1) := by decide +kernel
theorem dX12_type_134 : decode cX12_type 134 = .ok (.iadd, 1) := by decide +kernel
theorem dX12_type_135 : decode cX12_type 135 = .ok (.putfield 171, 3) := by decide +kernel
theorem dX12_type_138 : decode cX12_type 138 = .ok (.iinc 5 (-1), 3) := by decide +kernel
theorem dX12_type_141 : decode cX12_type 141 = .ok (.goto (-36), 3) := by decide +kernel
theorem dX12_type_144 : decode cX12_type 144 = .ok (.aload_n 0, 1) := by decide +kernel
theorem dX12_type_145 : decode cX12_type 145 = .ok (.getfield 171, 3) := by decide +kernel
theorem dX12_type_148 : decode cX12_type 148 = .ok (.ireturn, 1) := by decide +kernel
theorem dX12_parse_0 : decode cX12_parse 0 = .ok (.aload_n 0, 1) := by decide +kernel
theorem dX12_parse_1 : decode cX12_parse 1 = .ok (.iconst 0, 1) := by decide +kernel
theorem dX12_parse_2 : decode cX12_parse 2 = .ok (.putfield 203, 3) := by decide +kernel
theorem dX12_parse_5 : decode cX12_parse 5 = .ok (.iconst 0, 1) := by decide +kernel
theorem dX12_parse_6 : decode cX12_parse 6 = .ok (.istore_n 1, 1) := by decide +kernel
theorem dX12_parse_7 : decode cX12_parse 7 = .ok (.iconst 0, 1) := by decide +kernel
theorem dX12_parse_8 : decode cX12_parse 8 = .ok (.istore_n 2, 1) := by decide +kernel
theorem dX12_parse_9 : decode cX12_parse 9 = .ok (.iconst 1, 1) := by decide +kernel
theorem dX12_parse_10 : decode cX12_parse 10 = .ok (.istore_n 3, 1) := by decide +kernel
theorem dX12_parse_11 : decode cX12_parse 11 = .ok (.iload_n 2, 1) := by decide +kernel
theorem dX12_parse_12 : decode cX12_parse 12 = .ok (.aload_n 0, 1) := by decide +kernel
theorem dX12_parse_13 : decode cX12_parse 13 = .ok (.getfield 171, 3) := by decide +kernel
theorem dX12_parse_16 : decode cX12_parse 16 = .ok (.if_icmp .ge 171, 3) := by decide +kernel
theorem dX12_parse_19 : decode cX12_parse 19 = .ok (.iload_n 3, 1) := by decide +kernel
theorem dX12_parse_20 : decode cX12_parse 20 = .ok (.ifCond .eq 167, 3) := by decide +kernel
theorem dX12_parse_23 : decode cX12_parse 23 = .ok (.aload_n 0, 1) := by decide +kernel
theorem dX12_parse_24 : decode cX12_parse 24 = .ok (.getfield 7, 3) := by decide +kernel
theorem dX12_parse_27 : decode cX12_parse 27 = .ok (.iload_n 2, 1) := by decide +kernel
theorem dX12_parse_28 : decode cX12_parse 28 = .ok (.baload, 1) := by decide +kernel
theorem dX12_parse_29 : decode cX12_parse 29 = .ok (.istore 4, 2) := by decide +kernel
theorem dX12_parse_31 : decode cX12_parse 31 = .ok (.iload 4, 2) := by decide +kernel
theorem dX12_parse_33 : decode cX12_parse 33 = .ok (.bipush 40, 2) := by decide +kernel
theorem dX12_parse_35 : decode cX12_parse 35 = .ok (.if_icmp .ne 35, 3) := by decide +kernel
theorem dX12_parse_38 : decode cX12_parse 38 = .ok (.iload_n 1, 1) := by decide +kernel
theorem dX12_parse_39 : decode cX12_parse 39 = .ok (.bipush 60, 2) := by decide +kernel
theorem dX12_parse_41 : decode cX12_parse 41 = .ok (.if_icmp .gt 7, 3) := by decide +kernel
theorem dX12_parse_44 : decode cX12_parse 44 = .ok (.iconst 1, 1) := by decide +kernel
theorem dX12_parse_45 : decode cX12_parse 45 = .ok (.goto 4, 3) := by decide +kernel
theorem dX12_parse_48 : decode cX12_parse 48 = .ok (.iconst 0, 1) := by decide +kernel
theorem dX12_parse_49 : decode cX12_parse 49 = .ok (.istore_n 3, 1) := by decide +kernel
theorem dX12_parse_50 : decode cX12_parse 50 = .ok (.iload_n 3, 1) := by decide +kernel
theorem dX12_parse_51 : decode cX12_parse 51 = .ok (.ifCond .eq 130, 3) := by decide +kernel
theorem dX12_parse_54 : decode cX12_parse 54 = .ok (.aload_n 0, 1) := by decide +kernel
theorem dX12_parse_55 : decode cX12_parse 55 = .ok (.getfield 88, 3) := by decide +kernel
theorem dX12_parse_58 : decode cX12_parse 58 = .ok (.iload_n 1, 1) := by decide +kernel
theorem dX12_parse_59 : decode cX12_parse 59 = .ok (.aload_n 0, 1) := by decide +kernel
theorem dX12_parse_60 : decode cX12_parse 60 = .ok (.getfield 203, 3) := by decide +kernel
theorem dX12_parse_63 : decode cX12_parse 63 = .ok (.iastore, 1) := by decide +kernel
theorem dX12_parse_64 : decode cX12_parse 64 = .ok (.iinc 1 1, 3) := by decide +kernel
theorem dX12_parse_67 : decode cX12_parse 67 = .ok (.goto 114, 3) := by decide +kernel
theorem dX12_parse_70 : decode cX12_parse 70 = .ok (.iload 4, 2) := by decide +kernel
theorem dX12_parse_72 : decode cX12_parse 72 = .ok (.bipush 41, 2) := by decide +kernel
theorem dX12_parse_74 : decode cX12_parse 74 = .ok (.if_icmp .ne 33, 3) := by decide +kernel
theorem dX12_parse_77 : decode cX12_parse 77 = .ok (.iload_n 1, 1) := by decide +kernel
theorem dX12_parse_78 : decode cX12_parse 78 = .ok (.ifCond .le 7, 3) := by decide +kernel
theorem dX12_parse_81 : decode cX12_parse 81 = .ok (.iconst 1, 1) := by decide +kernel
theorem dX12_parse_82 : decode cX12_parse 82 = .ok (.goto 4, 3) := by decide +kernel
theorem dX12_parse_85 : decode cX12_parse 85 = .ok (.iconst 0, 1) := by decide +kernel
theorem dX12_parse_86 : decode cX12_parse 86 = .ok (.istore_n 3, 1) := by decide +kernel
theorem dX12_parse_87 : decode cX12_parse 87 = .ok (.iload_n 3, 1) := by decide +kernel
theorem dX12_parse_88 : decode cX12_parse 88 = .ok (.ifCond .eq 93, 3) := by decide +kernel
theorem dX12_parse_91 : decode cX12_parse 91 = .ok (.iinc 1 (-1), 3) := by decide +kernel
theorem dX12_parse_94 : decode cX12_parse 94 = .ok (.aload_n 0, 1) := by decide +kernel
theorem dX12_parse_95 : decode cX12_parse 95 = .ok (.aload_n 0, 1) := by decide +kernel
theorem dX12_parse_96 : decode cX12_parse 96 = .ok (.getfield 88, 3) := by decide +kernel
theorem dX12_parse_99 : decode cX12_parse 99 = .ok (.iload_n 1, 1) := by decide +kernel
theorem dX12_parse_100 : decode cX12_parse 100 = .ok (.iaload, 1) := by decide +kernel
theorem dX12_parse_101 : decode cX12_parse 101 = .ok (.invokevirtual 213, 3) := by decide +kernel
theorem dX12_parse_104 : decode cX12_parse 104 = .ok (.goto 77, 3) := by decide +kernel
theorem dX12_parse_107 : decode cX12_parse 107 = .ok (.iload 4, 2) := by decide +kernel
theorem dX12_parse_109 : decode cX12_parse 109 = .ok (.bipush 32, 2) := by decide +kernel
theorem dX12_parse_111 : decode cX12_parse 111 = .ok (.if_icmp .eq 70, 3) := by decide +kernel
theorem dX12_parse_114 : decode cX12_parse 114 = .ok (.iload_n 2, 1) := by decide +kernel
theorem dX12_parse_115 : decode cX12_parse 115 = .ok (.istore 5, 2) := by decide +kernel
theorem dX12_parse_117 : decode cX12_parse 117 = .ok (.iload 5, 2) := by decide +kernel
theorem dX12_parse_119 : decode cX12_parse 119 = .ok (.aload_n 0, 1) := by decide +kernel
theorem dX12_parse_120 : decode cX12_parse 120 = .ok (.getfield 171, 3) := by decide +kernel
theorem dX12_parse_123 : decode cX12_parse 123 = .ok (.if_icmp .ge 45, 3) := by decide +kernel
theorem dX12_parse_126 : decode cX12_parse 126 = .ok (.aload_n 0, 1) := by decide +kernel
theorem dX12_parse_127 : decode cX12_parse 127 = .ok (.getfield 7, 3) := by decide +kernel
theorem dX12_parse_130 : decode cX12_parse 130 = .ok (.iload 5, 2) := by decide +kernel
theorem dX12_parse_132 : decode cX12_parse 132 = .ok (.baload, 1) := by decide +kernel
theorem dX12_parse_133 : decode cX12_parse 133 = .ok (.bipush 32, 2) := by decide +kernel
theorem dX12_parse_135 : decode cX12_parse 135 = .ok (.if_icmp .eq 33, 3) := by decide +kernel
theorem dX12_parse_138 : decode cX12_parse 138 = .ok (.aload_n 0, 1) := by decide +kernel
theorem dX12_parse_139 : decode cX12_parse 139 = .ok (.getfield 7, 3) := by decide +kernel
theorem dX12_parse_142 : decode cX12_parse 142 = .ok (.iload 5, 2) := by decide +kernel
theorem dX12_parse_144 : decode cX12_parse 144 = .ok (.baload, 1) := by decide +kernel
theorem dX12_parse_145 : decode cX12_parse 145 = .ok (.bipush 40, 2) := by decide +kernel
theorem dX12_parse_147 : decode cX12_parse 147 = .ok (.if_icmp .eq 21, 3) := by decide +kernel
theorem dX12_parse_150 : decode cX12_parse 150 = .ok (.aload_n 0, 1) := by decide +kernel
theorem dX12_parse_151 : decode cX12_parse 151 = .ok (.getfield 7, 3) := by decide +kernel
theorem dX12_parse_154 : decode cX12_parse 154 = .ok (.iload 5, 2) := by decide +kernel
theorem dX12_parse_156 : decode cX12_parse 156 = .ok (.baload, 1) := by decide +kernel
theorem dX12_parse_157 : decode cX12_parse 157 = .ok (.bipush 41, 2) := by decide +kernel
theorem dX12_parse_159 : decode cX12_parse 159 = .ok (.if_icmp .eq 9, 3) := by decide +kernel
theorem dX12_parse_162 : decode cX12_parse 162 = .ok (.iinc 5 1, 3) := by decide +kernel
theorem dX12_parse_165 : decode cX12_parse 165 = .ok (.goto (-48), 3) := by decide +kernel
theorem dX12_parse_168 : decode cX12_parse 168 = .ok (.aload_n 0, 1) := by decide +kernel
theorem dX12_parse_169 : decode cX12_parse 169 = .ok (.iload_n 2, 1) := by decide +kernel
theorem dX12_parse_170 : decode cX12_parse 170 = .ok (.iload 5, 2) := by decide +kernel
theorem dX12_parse_172 : decode cX12_parse 172 = .ok (.invokevirtual 217, 3) := by decide +kernel
theorem dX12_parse_175 : decode cX12_parse 175 = .ok (.istore_n 3, 1) := by decide +kernel
theorem dX12_parse_176 : decode cX12_parse 176 = .ok (.iload 5, 2) := by decide +kernel
theorem dX12_parse_178 : decode cX12_parse 178 = .ok (.iconst 1, 1) := by decide +kernel
theorem dX12_parse_179 : decode cX12_parse 179 = .ok (.isub, 1) := by decide +kernel
theorem dX12_parse_180 : decode cX12_parse 180 = .ok (.istore_n 2, 1) := by decide +kernel
theorem dX12_parse_181 : decode cX12_parse 181 = .ok (.iinc 2 1, 3) := by decide +kernel
theorem dX12_parse_184 : decode cX12_parse 184 = .ok (.goto (-173), 3) := by decide +kernel
theorem dX12_parse_187 : decode cX12_parse 187 = .ok (.iload_n 3, 1) := by decide +kernel
theorem dX12_parse_188 : decode cX12_parse 188 = .ok (.ifCond .eq 11, 3) := by decide +kernel
theorem dX12_parse_191 : decode cX12_parse 191 = .ok (.iload_n 1, 1) := by decide +kernel
theorem dX12_parse_192 : decode cX12_parse 192 = .ok (.ifCond .ne 7, 3) := by decide +kernel
theorem dX12_parse_195 : decode cX12_parse 195 = .ok (.iconst 1, 1) := by decide +kernel
theorem dX12_parse_196 : decode cX12_parse 196 = .ok (.goto 4, 3) := by decide +kernel
theorem dX12_parse_199 : decode cX12_parse 199 = .ok (.iconst 0, 1) := by decide +kernel
theorem dX12_parse_200 : decode cX12_parse 200 = .ok (.ireturn, 1) := by decide +kernel
theorem dX12_beginText_0 : decode cX12_beginText 0 = .ok (.aload_n 0, 1) := by decide +kernel
theorem dX12_beginText_1 : decode cX12_beginText 1 = .ok (.aload_n 0, 1) := by decide +kernel
theorem dX12_beginText_2 : decode cX12_beginText 2 = .ok (.getfield 402, 3) := by decide +kernel
theorem dX12_beginText_5 : decode cX12_beginText 5 = .ok (.putfield 196, 3) := by decide +kernel
theorem dX12_beginText_8 : decode cX12_beginText 8 = .ok (.aload_n 0, 1) := by decide +kernel
theorem dX12_beginText_9 : decode cX12_beginText 9 = .ok (.aload_n 0, 1) := by decide +kernel
theorem dX12_beginText_10 : decode cX12_beginText 10 = .ok (.getfield 405, 3) := by decide +kernel
theorem dX12_beginText_13 : decode cX12_beginText 13 = .ok (.putfield 220, 3) := by decide +kernel
theorem dX12_beginText_16 : decode cX12_beginText 16 = .ok (.aload_n 0, 1) := by decide +kernel
theorem dX12_beginText_17 : decode cX12_beginText 17 = .ok (.iconst 0, 1) := by decide +kernel
theorem dX12_beginText_18 : decode cX12_beginText 18 = .ok (.putfield 374, 3) := by decide +kernel
theorem dX12_beginText_21 : decode cX12_beginText 21 = .ok (.aload_n 0, 1) := by decide +kernel
theorem dX12_beginText_22 : decode cX12_beginText 22 = .ok (.iconst 1, 1) := by decide +kernel
theorem dX12_beginText_23 : decode cX12_beginText 23 = .ok (.putfield 162, 3) := by decide +kernel
theorem dX12_beginText_26 : decode cX12_beginText 26 = .ok (.aload_n 0, 1) := by decide +kernel
theorem dX12_beginText_27 : decode cX12_beginText 27 = .ok (.iconst 0, 1) := by decide +kernel
theorem dX12_beginText_28 : decode cX12_beginText 28 = .ok (.putfield 288, 3) := by decide +kernel
theorem dX12_beginText_31 : decode cX12_beginText 31 = .ok (.aload_n 0, 1) := by decide +kernel
theorem dX12_beginText_32 : decode cX12_beginText 32 = .ok (.getfield 54, 3) := by decide +kernel
theorem dX12_beginText_35 : decode cX12_beginText 35 = .ok (.iconst 1, 1) := by decide +kernel
theorem dX12_beginText_36 : decode cX12_beginText 36 = .ok (.iconst 0, 1) := by decide +kernel
theorem dX12_beginText_37 : decode cX12_beginText 37 = .ok (.iastore, 1) := by decide +kernel
theorem dX12_beginText_38 : decode cX12_beginText 38 = .ok (.aload_n 0, 1) := by decide +kernel
theorem dX12_beginText_39 : decode cX12_beginText 39 = .ok (.iconst 0, 1) := by decide +kernel
theorem dX12_beginText_40 : decode cX12_beginText 40 = .ok (.putfield 297, 3) := by decide +kernel
theorem dX12_beginText_43 : decode cX12_beginText 43 = .ok (.aload_n 0, 1) := by decide +kernel
theorem dX12_beginText_44 : decode cX12_beginText 44 = .ok (.iconst 0, 1) := by decide +kernel
theorem dX12_beginText_45 : decode cX12_beginText 45 = .ok (.putfield 345, 3) := by decide +kernel
theorem dX12_beginText_48 : decode cX12_beginText 48 = .ok (.aload_n 0, 1) := by decide +kernel
theorem dX12_beginText_49 : decode cX12_beginText 49 = .ok (.iconst 0, 1) := by decide +kernel
theorem dX12_beginText_50 : decode cX12_beginText 50 = .ok (.putfield 279, 3) := by decide +kernel
theorem dX12_beginText_53 : decode cX12_beginText 53 = .ok (.aload_n 0, 1) := by decide +kernel
theorem dX12_beginText_54 : decode cX12_beginText 54 = .ok (.iconst 0, 1) := by decide +kernel
theorem dX12_beginText_55 : decode cX12_beginText 55 = .ok (.putfield 223, 3) := by decide +kernel
theorem dX12_beginText_58 : decode cX12_beginText 58 = .ok (.aload_n 0, 1) := by decide +kernel
theorem dX12_beginText_59 : decode cX12_beginText 59 = .ok (.iconst 0, 1) := by decide +kernel
theorem dX12_beginText_60 : decode cX12_beginText 60 = .ok (.putfield 236, 3) := by decide +kernel
theorem dX12_beginText_63 : decode cX12_beginText 63 = .ok (.aload_n 0, 1) := by decide +kernel
theorem dX12_beginText_64 : decode cX12_beginText 64 = .ok (.iconst (-1), 1) := by decide +kernel
theorem dX12_beginText_65 : decode cX12_beginText 65 = .ok (.putfield 13, 3) := by decide +kernel
theorem dX12_beginText_68 : decode cX12_beginText 68 = .ok (.return_, 1) := by decide +kernel
theorem dX12_read_0 : decode cX12_read 0 = .ok (.aload_n 0, 1) := by decide +kernel
theorem dX12_read_1 : decode cX12_read 1 = .ok (.iconst 0, 1) := by decide +kernel
theorem dX12_read_2 : decode cX12_read 2 = .ok (.putfield 168, 3) := by decide +kernel
theorem dX12_read_5 : decode cX12_read 5 = .ok (.aload_n 0, 1) := by decide +kernel
theorem dX12_read_6 : decode cX12_read 6 = .ok (.invokevirtual 408, 3) := by decide +kernel
theorem dX12_read_9 : decode cX12_read 9 = .ok (.aload_n 0, 1) := by decide +kernel
theorem dX12_read_10 : decode cX12_read 10 = .ok (.getfield 390, 3) := by decide +kernel
theorem dX12_read_13 : decode cX12_read 13 = .ok (.istore_n 1, 1) := by decide +kernel
theorem dX12_read_14 : decode cX12_read 14 = .ok (.iconst 0, 1) := by decide +kernel
theorem dX12_read_15 : decode cX12_read 15 = .ok (.istore_n 2, 1) := by decide +kernel
theorem dX12_read_16 : decode cX12_read 16 = .ok (.iload_n 2, 1) := by decide +kernel
theorem dX12_read_17 : decode cX12_read 17 = .ok (.sipush 5000, 3) := by decide +kernel
theorem dX12_read_20 : decode cX12_read 20 = .ok (.if_icmp .ge 21, 3) := by decide +kernel
theorem dX12_read_23 : decode cX12_read 23 = .ok (.aload_n 0, 1) := by decide +kernel
theorem dX12_read_24 : decode cX12_read 24 = .ok (.getfield 28, 3) := by decide +kernel
theorem dX12_read_27 : decode cX12_read 27 = .ok (.iload_n 2, 1) := by decide +kernel
theorem dX12_read_28 : decode cX12_read 28 = .ok (.aload_n 0, 1) := by decide +kernel
theorem dX12_read_29 : decode cX12_read 29 = .ok (.getfield 25, 3) := by decide +kernel
theorem dX12_read_32 : decode cX12_read 32 = .ok (.iload_n 2, 1) := by decide +kernel
theorem dX12_read_33 : decode cX12_read 33 = .ok (.iaload, 1) := by decide +kernel
theorem dX12_read_34 : decode cX12_read 34 = .ok (.iastore, 1) := by decide +kernel
theorem dX12_read_35 : decode cX12_read 35 = .ok (.iinc 2 1, 3) := by decide +kernel
theorem dX12_read_38 : decode cX12_read 38 = .ok (.goto (-22), 3) := by decide +kernel
theorem dX12_read_41 : decode cX12_read 41 = .ok (.aload_n 0, 1) := by decide +kernel
theorem dX12_read_42 : decode cX12_read 42 = .ok (.invokevirtual 411, 3) := by decide +kernel
theorem dX12_read_45 : decode cX12_read 45 = .ok (.istore_n 2, 1) := by decide +kernel
theorem dX12_read_46 : decode cX12_read 46 = .ok (.aload_n 0, 1) := by decide +kernel
theorem dX12_read_47 : decode cX12_read 47 = .ok (.iconst 0, 1) := by decide +kernel
theorem dX12_read_48 : decode cX12_read 48 = .ok (.putfield 171, 3) := by decide +kernel
theorem dX12_read_51 : decode cX12_read 51 = .ok (.iload_n 2, 1) := by decide +kernel
theorem dX12_read_52 : decode cX12_read 52 = .ok (.ifCond .ne 5, 3) := by decide +kernel
theorem dX12_read_55 : decode cX12_read 55 = .ok (.iconst 1, 1) := by decide +kernel
theorem dX12_read_56 : decode cX12_read 56 = .ok (.ireturn, 1) := by decide +kernel
theorem dX12_read_57 : decode cX12_read 57 = .ok (.aload_n 0, 1) := by decide +kernel
theorem dX12_read_58 : decode cX12_read 58 = .ok (.getfield 203, 3) := by decide +kernel
theorem dX12_read_61 : decode cX12_read 61 = .ok (.istore_n 3, 1) := by decide +kernel
theorem dX12_read_62 : decode cX12_read 62 = .ok (.iconst 0, 1) := by decide +kernel
theorem dX12_read_63 : decode cX12_read 63 = .ok (.istore 4, 2) := by decide +kernel
theorem dX12_read_65 : decode cX12_read 65 = .ok (.iload 4, 2) := by decide +kernel
theorem dX12_read_67 : decode cX12_read 67 = .ok (.iload_n 3, 1) := by decide +kernel
theorem dX12_read_68 : decode cX12_read 68 = .ok (.if_icmp .ge 44, 3) := by decide +kernel
theorem dX12_read_71 : decode cX12_read 71 = .ok (.aload_n 0, 1) := by decide +kernel
theorem dX12_read_72 : decode cX12_read 72 = .ok (.getfield 236, 3) := by decide +kernel
theorem dX12_read_75 : decode cX12_read 75 = .ok (.ifCond .ne 37, 3) := by decide +kernel
theorem dX12_read_78 : decode cX12_read 78 = .ok (.aload_n 0, 1) := by decide +kernel
theorem dX12_read_79 : decode cX12_read 79 = .ok (.aload_n 0, 1) := by decide +kernel
theorem dX12_read_80 : decode cX12_read 80 = .ok (.getfield 85, 3) := by decide +kernel
theorem dX12_read_83 : decode cX12_read 83 = .ok (.iload 4, 2) := by decide +kernel
theorem dX12_read_85 : decode cX12_read 85 = .ok (.iaload, 1) := by decide +kernel
theorem dX12_read_86 : decode cX12_read 86 = .ok (.invokevirtual 415, 3) := by decide +kernel
theorem dX12_read_89 : decode cX12_read 89 = .ok (.aload_n 0, 1) := by decide +kernel
theorem dX12_read_90 : decode cX12_read 90 = .ok (.aload_n 0, 1) := by decide +kernel
theorem dX12_read_91 : decode cX12_read 91 = .ok (.getfield 236, 3) := by decide +kernel
theorem dX12_read_94 : decode cX12_read 94 = .ok (.ifCond .le 8, 3) := by decide +kernel
theorem dX12_read_97 : decode cX12_read 97 = .ok (.iload 4, 2) := by decide +kernel
theorem dX12_read_99 : decode cX12_read 99 = .ok (.goto 4, 3) := by decide +kernel
theorem dX12_read_102 : decode cX12_read 102 = .ok (.iconst (-1), 1) := by decide +kernel
theorem dX12_read_103 : decode cX12_read 103 = .ok (.putfield 13, 3) := by decide +kernel
theorem dX12_read_106 : decode cX12_read 106 = .ok (.iinc 4 1, 3) := by decide +kernel
theorem dX12_read_109 : decode cX12_read 109 = .ok (.goto (-44), 3) := by decide +kernel
theorem dX12_read_112 : decode cX12_read 112 = .ok (.aload_n 0, 1) := by decide +kernel
theorem dX12_read_113 : decode cX12_read 113 = .ok (.getfield 236, 3) := by decide +kernel
theorem dX12_read_116 : decode cX12_read 116 = .ok (.ifCond .ne 25, 3) := by decide +kernel
theorem dX12_read_119 : decode cX12_read 119 = .ok (.aload_n 0, 1) := by decide +kernel
theorem dX12_read_120 : decode cX12_read 120 = .ok (.getfield 223, 3) := by decide +kernel
theorem dX12_read_123 : decode cX12_read 123 = .ok (.sipush 4000, 3) := by decide +kernel
theorem dX12_read_126 : decode cX12_read 126 = .ok (.if_icmp .le 15, 3) := by decide +kernel
theorem dX12_read_129 : decode cX12_read 129 = .ok (.aload_n 0, 1) := by decide +kernel
theorem dX12_read_130 : decode cX12_read 130 = .ok (.iconst 2, 1) := by decide +kernel
theorem dX12_read_131 : decode cX12_read 131 = .ok (.putfield 236, 3) := by decide +kernel
theorem dX12_read_134 : decode cX12_read 134 = .ok (.aload_n 0, 1) := by decide +kernel
theorem dX12_read_135 : decode cX12_read 135 = .ok (.iload_n 3, 1) := by decide +kernel
theorem dX12_read_136 : decode cX12_read 136 = .ok (.iconst 1, 1) := by decide +kernel
theorem dX12_read_137 : decode cX12_read 137 = .ok (.isub, 1) := by decide +kernel
theorem dX12_read_138 : decode cX12_read 138 = .ok (.putfield 13, 3) := by decide +kernel
theorem dX12_read_141 : decode cX12_read 141 = .ok (.aload_n 0, 1) := by decide +kernel
theorem dX12_read_142 : decode cX12_read 142 = .ok (.getfield 236, 3) := by decide +kernel
theorem dX12_read_145 : decode cX12_read 145 = .ok (.ifCond .le 44, 3) := by decide +kernel
theorem dX12_read_148 : decode cX12_read 148 = .ok (.aload_n 0, 1) := by decide +kernel
theorem dX12_read_149 : decode cX12_read 149 = .ok (.iload_n 1, 1) := by decide +kernel
theorem dX12_read_150 : decode cX12_read 150 = .ok (.putfield 390, 3) := by decide +kernel
theorem dX12_read_153 : decode cX12_read 153 = .ok (.iconst 0, 1) := by decide +kernel
theorem dX12_read_154 : decode cX12_read 154 = .ok (.istore 4, 2) := by decide +kernel
theorem dX12_read_156 : decode cX12_read 156 = .ok (.iload 4, 2) := by decide +kernel
theorem dX12_read_158 : decode cX12_read 158 = .ok (.sipush 5000, 3) := by decide +kernel
theorem dX12_read_161 : decode cX12_read 161 = .ok (.if_icmp .ge 23, 3) := by decide +kernel
theorem dX12_read_164 : decode cX12_read 164 = .ok (.aload_n 0, 1) := by decide +kernel
theorem dX12_read_165 : decode cX12_read 165 = .ok (.getfield 25, 3) := by decide +kernel
theorem dX12_read_168 : decode cX12_read 168 = .ok (.iload 4, 2) := by decide +kernel
theorem dX12_read_170 : decode cX12_read 170 = .ok (.aload_n 0, 1) := by decide +kernel
theorem dX12_read_171 : decode cX12_read 171 = .ok (.getfield 28, 3) := by decide +kernel
theorem dX12_read_174 : decode cX12_read 174 = .ok (.iload 4, 2) := by decide +kernel
theorem dX12_read_176 : decode cX12_read 176 = .ok (.iaload, 1) := by decide +kernel
theorem dX12_read_177 : decode cX12_read 177 = .ok (.iastore, 1) := by decide +kernel
theorem dX12_read_178 : decode cX12_read 178 = .ok (.iinc 4 1, 3) := by decide +kernel
theorem dX12_read_181 : decode cX12_read 181 = .ok (.goto (-25), 3) := by decide +kernel
theorem dX12_read_184 : decode cX12_read 184 = .ok (.aload_n 0, 1) := by decide +kernel
theorem dX12_read_185 : decode cX12_read 185 = .ok (.getfield 236, 3) := by decide +kernel
theorem dX12_read_188 : decode cX12_read 188 = .ok (.ireturn, 1) := by decide +kernel
theorem dX12_read_189 : decode cX12_read 189 = .ok (.iconst 0, 1) := by decide +kernel
theorem dX12_read_190 : decode cX12_read 190 = .ok (.istore 4, 2) := by decide +kernel
theorem dX12_read_192 : decode cX12_read 192 = .ok (.iload 4, 2) := by decide +kernel
theorem dX12_read_194 : decode cX12_read 194 = .ok (.aload_n 0, 1) := by decide +kernel
theorem dX12_read_195 : decode cX12_read 195 = .ok (.getfield 223, 3) := by decide +kernel
theorem dX12_read_198 : decode cX12_read 198 = .ok (.if_icmp .ge 23, 3) := by decide +kernel
theorem dX12_read_201 : decode cX12_read 201 = .ok (.aload_n 0, 1) := by decide +kernel
theorem dX12_read_202 : decode cX12_read 202 = .ok (.getfield 82, 3) := by decide +kernel
theorem dX12_read_205 : decode cX12_read 205 = .ok (.iload 4, 2) := by decide +kernel
theorem dX12_read_207 : decode cX12_read 207 = .ok (.aload_n 0, 1) := by decide +kernel
theorem dX12_read_208 : decode cX12_read 208 = .ok (.getfield 79, 3) := by decide +kernel
theorem dX12_read_211 : decode cX12_read 211 = .ok (.iload 4, 2) := by decide +kernel
theorem dX12_read_213 : decode cX12_read 213 = .ok (.baload, 1) := by decide +kernel
theorem dX12_read_214 : decode cX12_read 214 = .ok (.bastore, 1) := by decide +kernel
theorem dX12_read_215 : decode cX12_read 215 = .ok (.iinc 4 1, 3) := by decide +kernel
theorem dX12_read_218 : decode cX12_read 218 = .ok (.goto (-26), 3) := by decide +kernel
theorem dX12_read_221 : decode cX12_read 221 = .ok (.aload_n 0, 1) := by decide +kernel
theorem dX12_read_222 : decode cX12_read 222 = .ok (.aload_n 0, 1) := by decide +kernel
theorem dX12_read_223 : decode cX12_read 223 = .ok (.getfield 223, 3) := by decide +kernel
theorem dX12_read_226 : decode cX12_read 226 = .ok (.putfield 418, 3) := by decide +kernel
theorem dX12_read_229 : decode cX12_read 229 = .ok (.aload_n 0, 1) := by decide +kernel
theorem dX12_read_230 : decode cX12_read 230 = .ok (.aload_n 0, 1) := by decide +kernel
theorem dX12_read_231 : decode cX12_read 231 = .ok (.getfield 345, 3) := by decide +kernel
theorem dX12_read_234 : decode cX12_read 234 = .ok (.putfield 421, 3) := by decide +kernel
theorem dX12_read_237 : decode cX12_read 237 = .ok (.aload_n 0, 1) := by decide +kernel
theorem dX12_read_238 : decode cX12_read 238 = .ok (.aload_n 0, 1) := by decide +kernel
theorem dX12_read_239 : decode cX12_read 239 = .ok (.getfield 297, 3) := by decide +kernel
theorem dX12_read_242 : decode cX12_read 242 = .ok (.putfield 424, 3) := by decide +kernel
theorem dX12_read_245 : decode cX12_read 245 = .ok (.aload_n 0, 1) := by decide +kernel
theorem dX12_read_246 : decode cX12_read 246 = .ok (.iload_n 3, 1) := by decide +kernel
theorem dX12_read_247 : decode cX12_read 247 = .ok (.putfield 427, 3) := by decide +kernel
theorem dX12_read_250 : decode cX12_read 250 = .ok (.aload_n 0, 1) := by decide +kernel
theorem dX12_read_251 : decode cX12_read 251 = .ok (.invokevirtual 430, 3) := by decide +kernel
theorem dX12_read_254 : decode cX12_read 254 = .ok (.iconst 0, 1) := by decide +kernel
theorem dX12_read_255 : decode cX12_read 255 = .ok (.ireturn, 1) := by decide +kernel
theorem dX12_stay_0 : decode cX12_stay 0 = .ok (.aload_n 0, 1) := by decide +kernel
theorem dX12_stay_1 : decode cX12_stay 1 = .ok (.iconst 0, 1) := by decide +kernel
theorem dX12_stay_2 : decode cX12_stay 2 = .ok (.putfield 433, 3) := by decide +kernel
theorem dX12_stay_5 : decode cX12_stay 5 = .ok (.aload_n 0, 1) := by decide +kernel
theorem dX12_stay_6 : decode cX12_stay 6 = .ok (.iconst 0, 1) := by decide +kernel
theorem dX12_stay_7 : decode cX12_stay 7 = .ok (.putfield 436, 3) := by decide +kernel
theorem dX12_stay_10 : decode cX12_stay 10 = .ok (.aload_n 0, 1) := by decide +kernel
theorem dX12_stay_11 : decode cX12_stay 11 = .ok (.iconst 0, 1) := by decide +kernel
theorem dX12_stay_12 : decode cX12_stay 12 = .ok (.putfield 306, 3) := by decide +kernel
theorem dX12_stay_15 : decode cX12_stay 15 = .ok (.iconst 0, 1) := by decide +kernel
theorem dX12_stay_16 : decode cX12_stay 16 = .ok (.istore_n 1, 1) := by decide +kernel
theorem dX12_stay_17 : decode cX12_stay 17 = .ok (.iload_n 1, 1) := by decide +kernel
theorem dX12_stay_18 : decode cX12_stay 18 = .ok (.aload_n 0, 1) := by decide +kernel
theorem dX12_stay_19 : decode cX12_stay 19 = .ok (.getfield 165, 3) := by decide +kernel
theorem dX12_stay_22 : decode cX12_stay 22 = .ok (.if_icmp .ge 42, 3) := by decide +kernel
theorem dX12_stay_25 : decode cX12_stay 25 = .ok (.aload_n 0, 1) := by decide +kernel
theorem dX12_stay_26 : decode cX12_stay 26 = .ok (.getfield 25, 3) := by decide +kernel
theorem dX12_stay_29 : decode cX12_stay 29 = .ok (.iload_n 1, 1) := by decide +kernel
theorem dX12_stay_30 : decode cX12_stay 30 = .ok (.iaload, 1) := by decide +kernel
theorem dX12_stay_31 : decode cX12_stay 31 = .ok (.aload_n 0, 1) := by decide +kernel
theorem dX12_stay_32 : decode cX12_stay 32 = .ok (.getfield 402, 3) := by decide +kernel
theorem dX12_stay_35 : decode cX12_stay 35 = .ok (.if_icmp .le 23, 3) := by decide +kernel
theorem dX12_stay_38 : decode cX12_stay 38 = .ok (.aload_n 0, 1) := by decide +kernel
theorem dX12_stay_39 : decode cX12_stay 39 = .ok (.getfield 25, 3) := by decide +kernel
theorem dX12_stay_42 : decode cX12_stay 42 = .ok (.iload_n 1, 1) := by decide +kernel
theorem dX12_stay_43 : decode cX12_stay 43 = .ok (.aload_n 0, 1) := by decide +kernel
theorem dX12_stay_44 : decode cX12_stay 44 = .ok (.aload_n 0, 1) := by decide +kernel
theorem dX12_stay_45 : decode cX12_stay 45 = .ok (.getfield 25, 3) := by decide +kernel
theorem dX12_stay_48 : decode cX12_stay 48 = .ok (.iload_n 1, 1) := by decide +kernel
theorem dX12_stay_49 : decode cX12_stay 49 = .ok (.iaload, 1) := by decide +kernel
theorem dX12_stay_50 : decode cX12_stay 50 = .ok (.iconst 1, 1) := by decide +kernel
theorem dX12_stay_51 : decode cX12_stay 51 = .ok (.isub, 1) := by decide +kernel
theorem dX12_stay_52 : decode cX12_stay 52 = .ok (.invokevirtual 439, 3) := by decide +kernel
theorem dX12_stay_55 : decode cX12_stay 55 = .ok (.iconst 1, 1) := by decide +kernel
theorem dX12_stay_56 : decode cX12_stay 56 = .ok (.iadd, 1) := by decide +kernel
theorem dX12_stay_57 : decode cX12_stay 57 = .ok (.iastore, 1) := by decide +kernel
theorem dX12_stay_58 : decode cX12_stay 58 = .ok (.iinc 1 1, 3) := by decide +kernel
theorem dX12_stay_61 : decode cX12_stay 61 = .ok (.goto (-44), 3) := by decide +kernel
theorem dX12_stay_64 : decode cX12_stay 64 = .ok (.iconst 0, 1) := by decide +kernel
theorem dX12_stay_65 : decode cX12_stay 65 = .ok (.istore_n 1, 1) := by decide +kernel
theorem dX12_stay_66 : decode cX12_stay 66 = .ok (.iload_n 1, 1) := by decide +kernel
theorem dX12_stay_67 : decode cX12_stay 67 = .ok (.aload_n 0, 1) := by decide +kernel
theorem dX12_stay_68 : decode cX12_stay 68 = .ok (.getfield 306, 3) := by decide +kernel
theorem dX12_stay_71 : decode cX12_stay 71 = .ok (.if_icmp .ge 103, 3) := by decide +kernel
theorem dX12_stay_74 : decode cX12_stay 74 = .ok (.aload_n 0, 1) := by decide +kernel
theorem dX12_stay_75 : decode cX12_stay 75 = .ok (.getfield 98, 3) := by decide +kernel
theorem dX12_stay_78 : decode cX12_stay 78 = .ok (.iload_n 1, 1) := by decide +kernel
theorem dX12_stay_79 : decode cX12_stay 79 = .ok (.iaload, 1) := by decide +kernel
theorem dX12_stay_80 : decode cX12_stay 80 = .ok (.istore_n 2, 1) := by decide +kernel
theorem dX12_stay_81 : decode cX12_stay 81 = .ok (.aload_n 0, 1) := by decide +kernel
theorem dX12_stay_82 : decode cX12_stay 82 = .ok (.getfield 32, 3) := by decide +kernel
theorem dX12_stay_85 : decode cX12_stay 85 = .ok (.iload_n 2, 1) := by decide +kernel
theorem dX12_stay_86 : decode cX12_stay 86 = .ok (.baload, 1) := by decide +kernel
theorem dX12_stay_87 : decode cX12_stay 87 = .ok (.iconst 2, 1) := by decide +kernel
theorem dX12_stay_88 : decode cX12_stay 88 = .ok (.if_icmp .ne 80, 3) := by decide +kernel
theorem dX12_stay_91 : decode cX12_stay 91 = .ok (.aload_n 0, 1) := by decide +kernel
theorem dX12_stay_92 : decode cX12_stay 92 = .ok (.getfield 436, 3) := by decide +kernel
theorem dX12_stay_95 : decode cX12_stay 95 = .ok (.istore_n 3, 1) := by decide +kernel
theorem dX12_stay_96 : decode cX12_stay 96 = .ok (.aload_n 0, 1) := by decide +kernel
theorem dX12_stay_97 : decode cX12_stay 97 = .ok (.aload_n 0, 1) := by decide +kernel
theorem dX12_stay_98 : decode cX12_stay 98 = .ok (.getfield 436, 3) := by decide +kernel
theorem dX12_stay_101 : decode cX12_stay 101 = .ok (.aload_n 0, 1) := by decide +kernel
theorem dX12_stay_102 : decode cX12_stay 102 = .ok (.getfield 38, 3) := by decide +kernel
theorem dX12_stay_105 : decode cX12_stay 105 = .ok (.iload_n 2, 1) := by decide +kernel
theorem dX12_stay_106 : decode cX12_stay 106 = .ok (.iaload, 1) := by decide +kernel
theorem dX12_stay_107 : decode cX12_stay 107 = .ok (.iadd, 1) := by decide +kernel
theorem dX12_stay_108 : decode cX12_stay 108 = .ok (.putfield 436, 3) := by decide +kernel
theorem dX12_stay_111 : decode cX12_stay 111 = .ok (.iconst 0, 1) := by decide +kernel
theorem dX12_stay_112 : decode cX12_stay 112 = .ok (.istore 4, 2) := by decide +kernel
theorem dX12_stay_114 : decode cX12_stay 114 = .ok (.iload 4, 2) := by decide +kernel
theorem dX12_stay_116 : decode cX12_stay 116 = .ok (.aload_n 0, 1) := by decide +kernel
theorem dX12_stay_117 : decode cX12_stay 117 = .ok (.getfield 38, 3) := by decide +kernel
theorem dX12_stay_120 : decode cX12_stay 120 = .ok (.iload_n 2, 1) := by decide +kernel
theorem dX12_stay_121 : decode cX12_stay 121 = .ok (.iaload, 1) := by decide +kernel
theorem dX12_stay_122 : decode cX12_stay 122 = .ok (.if_icmp .ge 29, 3) := by decide +kernel
theorem dX12_stay_125 : decode cX12_stay 125 = .ok (.aload_n 0, 1) := by decide +kernel
theorem dX12_stay_126 : decode cX12_stay 126 = .ok (.getfield 128, 3) := by decide +kernel
theorem dX12_stay_129 : decode cX12_stay 129 = .ok (.iload_n 3, 1) := by decide +kernel
theorem dX12_stay_130 : decode cX12_stay 130 = .ok (.iload 4, 2) := by decide +kernel
theorem dX12_stay_132 : decode cX12_stay 132 = .ok (.iadd, 1) := by decide +kernel
theorem dX12_stay_133 : decode cX12_stay 133 = .ok (.aload_n 0, 1) := by decide +kernel
theorem dX12_stay_134 : decode cX12_stay 134 = .ok (.aload_n 0, 1) := by decide +kernel
theorem dX12_stay_135 : decode cX12_stay 135 = .ok (.iload_n 2, 1) := by decide +kernel
theorem dX12_stay_136 : decode cX12_stay 136 = .ok (.iload 4, 2) := by decide +kernel
theorem dX12_stay_138 : decode cX12_stay 138 = .ok (.invokevirtual 192, 3) := by decide +kernel
theorem dX12_stay_141 : decode cX12_stay 141 = .ok (.invokevirtual 439, 3) := by decide +kernel
theorem dX12_stay_144 : decode cX12_stay 144 = .ok (.iastore, 1) := by decide +kernel
theorem dX12_stay_145 : decode cX12_stay 145 = .ok (.iinc 4 1, 3) := by decide +kernel
theorem dX12_stay_148 : decode cX12_stay 148 = .ok (.goto (-34), 3) := by decide +kernel
theorem dX12_stay_151 : decode cX12_stay 151 = .ok (.aload_n 0, 1) := by decide +kernel
theorem dX12_stay_152 : decode cX12_stay 152 = .ok (.getfield 122, 3) := by decide +kernel
theorem dX12_stay_155 : decode cX12_stay 155 = .ok (.aload_n 0, 1) := by decide +kernel
theorem dX12_stay_156 : decode cX12_stay 156 = .ok (.getfield 101, 3) := by decide +kernel
theorem dX12_stay_159 : decode cX12_stay 159 = .ok (.iload_n 1, 1) := by decide +kernel
theorem dX12_stay_160 : decode cX12_stay 160 = .ok (.iaload, 1) := by decide +kernel
theorem dX12_stay_161 : decode cX12_stay 161 = .ok (.aload_n 0, 1) := by decide +kernel
theorem dX12_stay_162 : decode cX12_stay 162 = .ok (.getfield 405, 3) := by decide +kernel
theorem dX12_stay_165 : decode cX12_stay 165 = .ok (.iload_n 3, 1) := by decide +kernel
theorem dX12_stay_166 : decode cX12_stay 166 = .ok (.iadd, 1) := by decide +kernel
theorem dX12_stay_167 : decode cX12_stay 167 = .ok (.iastore, 1) := by decide +kernel
theorem dX12_stay_168 : decode cX12_stay 168 = .ok (.iinc 1 1, 3) := by decide +kernel
theorem dX12_stay_171 : decode cX12_stay 171 = .ok (.goto (-105), 3) := by decide +kernel
theorem dX12_stay_174 : decode cX12_stay 174 = .ok (.iconst 0, 1) := by decide +kernel
theorem dX12_stay_175 : decode cX12_stay 175 = .ok (.istore_n 1, 1) := by decide +kernel
theorem dX12_stay_176 : decode cX12_stay 176 = .ok (.iload_n 1, 1) := by decide +kernel
theorem dX12_stay_177 : decode cX12_stay 177 = .ok (.aload_n 0, 1) := by decide +kernel
theorem dX12_stay_178 : decode cX12_stay 178 = .ok (.getfield 433, 3) := by decide +kernel
theorem dX12_stay_181 : decode cX12_stay 181 = .ok (.if_icmp .ge 60, 3) := by decide +kernel
theorem dX12_stay_184 : decode cX12_stay 184 = .ok (.aload_n 0, 1) := by decide +kernel
theorem dX12_stay_185 : decode cX12_stay 185 = .ok (.getfield 32, 3) := by decide +kernel
theorem dX12_stay_188 : decode cX12_stay 188 = .ok (.aload_n 0, 1) := by decide +kernel
theorem dX12_stay_189 : decode cX12_stay 189 = .ok (.getfield 402, 3) := by decide +kernel
theorem dX12_stay_192 : decode cX12_stay 192 = .ok (.iload_n 1, 1) := by decide +kernel
theorem dX12_stay_193 : decode cX12_stay 193 = .ok (.iadd, 1) := by decide +kernel
theorem dX12_stay_194 : decode cX12_stay 194 = .ok (.aload_n 0, 1) := by decide +kernel
theorem dX12_stay_195 : decode cX12_stay 195 = .ok (.getfield 119, 3) := by decide +kernel
theorem dX12_stay_198 : decode cX12_stay 198 = .ok (.iload_n 1, 1) := by decide +kernel
theorem dX12_stay_199 : decode cX12_stay 199 = .ok (.baload, 1) := by decide +kernel
theorem dX12_stay_200 : decode cX12_stay 200 = .ok (.bastore, 1) := by decide +kernel
theorem dX12_stay_201 : decode cX12_stay 201 = .ok (.aload_n 0, 1) := by decide +kernel
theorem dX12_stay_202 : decode cX12_stay 202 = .ok (.getfield 35, 3) := by decide +kernel
theorem dX12_stay_205 : decode cX12_stay 205 = .ok (.aload_n 0, 1) := by decide +kernel
theorem dX12_stay_206 : decode cX12_stay 206 = .ok (.getfield 402, 3) := by decide +kernel
theorem dX12_stay_209 : decode cX12_stay 209 = .ok (.iload_n 1, 1) := by decide +kernel
theorem dX12_stay_210 : decode cX12_stay 210 = .ok (.iadd, 1) := by decide +kernel
theorem dX12_stay_211 : decode cX12_stay 211 = .ok (.aload_n 0, 1) := by decide +kernel
theorem dX12_stay_212 : decode cX12_stay 212 = .ok (.getfield 122, 3) := by decide +kernel
theorem dX12_stay_215 : decode cX12_stay 215 = .ok (.iload_n 1, 1) := by decide +kernel
theorem dX12_stay_216 : decode cX12_stay 216 = .ok (.iaload, 1) := by decide +kernel
theorem dX12_stay_217 : decode cX12_stay 217 = .ok (.iastore, 1) := by decide +kernel
theorem dX12_stay_218 : decode cX12_stay 218 = .ok (.aload_n 0, 1) := by decide +kernel
theorem dX12_stay_219 : decode cX12_stay 219 = .ok (.getfield 38, 3) := by decide +kernel
theorem dX12_stay_222 : decode cX12_stay 222 = .ok (.aload_n 0, 1) := by decide +kernel
theorem dX12_stay_223 : decode cX12_stay 223 = .ok (.getfield 402, 3) := by decide +kernel
theorem dX12_stay_226 : decode cX12_stay 226 = .ok (.iload_n 1, 1) := by decide +kernel
theorem dX12_stay_227 : decode cX12_stay 227 = .ok (.iadd, 1) := by decide +kernel
theorem dX12_stay_228 : decode cX12_stay 228 = .ok (.aload_n 0, 1) := by decide +kernel
theorem dX12_stay_229 : decode cX12_stay 229 = .ok (.getfield 125, 3) := by decide +kernel
theorem dX12_stay_232 : decode cX12_stay 232 = .ok (.iload_n 1, 1) := by decide +kernel
theorem dX12_stay_233 : decode cX12_stay 233 = .ok (.iaload, 1) := by decide +kernel
theorem dX12_stay_234 : decode cX12_stay 234 = .ok (.iastore, 1) := by decide +kernel
theorem dX12_stay_235 : decode cX12_stay 235 = .ok (.iinc 1 1, 3) := by decide +kernel
theorem dX12_stay_238 : decode cX12_stay 238 = .ok (.goto (-62), 3) := by decide +kernel
theorem dX12_stay_241 : decode cX12_stay 241 = .ok (.iconst 0, 1) := by decide +kernel
theorem dX12_stay_242 : decode cX12_stay 242 = .ok (.istore_n 1, 1) := by decide +kernel
theorem dX12_stay_243 : decode cX12_stay 243 = .ok (.iload_n 1, 1) := by decide +kernel
theorem dX12_stay_244 : decode cX12_stay 244 = .ok (.aload_n 0, 1) := by decide +kernel
theorem dX12_stay_245 : decode cX12_stay 245 = .ok (.getfield 436, 3) := by decide +kernel
theorem dX12_stay_248 : decode cX12_stay 248 = .ok (.if_icmp .ge 26, 3) := by decide +kernel
theorem dX12_stay_251 : decode cX12_stay 251 = .ok (.aload_n 0, 1) := by decide +kernel
theorem dX12_stay_252 : decode cX12_stay 252 = .ok (.getfield 41, 3) := by decide +kernel
theorem dX12_stay_255 : decode cX12_stay 255 = .ok (.aload_n 0, 1) := by decide +kernel
theorem dX12_stay_256 : decode cX12_stay 256 = .ok (.getfield 405, 3) := by decide +kernel
theorem dX12_stay_259 : decode cX12_stay 259 = .ok (.iload_n 1, 1) := by decide +kernel
theorem dX12_stay_260 : decode cX12_stay 260 = .ok (.iadd, 1) := by decide +kernel
theorem dX12_stay_261 : decode cX12_stay 261 = .ok (.aload_n 0, 1) := by decide +kernel
theorem dX12_stay_262 : decode cX12_stay 262 = .ok (.getfield 128, 3) := by decide +kernel
theorem dX12_stay_265 : decode cX12_stay 265 = .ok (.iload_n 1, 1) := by decide +kernel
theorem dX12_stay_266 : decode cX12_stay 266 = .ok (.iaload, 1) := by decide +kernel
theorem dX12_stay_267 : decode cX12_stay 267 = .ok (.iastore, 1) := by decide +kernel
theorem dX12_stay_268 : decode cX12_stay 268 = .ok (.iinc 1 1, 3) := by decide +kernel
theorem dX12_stay_271 : decode cX12_stay 271 = .ok (.goto (-28), 3) := by decide +kernel
theorem dX12_stay_274 : decode cX12_stay 274 = .ok (.aload_n 0, 1) := by decide +kernel
theorem dX12_stay_275 : decode cX12_stay 275 = .ok (.aload_n 0, 1) := by decide +kernel
theorem dX12_stay_276 : decode cX12_stay 276 = .ok (.getfield 402, 3) := by decide +kernel
theorem dX12_stay_279 : decode cX12_stay 279 = .ok (.aload_n 0, 1) := by decide +kernel
theorem dX12_stay_280 : decode cX12_stay 280 = .ok (.getfield 433, 3) := by decide +kernel
theorem dX12_stay_283 : decode cX12_stay 283 = .ok (.iadd, 1) := by decide +kernel
theorem dX12_stay_284 : decode cX12_stay 284 = .ok (.putfield 402, 3) := by decide +kernel
theorem dX12_stay_287 : decode cX12_stay 287 = .ok (.aload_n 0, 1) := by decide +kernel
theorem dX12_stay_288 : decode cX12_stay 288 = .ok (.aload_n 0, 1) := by decide +kernel
theorem dX12_stay_289 : decode cX12_stay 289 = .ok (.getfield 405, 3) := by decide +kernel
theorem dX12_stay_292 : decode cX12_stay 292 = .ok (.aload_n 0, 1) := by decide +kernel
theorem dX12_stay_293 : decode cX12_stay 293 = .ok (.getfield 436, 3) := by decide +kernel
theorem dX12_stay_296 : decode cX12_stay 296 = .ok (.iadd, 1) := by decide +kernel
theorem dX12_stay_297 : decode cX12_stay 297 = .ok (.putfield 405, 3) := by decide +kernel
theorem dX12_stay_300 : decode cX12_stay 300 = .ok (.return_, 1) := by decide +kernel
theorem dX12_place_0 : decode cX12_place 0 = .ok (.aload_n 0, 1) := by decide +kernel
theorem dX12_place_1 : decode cX12_place 1 = .ok (.iconst 0, 1) := by decide +kernel
theorem dX12_place_2 : decode cX12_place 2 = .ok (.putfield 168, 3) := by decide +kernel
theorem dX12_place_5 : decode cX12_place 5 = .ok (.aload_n 0, 1) := by decide +kernel
theorem dX12_place_6 : decode cX12_place 6 = .ok (.getfield 13, 3) := by decide +kernel
theorem dX12_place_9 : decode cX12_place 9 = .ok (.ireturn, 1) := by decide +kernel
theorem dX12_count_0 : decode cX12_count 0 = .ok (.aload_n 0, 1) := by decide +kernel
theorem dX12_count_1 : decode cX12_count 1 = .ok (.iconst 0, 1) := by decide +kernel
theorem dX12_count_2 : decode cX12_count 2 = .ok (.putfield 168, 3) := by decide +kernel
theorem dX12_count_5 : decode cX12_count 5 = .ok (.iconst 0, 1) := by decide +kernel
theorem dX12_count_6 : decode cX12_count 6 = .ok (.istore_n 2, 1) := by decide +kernel
theorem dX12_count_7 : decode cX12_count 7 = .ok (.iconst 0, 1) := by decide +kernel
theorem dX12_count_8 : decode cX12_count 8 = .ok (.istore_n 3, 1) := by decide +kernel
theorem dX12_count_9 : decode cX12_count 9 = .ok (.iload_n 3, 1) := by decide +kernel
theorem dX12_count_10 : decode cX12_count 10 = .ok (.aload_n 0, 1) := by decide +kernel
theorem dX12_count_11 : decode cX12_count 11 = .ok (.getfield 165, 3) := by decide +kernel
theorem dX12_count_14 : decode cX12_count 14 = .ok (.if_icmp .ge 26, 3) := by decide +kernel
theorem dX12_count_17 : decode cX12_count 17 = .ok (.aload_n 0, 1) := by decide +kernel
theorem dX12_count_18 : decode cX12_count 18 = .ok (.getfield 25, 3) := by decide +kernel
theorem dX12_count_21 : decode cX12_count 21 = .ok (.iload_n 3, 1) := by decide +kernel
theorem dX12_count_22 : decode cX12_count 22 = .ok (.iaload, 1) := by decide +kernel
theorem dX12_count_23 : decode cX12_count 23 = .ok (.ifCond .le 9, 3) := by decide +kernel
theorem dX12_count_26 : decode cX12_count 26 = .ok (.iload_n 2, 1) := by decide +kernel
theorem dX12_count_27 : decode cX12_count 27 = .ok (.iconst 1, 1) := by decide +kernel
theorem dX12_count_28 : decode cX12_count 28 = .ok (.iadd, 1) := by decide +kernel
theorem dX12_count_29 : decode cX12_count 29 = .ok (.goto 4, 3) := by decide +kernel
theorem dX12_count_32 : decode cX12_count 32 = .ok (.iload_n 2, 1) := by decide +kernel
theorem dX12_count_33 : decode cX12_count 33 = .ok (.istore_n 2, 1) := by decide +kernel
theorem dX12_count_34 : decode cX12_count 34 = .ok (.iinc 3 1, 3) := by decide +kernel
theorem dX12_count_37 : decode cX12_count 37 = .ok (.goto (-28), 3) := by decide +kernel
theorem dX12_count_40 : decode cX12_count 40 = .ok (.iload_n 1, 1) := by decide +kernel
theorem dX12_count_41 : decode cX12_count 41 = .ok (.ifCond .ne 10, 3) := by decide +kernel
theorem dX12_count_44 : decode cX12_count 44 = .ok (.aload_n 0, 1) := by decide +kernel
theorem dX12_count_45 : decode cX12_count 45 = .ok (.getfield 418, 3) := by decide +kernel
theorem dX12_count_48 : decode cX12_count 48 = .ok (.goto 61, 3) := by decide +kernel
theorem dX12_count_51 : decode cX12_count 51 = .ok (.iload_n 1, 1) := by decide +kernel
theorem dX12_count_52 : decode cX12_count 52 = .ok (.iconst 1, 1) := by decide +kernel
theorem dX12_count_53 : decode cX12_count 53 = .ok (.if_icmp .ne 10, 3) := by decide +kernel
theorem dX12_count_56 : decode cX12_count 56 = .ok (.aload_n 0, 1) := by decide +kernel
theorem dX12_count_57 : decode cX12_count 57 = .ok (.getfield 421, 3) := by decide +kernel
theorem dX12_count_60 : decode cX12_count 60 = .ok (.goto 49, 3) := by decide +kernel
theorem dX12_count_63 : decode cX12_count 63 = .ok (.iload_n 1, 1) := by decide +kernel
theorem dX12_count_64 : decode cX12_count 64 = .ok (.iconst 2, 1) := by decide +kernel
theorem dX12_count_65 : decode cX12_count 65 = .ok (.if_icmp .ne 10, 3) := by decide +kernel
theorem dX12_count_68 : decode cX12_count 68 = .ok (.aload_n 0, 1) := by decide +kernel
theorem dX12_count_69 : decode cX12_count 69 = .ok (.getfield 424, 3) := by decide +kernel
theorem dX12_count_72 : decode cX12_count 72 = .ok (.goto 37, 3) := by decide +kernel
theorem dX12_count_75 : decode cX12_count 75 = .ok (.iload_n 1, 1) := by decide +kernel
theorem dX12_count_76 : decode cX12_count 76 = .ok (.iconst 3, 1) := by decide +kernel
theorem dX12_count_77 : decode cX12_count 77 = .ok (.if_icmp .ne 10, 3) := by decide +kernel
theorem dX12_count_80 : decode cX12_count 80 = .ok (.aload_n 0, 1) := by decide +kernel
theorem dX12_count_81 : decode cX12_count 81 = .ok (.getfield 427, 3) := by decide +kernel
theorem dX12_count_84 : decode cX12_count 84 = .ok (.goto 25, 3) := by decide +kernel
theorem dX12_count_87 : decode cX12_count 87 = .ok (.iload_n 1, 1) := by decide +kernel
theorem dX12_count_88 : decode cX12_count 88 = .ok (.iconst 4, 1) := by decide +kernel
theorem dX12_count_89 : decode cX12_count 89 = .ok (.if_icmp .ne 7, 3) := by decide +kernel
theorem dX12_count_92 : decode cX12_count 92 = .ok (.iload_n 2, 1) := by decide +kernel
theorem dX12_count_93 : decode cX12_count 93 = .ok (.goto 16, 3) := by decide +kernel
theorem dX12_count_96 : decode cX12_count 96 = .ok (.iload_n 1, 1) := by decide +kernel
theorem dX12_count_97 : decode cX12_count 97 = .ok (.iconst 5, 1) := by decide +kernel
theorem dX12_count_98 : decode cX12_count 98 = .ok (.if_icmp .ne 10, 3) := by decide +kernel
theorem dX12_count_101 : decode cX12_count 101 = .ok (.aload_n 0, 1) := by decide +kernel
theorem dX12_count_102 : decode cX12_count 102 = .ok (.getfield 390, 3) := by decide +kernel
theorem dX12_count_105 : decode cX12_count 105 = .ok (.goto 4, 3) := by decide +kernel
theorem dX12_count_108 : decode cX12_count 108 = .ok (.iconst (-1), 1) := by decide +kernel
theorem dX12_count_109 : decode cX12_count 109 = .ok (.ireturn, 1) := by decide +kernel
theorem dX12_character_0 : decode cX12_character 0 = .ok (.aload_n 0, 1) := by decide +kernel
theorem dX12_character_1 : decode cX12_character 1 = .ok (.iconst 0, 1) := by decide +kernel
theorem dX12_character_2 : decode cX12_character 2 = .ok (.putfield 168, 3) := by decide +kernel
theorem dX12_character_5 : decode cX12_character 5 = .ok (.iload_n 1, 1) := by decide +kernel
theorem dX12_character_6 : decode cX12_character 6 = .ok (.ifCond .lt 20, 3) := by decide +kernel
theorem dX12_character_9 : decode cX12_character 9 = .ok (.iload_n 1, 1) := by decide +kernel
theorem dX12_character_10 : decode cX12_character 10 = .ok (.aload_n 0, 1) := by decide +kernel
theorem dX12_character_11 : decode cX12_character 11 = .ok (.getfield 418, 3) := by decide +kernel
theorem dX12_character_14 : decode cX12_character 14 = .ok (.if_icmp .ge 12, 3) := by decide +kernel
theorem dX12_character_17 : decode cX12_character 17 = .ok (.aload_n 0, 1) := by decide +kernel
theorem dX12_character_18 : decode cX12_character 18 = .ok (.getfield 82, 3) := by decide +kernel
theorem dX12_character_21 : decode cX12_character 21 = .ok (.iload_n 1, 1) := by decide +kernel
theorem dX12_character_22 : decode cX12_character 22 = .ok (.baload, 1) := by decide +kernel
theorem dX12_character_23 : decode cX12_character 23 = .ok (.goto 4, 3) := by decide +kernel
theorem dX12_character_26 : decode cX12_character 26 = .ok (.iconst (-1), 1) := by decide +kernel
theorem dX12_character_27 : decode cX12_character 27 = .ok (.ireturn, 1) := by decide +kernel
theorem dX12_means_0 : decode cX12_means 0 = .ok (.aload_n 0, 1) := by decide +kernel
theorem dX12_means_1 : decode cX12_means 1 = .ok (.iconst 0, 1) := by decide +kernel
theorem dX12_means_2 : decode cX12_means 2 = .ok (.putfield 168, 3) := by decide +kernel
theorem dX12_means_5 : decode cX12_means 5 = .ok (.aload_n 0, 1) := by decide +kernel
theorem dX12_means_6 : decode cX12_means 6 = .ok (.aload_n 0, 1) := by decide +kernel
theorem dX12_means_7 : decode cX12_means 7 = .ok (.getfield 402, 3) := by decide +kernel
theorem dX12_means_10 : decode cX12_means 10 = .ok (.putfield 196, 3) := by decide +kernel
theorem dX12_means_13 : decode cX12_means 13 = .ok (.aload_n 0, 1) := by decide +kernel
theorem dX12_means_14 : decode cX12_means 14 = .ok (.aload_n 0, 1) := by decide +kernel
theorem dX12_means_15 : decode cX12_means 15 = .ok (.getfield 405, 3) := by decide +kernel
theorem dX12_means_18 : decode cX12_means 18 = .ok (.putfield 220, 3) := by decide +kernel
theorem dX12_means_21 : decode cX12_means 21 = .ok (.aload_n 0, 1) := by decide +kernel
theorem dX12_means_22 : decode cX12_means 22 = .ok (.invokevirtual 411, 3) := by decide +kernel
theorem dX12_means_25 : decode cX12_means 25 = .ok (.istore_n 1, 1) := by decide +kernel
theorem dX12_means_26 : decode cX12_means 26 = .ok (.aload_n 0, 1) := by decide +kernel
theorem dX12_means_27 : decode cX12_means 27 = .ok (.iconst 0, 1) := by decide +kernel
theorem dX12_means_28 : decode cX12_means 28 = .ok (.putfield 171, 3) := by decide +kernel
theorem dX12_means_31 : decode cX12_means 31 = .ok (.iload_n 1, 1) := by decide +kernel
theorem dX12_means_32 : decode cX12_means 32 = .ok (.ifCond .eq 24, 3) := by decide +kernel
theorem dX12_means_35 : decode cX12_means 35 = .ok (.aload_n 0, 1) := by decide +kernel
theorem dX12_means_36 : decode cX12_means 36 = .ok (.getfield 203, 3) := by decide +kernel
theorem dX12_means_39 : decode cX12_means 39 = .ok (.iconst 1, 1) := by decide +kernel
theorem dX12_means_40 : decode cX12_means 40 = .ok (.if_icmp .ne 16, 3) := by decide +kernel
theorem dX12_means_43 : decode cX12_means 43 = .ok (.aload_n 0, 1) := by decide +kernel
theorem dX12_means_44 : decode cX12_means 44 = .ok (.aload_n 0, 1) := by decide +kernel
theorem dX12_means_45 : decode cX12_means 45 = .ok (.getfield 85, 3) := by decide +kernel
theorem dX12_means_48 : decode cX12_means 48 = .ok (.iconst 0, 1) := by decide +kernel
theorem dX12_means_49 : decode cX12_means 49 = .ok (.iaload, 1) := by decide +kernel
theorem dX12_means_50 : decode cX12_means 50 = .ok (.invokevirtual 180, 3) := by decide +kernel
theorem dX12_means_53 : decode cX12_means 53 = .ok (.ifCond .ne 5, 3) := by decide +kernel
theorem dX12_means_56 : decode cX12_means 56 = .ok (.iconst (-1), 1) := by decide +kernel
theorem dX12_means_57 : decode cX12_means 57 = .ok (.ireturn, 1) := by decide +kernel
theorem dX12_means_58 : decode cX12_means 58 = .ok (.aload_n 0, 1) := by decide +kernel
theorem dX12_means_59 : decode cX12_means 59 = .ok (.getfield 35, 3) := by decide +kernel
theorem dX12_means_62 : decode cX12_means 62 = .ok (.aload_n 0, 1) := by decide +kernel
theorem dX12_means_63 : decode cX12_means 63 = .ok (.getfield 85, 3) := by decide +kernel
theorem dX12_means_66 : decode cX12_means 66 = .ok (.iconst 0, 1) := by decide +kernel
theorem dX12_means_67 : decode cX12_means 67 = .ok (.iaload, 1) := by decide +kernel
theorem dX12_means_68 : decode cX12_means 68 = .ok (.iaload, 1) := by decide +kernel
theorem dX12_means_69 : decode cX12_means 69 = .ok (.istore_n 2, 1) := by decide +kernel
theorem dX12_means_70 : decode cX12_means 70 = .ok (.iload_n 2, 1) := by decide +kernel
theorem dX12_means_71 : decode cX12_means 71 = .ok (.bipush 6, 2) := by decide +kernel
theorem dX12_means_73 : decode cX12_means 73 = .ok (.if_icmp .gt 7, 3) := by decide +kernel
theorem dX12_means_76 : decode cX12_means 76 = .ok (.iconst 1, 1) := by decide +kernel
theorem dX12_means_77 : decode cX12_means 77 = .ok (.goto 17, 3) := by decide +kernel
theorem dX12_means_80 : decode cX12_means 80 = .ok (.aload_n 0, 1) := by decide +kernel
theorem dX12_means_81 : decode cX12_means 81 = .ok (.getfield 25, 3) := by decide +kernel
theorem dX12_means_84 : decode cX12_means 84 = .ok (.iload_n 2, 1) := by decide +kernel
theorem dX12_means_85 : decode cX12_means 85 = .ok (.iaload, 1) := by decide +kernel
theorem dX12_means_86 : decode cX12_means 86 = .ok (.ifCond .le 7, 3) := by decide +kernel
theorem dX12_means_89 : decode cX12_means 89 = .ok (.iconst 2, 1) := by decide +kernel
theorem dX12_means_90 : decode cX12_means 90 = .ok (.goto 4, 3) := by decide +kernel
theorem dX12_means_93 : decode cX12_means 93 = .ok (.iconst 0, 1) := by decide +kernel
theorem dX12_means_94 : decode cX12_means 94 = .ok (.ireturn, 1) := by decide +kernel
theorem dX12_check_0 : decode cX12_check 0 = .ok (.aload_n 0, 1) := by decide +kernel
theorem dX12_check_1 : decode cX12_check 1 = .ok (.iconst 0, 1) := by decide +kernel
theorem dX12_check_2 : decode cX12_check 2 = .ok (.putfield 168, 3) := by decide +kernel
theorem dX12_check_5 : decode cX12_check 5 = .ok (.iconst 1, 1) := by decide +kernel
theorem dX12_check_6 : decode cX12_check 6 = .ok (.ireturn, 1) := by decide +kernel
theorem dJ0_toCharArray_70df3_0 : decode cJ0_toCharArray_70df3 0 = .ok (.aload_n 0, 1) := by decide +kernel
theorem dJ0_toCharArray_70df3_1 : decode cJ0_toCharArray_70df3 1 = .ok (.invokevirtual 492, 3) := by decide +kernel
theorem dJ0_toCharArray_70df3_4 : decode cJ0_toCharArray_70df3 4 = .ok (.ifCond .eq 13, 3) := by decide +kernel
theorem dJ0_toCharArray_70df3_7 : decode cJ0_toCharArray_70df3 7 = .ok (.aload_n 0, 1) := by decide +kernel
theorem dJ0_toCharArray_70df3_8 : decode cJ0_toCharArray_70df3 8 = .ok (.getfield 9, 3) := by decide +kernel
theorem dJ0_toCharArray_70df3_11 : decode cJ0_toCharArray_70df3 11 = .ok (.invokestatic 299, 3) := by decide +kernel
theorem dJ0_toCharArray_70df3_14 : decode cJ0_toCharArray_70df3 14 = .ok (.goto 10, 3) := by decide +kernel
theorem dJ0_toCharArray_70df3_17 : decode cJ0_toCharArray_70df3 17 = .ok (.aload_n 0, 1) := by decide +kernel
theorem dJ0_toCharArray_70df3_18 : decode cJ0_toCharArray_70df3 18 = .ok (.getfield 9, 3) := by decide +kernel
theorem dJ0_toCharArray_70df3_21 : decode cJ0_toCharArray_70df3 21 = .ok (.invokestatic 303, 3) := by decide +kernel
theorem dJ0_toCharArray_70df3_24 : decode cJ0_toCharArray_70df3 24 = .ok (.areturn, 1) := by decide +kernel
theorem dJ0_isLatin1_aae02_0 : decode cJ0_isLatin1_aae02 0 = .ok (.getstatic 38, 3) := by decide +kernel
theorem dJ0_isLatin1_aae02_3 : decode cJ0_isLatin1_aae02 3 = .ok (.ifCond .eq 14, 3) := by decide +kernel
theorem dJ0_isLatin1_aae02_6 : decode cJ0_isLatin1_aae02 6 = .ok (.aload_n 0, 1) := by decide +kernel
theorem dJ0_isLatin1_aae02_7 : decode cJ0_isLatin1_aae02 7 = .ok (.getfield 15, 3) := by decide +kernel
theorem dJ0_isLatin1_aae02_10 : decode cJ0_isLatin1_aae02 10 = .ok (.ifCond .ne 7, 3) := by decide +kernel
theorem dJ0_isLatin1_aae02_13 : decode cJ0_isLatin1_aae02 13 = .ok (.iconst 1, 1) := by decide +kernel
theorem dJ0_isLatin1_aae02_14 : decode cJ0_isLatin1_aae02 14 = .ok (.goto 4, 3) := by decide +kernel
theorem dJ0_isLatin1_aae02_17 : decode cJ0_isLatin1_aae02 17 = .ok (.iconst 0, 1) := by decide +kernel
theorem dJ0_isLatin1_aae02_18 : decode cJ0_isLatin1_aae02 18 = .ok (.ireturn, 1) := by decide +kernel
theorem dJ1_toChars_9d188_0 : decode cJ1_toChars_9d188 0 = .ok (.aload_n 0, 1) := by decide +kernel
theorem dJ1_toChars_9d188_1 : decode cJ1_toChars_9d188 1 = .ok (.arraylength, 1) := by decide +kernel
theorem dJ1_toChars_9d188_2 : decode cJ1_toChars_9d188 2 = .ok (.newarray .char, 2) := by decide +kernel
theorem dJ1_toChars_9d188_4 : decode cJ1_toChars_9d188 4 = .ok (.astore_n 1, 1) := by decide +kernel
theorem dJ1_toChars_9d188_5 : decode cJ1_toChars_9d188 5 = .ok (.aload_n 0, 1) := by decide +kernel
theorem dJ1_toChars_9d188_6 : decode cJ1_toChars_9d188 6 = .ok (.iconst 0, 1) := by decide +kernel
theorem dJ1_toChars_9d188_7 : decode cJ1_toChars_9d188 7 = .ok (.aload_n 1, 1) := by decide +kernel
theorem dJ1_toChars_9d188_8 : decode cJ1_toChars_9d188 8 = .ok (.iconst 0, 1) := by decide +kernel
theorem dJ1_toChars_9d188_9 : decode cJ1_toChars_9d188 9 = .ok (.aload_n 0, 1) := by decide +kernel
theorem dJ1_toChars_9d188_10 : decode cJ1_toChars_9d188 10 = .ok (.arraylength, 1) := by decide +kernel
theorem dJ1_toChars_9d188_11 : decode cJ1_toChars_9d188 11 = .ok (.invokestatic 13, 3) := by decide +kernel
theorem dJ1_toChars_9d188_14 : decode cJ1_toChars_9d188 14 = .ok (.aload_n 1, 1) := by decide +kernel
theorem dJ1_toChars_9d188_15 : decode cJ1_toChars_9d188 15 = .ok (.areturn, 1) := by decide +kernel
theorem dJ1_inflate_03870_0 : decode cJ1_inflate_03870 0 = .ok (.iconst 0, 1) := by decide +kernel
theorem dJ1_inflate_03870_1 : decode cJ1_inflate_03870 1 = .ok (.istore 5, 2) := by decide +kernel
theorem dJ1_inflate_03870_3 : decode cJ1_inflate_03870 3 = .ok (.iload 5, 2) := by decide +kernel
theorem dJ1_inflate_03870_5 : decode cJ1_inflate_03870 5 = .ok (.iload 4, 2) := by decide +kernel
theorem dJ1_inflate_03870_7 : decode cJ1_inflate_03870 7 = .ok (.if_icmp .ge 26, 3) := by decide +kernel
theorem dJ1_inflate_03870_10 : decode cJ1_inflate_03870 10 = .ok (.aload_n 2, 1) := by decide +kernel
theorem dJ1_inflate_03870_11 : decode cJ1_inflate_03870 11 = .ok (.iload_n 3, 1) := by decide +kernel
theorem dJ1_inflate_03870_12 : decode cJ1_inflate_03870 12 = .ok (.iinc 3 1, 3) := by decide +kernel
theorem dJ1_inflate_03870_15 : decode cJ1_inflate_03870 15 = .ok (.aload_n 0, 1) := by decide +kernel
theorem dJ1_inflate_03870_16 : decode cJ1_inflate_03870 16 = .ok (.iload_n 1, 1) := by decide +kernel
theorem dJ1_inflate_03870_17 : decode cJ1_inflate_03870 17 = .ok (.iinc 1 1, 3) := by decide +kernel
theorem dJ1_inflate_03870_20 : decode cJ1_inflate_03870 20 = .ok (.baload, 1) := by decide +kernel
theorem dJ1_inflate_03870_21 : decode cJ1_inflate_03870 21 = .ok (.sipush 255, 3) := by decide +kernel
theorem dJ1_inflate_03870_24 : decode cJ1_inflate_03870 24 = .ok (.iand, 1) := by decide +kernel
theorem dJ1_inflate_03870_25 : decode cJ1_inflate_03870 25 = .ok (.i2c, 1) := by decide +kernel
theorem dJ1_inflate_03870_26 : decode cJ1_inflate_03870 26 = .ok (.castore, 1) := by decide +kernel
theorem dJ1_inflate_03870_27 : decode cJ1_inflate_03870 27 = .ok (.iinc 5 1, 3) := by decide +kernel
theorem dJ1_inflate_03870_30 : decode cJ1_inflate_03870 30 = .ok (.goto (-27), 3) := by decide +kernel
theorem dJ1_inflate_03870_33 : decode cJ1_inflate_03870 33 = .ok (.return_, 1) := by decide +kernel
theorem dL_law_0 : decode cL_law 0 = .ok (.new 7, 3) := by decide +kernel
theorem dL_law_3 : decode cL_law 3 = .ok (.dup, 1) := by decide +kernel
theorem dL_law_4 : decode cL_law 4 = .ok (.invokespecial 9, 3) := by decide +kernel
theorem dL_law_7 : decode cL_law 7 = .ok (.astore_n 1, 1) := by decide +kernel
theorem dL_law_8 : decode cL_law 8 = .ok (.new 10, 3) := by decide +kernel
theorem dL_law_11 : decode cL_law 11 = .ok (.dup, 1) := by decide +kernel
theorem dL_law_12 : decode cL_law 12 = .ok (.invokespecial 12, 3) := by decide +kernel
theorem dL_law_15 : decode cL_law 15 = .ok (.astore_n 2, 1) := by decide +kernel
theorem dL_law_16 : decode cL_law 16 = .ok (.iconst 0, 1) := by decide +kernel
theorem dL_law_17 : decode cL_law 17 = .ok (.istore_n 3, 1) := by decide +kernel
theorem dL_law_18 : decode cL_law 18 = .ok (.iload_n 3, 1) := by decide +kernel
theorem dL_law_19 : decode cL_law 19 = .ok (.aload_n 0, 1) := by decide +kernel
theorem dL_law_20 : decode cL_law 20 = .ok (.arraylength, 1) := by decide +kernel
theorem dL_law_21 : decode cL_law 21 = .ok (.iconst 4, 1) := by decide +kernel
theorem dL_law_22 : decode cL_law 22 = .ok (.isub, 1) := by decide +kernel
theorem dL_law_23 : decode cL_law 23 = .ok (.if_icmp .gt 220, 3) := by decide +kernel
theorem dL_law_26 : decode cL_law 26 = .ok (.aload_n 0, 1) := by decide +kernel
theorem dL_law_27 : decode cL_law 27 = .ok (.iload_n 3, 1) := by decide +kernel
theorem dL_law_28 : decode cL_law 28 = .ok (.iaload, 1) := by decide +kernel
theorem dL_law_29 : decode cL_law 29 = .ok (.bipush 7, 2) := by decide +kernel
theorem dL_law_31 : decode cL_law 31 = .ok (.iand, 1) := by decide +kernel
theorem dL_law_32 : decode cL_law 32 = .ok (.tableswitch 205 0 6 #[44, 107, 120, 133, 156, 179, 192], 44) := by decide +kernel
theorem dL_law_76 : decode cL_law 76 = .ok (.aload_n 1, 1) := by decide +kernel
theorem dL_law_77 : decode cL_law 77 = .ok (.aload_n 0, 1) := by decide +kernel
theorem dL_law_78 : decode cL_law 78 = .ok (.iload_n 3, 1) := by decide +kernel
theorem dL_law_79 : decode cL_law 79 = .ok (.iconst 1, 1) := by decide +kernel
theorem dL_law_80 : decode cL_law 80 = .ok (.iadd, 1) := by decide +kernel
theorem dL_law_81 : decode cL_law 81 = .ok (.iaload, 1) := by decide +kernel
theorem dL_law_82 : decode cL_law 82 = .ok (.i2l, 1) := by decide +kernel
theorem dL_law_83 : decode cL_law 83 = .ok (.bipush 32, 2) := by decide +kernel
theorem dL_law_85 : decode cL_law 85 = .ok (.lshl, 1) := by decide +kernel
theorem dL_law_86 : decode cL_law 86 = .ok (.aload_n 0, 1) := by decide +kernel
theorem dL_law_87 : decode cL_law 87 = .ok (.iload_n 3, 1) := by decide +kernel
theorem dL_law_88 : decode cL_law 88 = .ok (.iconst 2, 1) := by decide +kernel
theorem dL_law_89 : decode cL_law 89 = .ok (.iadd, 1) := by decide +kernel
theorem dL_law_90 : decode cL_law 90 = .ok (.iaload, 1) := by decide +kernel
theorem dL_law_91 : decode cL_law 91 = .ok (.i2l, 1) := by decide +kernel
theorem dL_law_92 : decode cL_law 92 = .ok (.ldc2_w 13, 3) := by decide +kernel
theorem dL_law_95 : decode cL_law 95 = .ok (.land, 1) := by decide +kernel
theorem dL_law_96 : decode cL_law 96 = .ok (.lor, 1) := by decide +kernel
theorem dL_law_97 : decode cL_law 97 = .ok (.aload_n 0, 1) := by decide +kernel
theorem dL_law_98 : decode cL_law 98 = .ok (.iload_n 3, 1) := by decide +kernel
theorem dL_law_99 : decode cL_law 99 = .ok (.iconst 3, 1) := by decide +kernel
theorem dL_law_100 : decode cL_law 100 = .ok (.iadd, 1) := by decide +kernel
theorem dL_law_101 : decode cL_law 101 = .ok (.iaload, 1) := by decide +kernel
theorem dL_law_102 : decode cL_law 102 = .ok (.invokevirtual 15, 3) := by decide +kernel
theorem dL_law_105 : decode cL_law 105 = .ok (.aload_n 2, 1) := by decide +kernel
theorem dL_law_106 : decode cL_law 106 = .ok (.aload_n 0, 1) := by decide +kernel
theorem dL_law_107 : decode cL_law 107 = .ok (.iload_n 3, 1) := by decide +kernel
theorem dL_law_108 : decode cL_law 108 = .ok (.iconst 1, 1) := by decide +kernel
theorem dL_law_109 : decode cL_law 109 = .ok (.iadd, 1) := by decide +kernel
theorem dL_law_110 : decode cL_law 110 = .ok (.iaload, 1) := by decide +kernel
theorem dL_law_111 : decode cL_law 111 = .ok (.i2l, 1) := by decide +kernel
theorem dL_law_112 : decode cL_law 112 = .ok (.bipush 32, 2) := by decide +kernel
theorem dL_law_114 : decode cL_law 114 = .ok (.lshl, 1) := by decide +kernel
theorem dL_law_115 : decode cL_law 115 = .ok (.aload_n 0, 1) := by decide +kernel
theorem dL_law_116 : decode cL_law 116 = .ok (.iload_n 3, 1) := by decide +kernel
theorem dL_law_117 : decode cL_law 117 = .ok (.iconst 2, 1) := by decide +kernel
theorem dL_law_118 : decode cL_law 118 = .ok (.iadd, 1) := by decide +kernel
theorem dL_law_119 : decode cL_law 119 = .ok (.iaload, 1) := by decide +kernel
theorem dL_law_120 : decode cL_law 120 = .ok (.i2l, 1) := by decide +kernel
theorem dL_law_121 : decode cL_law 121 = .ok (.ldc2_w 13, 3) := by decide +kernel
theorem dL_law_124 : decode cL_law 124 = .ok (.land, 1) := by decide +kernel
theorem dL_law_125 : decode cL_law 125 = .ok (.lor, 1) := by decide +kernel
theorem dL_law_126 : decode cL_law 126 = .ok (.aload_n 0, 1) := by decide +kernel
theorem dL_law_127 : decode cL_law 127 = .ok (.iload_n 3, 1) := by decide +kernel
theorem dL_law_128 : decode cL_law 128 = .ok (.iconst 3, 1) := by decide +kernel
theorem dL_law_129 : decode cL_law 129 = .ok (.iadd, 1) := by decide +kernel
theorem dL_law_130 : decode cL_law 130 = .ok (.iaload, 1) := by decide +kernel
theorem dL_law_131 : decode cL_law 131 = .ok (.invokevirtual 19, 3) := by decide +kernel
theorem dL_law_134 : decode cL_law 134 = .ok (.if_icmp .eq 103, 3) := by decide +kernel
theorem dL_law_137 : decode cL_law 137 = .ok (.iconst 0, 1) := by decide +kernel
theorem dL_law_138 : decode cL_law 138 = .ok (.ireturn, 1) := by decide +kernel
theorem dL_law_139 : decode cL_law 139 = .ok (.aload_n 1, 1) := by decide +kernel
theorem dL_law_140 : decode cL_law 140 = .ok (.invokevirtual 20, 3) := by decide +kernel
theorem dL_law_143 : decode cL_law 143 = .ok (.aload_n 2, 1) := by decide +kernel
theorem dL_law_144 : decode cL_law 144 = .ok (.invokevirtual 24, 3) := by decide +kernel
theorem dL_law_147 : decode cL_law 147 = .ok (.if_icmp .eq 90, 3) := by decide +kernel
theorem dL_law_150 : decode cL_law 150 = .ok (.iconst 0, 1) := by decide +kernel
theorem dL_law_151 : decode cL_law 151 = .ok (.ireturn, 1) := by decide +kernel
theorem dL_law_152 : decode cL_law 152 = .ok (.aload_n 1, 1) := by decide +kernel
theorem dL_law_153 : decode cL_law 153 = .ok (.invokevirtual 25, 3) := by decide +kernel
theorem dL_law_156 : decode cL_law 156 = .ok (.aload_n 2, 1) := by decide +kernel
theorem dL_law_157 : decode cL_law 157 = .ok (.invokevirtual 28, 3) := by decide +kernel
theorem dL_law_160 : decode cL_law 160 = .ok (.if_icmp .eq 77, 3) := by decide +kernel
theorem dL_law_163 : decode cL_law 163 = .ok (.iconst 0, 1) := by decide +kernel
theorem dL_law_164 : decode cL_law 164 = .ok (.ireturn, 1) := by decide +kernel
theorem dL_law_165 : decode cL_law 165 = .ok (.aload_n 1, 1) := by decide +kernel
theorem dL_law_166 : decode cL_law 166 = .ok (.aload_n 0, 1) := by decide +kernel
theorem dL_law_167 : decode cL_law 167 = .ok (.iload_n 3, 1) := by decide +kernel
theorem dL_law_168 : decode cL_law 168 = .ok (.iconst 1, 1) := by decide +kernel
theorem dL_law_169 : decode cL_law 169 = .ok (.iadd, 1) := by decide +kernel
theorem dL_law_170 : decode cL_law 170 = .ok (.iaload, 1) := by decide +kernel
theorem dL_law_171 : decode cL_law 171 = .ok (.invokevirtual 29, 3) := by decide +kernel
theorem dL_law_174 : decode cL_law 174 = .ok (.aload_n 2, 1) := by decide +kernel
theorem dL_law_175 : decode cL_law 175 = .ok (.aload_n 0, 1) := by decide +kernel
theorem dL_law_176 : decode cL_law 176 = .ok (.iload_n 3, 1) := by decide +kernel
theorem dL_law_177 : decode cL_law 177 = .ok (.iconst 1, 1) := by decide +kernel
theorem dL_law_178 : decode cL_law 178 = .ok (.iadd, 1) := by decide +kernel
theorem dL_law_179 : decode cL_law 179 = .ok (.iaload, 1) := by decide +kernel
theorem dL_law_180 : decode cL_law 180 = .ok (.invokevirtual 33, 3) := by decide +kernel
theorem dL_law_183 : decode cL_law 183 = .ok (.if_icmp .eq 54, 3) := by decide +kernel
theorem dL_law_186 : decode cL_law 186 = .ok (.iconst 0, 1) := by decide +kernel
theorem dL_law_187 : decode cL_law 187 = .ok (.ireturn, 1) := by decide +kernel
theorem dL_law_188 : decode cL_law 188 = .ok (.aload_n 1, 1) := by decide +kernel
theorem dL_law_189 : decode cL_law 189 = .ok (.aload_n 0, 1) := by decide +kernel
theorem dL_law_190 : decode cL_law 190 = .ok (.iload_n 3, 1) := by decide +kernel
theorem dL_law_191 : decode cL_law 191 = .ok (.iconst 1, 1) := by decide +kernel
theorem dL_law_192 : decode cL_law 192 = .ok (.iadd, 1) := by decide +kernel
theorem dL_law_193 : decode cL_law 193 = .ok (.iaload, 1) := by decide +kernel
theorem dL_law_194 : decode cL_law 194 = .ok (.invokevirtual 34, 3) := by decide +kernel
theorem dL_law_197 : decode cL_law 197 = .ok (.aload_n 2, 1) := by decide +kernel
theorem dL_law_198 : decode cL_law 198 = .ok (.aload_n 0, 1) := by decide +kernel
theorem dL_law_199 : decode cL_law 199 = .ok (.iload_n 3, 1) := by decide +kernel
theorem dL_law_200 : decode cL_law 200 = .ok (.iconst 1, 1) := by decide +kernel
theorem dL_law_201 : decode cL_law 201 = .ok (.iadd, 1) := by decide +kernel
theorem dL_law_202 : decode cL_law 202 = .ok (.iaload, 1) := by decide +kernel
theorem dL_law_203 : decode cL_law 203 = .ok (.invokevirtual 37, 3) := by decide +kernel
theorem dL_law_206 : decode cL_law 206 = .ok (.if_icmp .eq 31, 3) := by decide +kernel
theorem dL_law_209 : decode cL_law 209 = .ok (.iconst 0, 1) := by decide +kernel
theorem dL_law_210 : decode cL_law 210 = .ok (.ireturn, 1) := by decide +kernel
theorem dL_law_211 : decode cL_law 211 = .ok (.aload_n 1, 1) := by decide +kernel
theorem dL_law_212 : decode cL_law 212 = .ok (.invokevirtual 38, 3) := by decide +kernel
theorem dL_law_215 : decode cL_law 215 = .ok (.aload_n 2, 1) := by decide +kernel
theorem dL_law_216 : decode cL_law 216 = .ok (.invokevirtual 41, 3) := by decide +kernel
theorem dL_law_219 : decode cL_law 219 = .ok (.if_icmp .eq 18, 3) := by decide +kernel
theorem dL_law_222 : decode cL_law 222 = .ok (.iconst 0, 1) := by decide +kernel
theorem dL_law_223 : decode cL_law 223 = .ok (.ireturn, 1) := by decide +kernel
theorem dL_law_224 : decode cL_law 224 = .ok (.aload_n 1, 1) := by decide +kernel
theorem dL_law_225 : decode cL_law 225 = .ok (.invokevirtual 42, 3) := by decide +kernel
theorem dL_law_228 : decode cL_law 228 = .ok (.aload_n 2, 1) := by decide +kernel
theorem dL_law_229 : decode cL_law 229 = .ok (.invokevirtual 45, 3) := by decide +kernel
theorem dL_law_232 : decode cL_law 232 = .ok (.if_icmp .eq 5, 3) := by decide +kernel
theorem dL_law_235 : decode cL_law 235 = .ok (.iconst 0, 1) := by decide +kernel
theorem dL_law_236 : decode cL_law 236 = .ok (.ireturn, 1) := by decide +kernel
theorem dL_law_237 : decode cL_law 237 = .ok (.iinc 3 4, 3) := by decide +kernel
theorem dL_law_240 : decode cL_law 240 = .ok (.goto (-222), 3) := by decide +kernel
theorem dL_law_243 : decode cL_law 243 = .ok (.iconst 1, 1) := by decide +kernel
theorem dL_law_244 : decode cL_law 244 = .ok (.ireturn, 1) := by decide +kernel
end
section
set_option maxRecDepth 20000 in
theorem ggX0_init_X2_init : GoodIn wsX0_init wsX2_init := goodIn_r _ [38, 39, 2, 3, 40, 41, 42, 43, 44, 45, 46, 47, 48, 96, 97, 98, 99, 100, 101, 102] (by decide +kernel) (by decide +kernel)
set_option maxRecDepth 20000 in
theorem gX0_init_X2_init_n11 : GoodIn wsX0_init (wsX2_init) := ggX0_init_X2_init
set_option maxRecDepth 20000 in
theorem ggX0_init_X5_init : GoodIn wsX0_init wsX5_init := goodIn_r _ [50, 51, 2, 3, 40, 52, 53, 54, 55, 56, 57, 118, 119, 120, 121, 122, 123] (by decide +kernel) (by decide +kernel)
set_option maxRecDepth 20000 in
theorem gX0_init_X5_init_n42 : GoodIn wsX0_init (wsX5_init) := ggX0_init_X5_init
set_option maxRecDepth 20000 in
theorem ggX0_init_X9_init : GoodIn wsX0_init wsX9_init := goodIn_r _ [60, 61, 2, 3, 40, 62, 63, 64, 65, 66, 67, 124, 125, 126, 127, 128, 129] (by decide +kernel) (by decide +kernel)
set_option maxRecDepth 20000 in
theorem gX0_init_X9_init : GoodIn wsX0_init (wsX9_init) := ggX0_init_X9_init
set_option maxRecDepth 20000 in
theorem ggX0_init_X8_init : GoodIn wsX0_init wsX8_init := goodIn_r _ [70, 71, 2, 3, 72, 73, 74, 75, 130, 131, 132, 133] (by decide +kernel) (by decide +kernel)
set_option maxRecDepth 20000 in
theorem gX0_init_X8_init : GoodIn wsX0_init (wsX8_init) := ggX0_init_X8_init
set_option maxRecDepth 20000 in
theorem ggX0_init_X4_init : GoodIn wsX0_init wsX4_init := goodIn_r _ [78, 79, 2, 3, 80, 81, 82, 83, 84, 85, 134, 135, 136, 137, 138, 139] (by decide +kernel) (by decide +kernel)
set_option maxRecDepth 20000 in
theorem gX0_init_X4_init : GoodIn wsX0_init (wsX4_init) := ggX0_init_X4_init
set_option maxRecDepth 20000 in
theorem ggX0_init_X3_init : GoodIn wsX0_init wsX3_init := goodIn_r _ [88, 89, 2, 3, 90, 91, 92, 93, 94, 95, 140, 141, 142, 143, 144, 145] (by decide +kernel) (by decide +kernel)
set_option maxRecDepth 20000 in
theorem gX0_init_X3_init : GoodIn wsX0_init (wsX3_init) := ggX0_init_X3_init
set_option maxRecDepth 20000 in
theorem ggX0_tellText_X0_startText : GoodIn wsX0_tellText wsX0_startText := goodIn_r _ [12, 5, 4, 13, 3, 14, 15, 16, 17, 552, 553, 554, 555, 556, 557, 558, 559, 560, 561, 562, 563, 564, 565, 566, 571, 572, 573, 574, 575, 576, 577] (by decide +kernel) (by decide +kernel)
set_option maxRecDepth 20000 in
theorem gX0_tellText_X0_startText : GoodIn wsX0_tellText (wsV RX0 91 RX0 yX0_startText wsX0_startText) := goodIn_app (goodIn_of _ (by decide +kernel)) ggX0_tellText_X0_startText
set_option maxRecDepth 20000 in
theorem ggX0_tellText_X9_leaveTo : GoodIn wsX0_tellText wsX9_leaveTo := goodIn_r _ [57, 58, 59, 60, 61, 62, 63, 64, 65, 66, 67, 596, 597, 598, 599, 600, 601, 583, 584, 585, 586, 587, 588, 589, 590, 591, 592, 593, 594, 595] (by decide +kernel) (by decide +kernel)
set_option maxRecDepth 20000 in
theorem gX0_tellText_X9_leaveTo : GoodIn wsX0_tellText (wsV RX0 139 RX9 yX9_leaveTo wsX9_leaveTo) := goodIn_app (goodIn_of _ (by decide +kernel)) ggX0_tellText_X9_leaveTo
set_option maxRecDepth 20000 in
theorem ggX6_init_X6_addGiven : GoodIn wsX6_init wsX6_addGiven := goodIn_r _ [23, 24, 25, 26, 27, 28, 29, 30, 31, 32, 33, 34, 35, 36, 37, 38, 39, 40, 41, 42, 43, 44, 45, 46, 47, 48, 49, 50, 51, 52, 53, 54, 55, 56, 57, 58, 59, 60, 61, 62, 63, 64, 65, 66, 67, 68, 69, 70, 71, 72, 22, 73, 74, 75, 76, 77, 10, 5, 6, 8, 78, 79, 80, 81, 17, 12, 13, 14, 15, 82, 83, 84, 85, 86, 87, 88, 89, 90, 91, 92, 93, 94] (by decide +kernel) (by decide +kernel)
set_option maxRecDepth 20000 in
theorem gX6_init_X6_addGiven : GoodIn wsX6_init (wsV RX6 55 RX6 yX6_addGiven wsX6_addGiven) := goodIn_app (goodIn_of _ (by decide +kernel)) ggX6_init_X6_addGiven
set_option maxRecDepth 20000 in
theorem ggX6_addGiven_J0_toCharArray_70df3 : GoodIn wsX6_addGiven wsJ0_toCharArray_70df3 := goodIn_r _ [5, 6, 7, 8, 9, 4, 10, 11, 12, 13, 14, 15, 16, 17, 18, 19, 20, 21, 22, 23, 24, 25, 26, 27, 28, 29, 30, 31, 32, 33, 34, 35, 36, 37, 38, 39, 40, 41, 42, 43, 44, 45, 46, 47] (by decide +kernel) (by decide +kernel)
set_option maxRecDepth 20000 in
theorem gX6_addGiven_J0_toCharArray_70df3 : GoodIn wsX6_addGiven (wsV RX6 75 RJ0 yJ0_toCharArray_70df3 wsJ0_toCharArray_70df3) := goodIn_app (goodIn_of _ (by decide +kernel)) ggX6_addGiven_J0_toCharArray_70df3
set_option maxRecDepth 20000 in
theorem ggX6_addGiven_X6_half : GoodIn wsX6_addGiven wsX6_half := goodIn_r _ [51] (by decide +kernel) (by decide +kernel)
set_option maxRecDepth 20000 in
theorem gX6_addGiven_X6_half : GoodIn wsX6_addGiven (va_wsS RX6 81 yX6_half wsX6_half) := goodIn_app (goodIn_of _ (by decide +kernel)) ggX6_addGiven_X6_half
set_option maxRecDepth 20000 in
theorem ggX6_addGiven_X6_addSymbol : GoodIn wsX6_addGiven wsX6_addSymbol := goodIn_r _ [55, 56, 57, 58, 59, 60, 61, 62, 50, 63, 64, 65, 66, 67, 68, 69, 70, 71, 72, 73, 74, 75, 76, 77, 78, 79, 80, 81] (by decide +kernel) (by decide +kernel)
set_option maxRecDepth 20000 in
theorem gX6_addGiven_X6_addSymbol : GoodIn wsX6_addGiven (wsV RX6 85 RX6 yX6_addSymbol wsX6_addSymbol) := goodIn_app (goodIn_of _ (by decide +kernel)) ggX6_addGiven_X6_addSymbol
set_option maxRecDepth 20000 in
theorem ggX6_addSymbol_X6_addName : GoodIn wsX6_addSymbol wsX6_addName := goodIn_r _ [9, 10, 11, 12, 13, 14, 15, 16, 17, 18, 19, 20, 21, 22, 23, 24, 25, 26, 27] (by decide +kernel) (by decide +kernel)
set_option maxRecDepth 20000 in
theorem gX6_addSymbol_X6_addName : GoodIn wsX6_addSymbol (wsV RX6 95 RX6 yX6_addName wsX6_addName) := goodIn_app (goodIn_of _ (by decide +kernel)) ggX6_addSymbol_X6_addName
set_option maxRecDepth 20000 in
theorem ggX7_addForms_X7_tokenFrom : GoodIn wsX7_addForms wsX7_tokenFrom := goodIn_r _ [10] (by decide +kernel) (by decide +kernel)
set_option maxRecDepth 20000 in
theorem gX7_addForms_X7_tokenFrom : GoodIn wsX7_addForms (wsV RX7 27 RX7 yX7_tokenFrom wsX7_tokenFrom) := goodIn_app (goodIn_of _ (by decide +kernel)) ggX7_addForms_X7_tokenFrom
set_option maxRecDepth 20000 in
theorem ggX7_addForms_X7_tokenEnd : GoodIn wsX7_addForms wsX7_tokenEnd := goodIn_r _ [14, 15, 16, 9, 17] (by decide +kernel) (by decide +kernel)
set_option maxRecDepth 20000 in
theorem gX7_addForms_X7_tokenEnd : GoodIn wsX7_addForms (wsV RX7 31 RX7 yX7_tokenEnd wsX7_tokenEnd) := goodIn_app (goodIn_of _ (by decide +kernel)) ggX7_addForms_X7_tokenEnd
set_option maxRecDepth 20000 in
theorem ggX11_init_X6_init : GoodIn wsX11_init wsX6_init := goodIn_r _ [33, 34, 2, 3, 35, 36, 37, 38, 39, 40, 41, 42, 43, 44, 45, 46, 47, 48, 49, 50, 51, 52, 8, 53, 54, 55, 56, 57, 58, 59, 60, 61, 62, 63, 64, 65, 66, 67, 68, 69, 4, 70, 71, 72, 73, 74, 75, 76, 77, 78, 79, 80, 81, 82, 83, 84, 85, 86, 87, 88, 89, 90, 91, 92, 93, 94, 95, 96, 97, 98, 99, 100, 101, 102, 103, 104, 105, 106, 107, 108, 109, 110, 240, 241, 242, 243, 244, 245, 246, 247, 248, 249, 250, 251, 252] (by decide +kernel) (by decide +kernel)
set_option maxRecDepth 20000 in
theorem gX11_init_X6_init : GoodIn wsX11_init (wsX6_init) := ggX11_init_X6_init
set_option maxRecDepth 20000 in
theorem ggX11_init_X1_init : GoodIn wsX11_init wsX1_init := goodIn_r _ [112, 113, 2, 3, 38, 114, 115, 116, 117, 253, 254, 255, 256] (by decide +kernel) (by decide +kernel)
set_option maxRecDepth 20000 in
theorem gX11_init_X1_init_n22 : GoodIn wsX11_init (wsX1_init) := ggX11_init_X1_init
set_option maxRecDepth 20000 in
theorem ggX11_init_X10_init : GoodIn wsX11_init wsX10_init := goodIn_r _ [119, 120, 2, 3, 4, 121, 122, 123, 124, 125, 257, 258, 259, 260, 261] (by decide +kernel) (by decide +kernel)
set_option maxRecDepth 20000 in
theorem gX11_init_X10_init_n29 : GoodIn wsX11_init (wsX10_init) := ggX11_init_X10_init
set_option maxRecDepth 20000 in
theorem ggX11_init_X7_init : GoodIn wsX11_init wsX7_init := goodIn_r _ [128, 129, 2, 3, 38, 130, 131, 132, 133, 262, 263, 264, 265] (by decide +kernel) (by decide +kernel)
set_option maxRecDepth 20000 in
theorem gX11_init_X7_init : GoodIn wsX11_init (wsX7_init) := ggX11_init_X7_init
set_option maxRecDepth 20000 in
theorem ggX11_init_X0_init : GoodIn wsX11_init wsX0_init := goodIn_r _ [136, 137, 2, 3, 138, 139, 140, 141, 142, 143, 144, 145, 146, 147, 148, 149, 150, 151, 152, 153, 154, 155, 156, 157, 158, 159, 160, 161, 162, 163, 164, 165, 166, 167, 168, 169, 170, 171, 172, 173, 38, 174, 175, 176, 177, 178, 179, 180, 181, 182, 183, 184, 185, 186, 187, 188, 189, 190, 191, 192, 193, 194, 195, 196, 197, 198, 199, 200, 201, 202, 203, 204, 205, 206, 207, 208, 209, 210, 211, 212, 213, 214, 215, 216, 217, 218, 219, 220, 221, 222, 223, 224, 225, 226, 227, 228, 281, 282, 283, 284, 285, 286, 287, 266, 267, 268, 269, 270, 271, 272, 273, 274, 275, 276, 277, 278, 279, 280, 288, 289, 290, 291, 292, 293, 294, 295, 296, 297, 298, 299, 300, 301, 302, 303, 304, 305, 306, 307, 308, 309, 310, 311, 312, 313, 314, 315] (by decide +kernel) (by decide +kernel)
set_option maxRecDepth 20000 in
theorem gX11_init_X0_init : GoodIn wsX11_init (wsX0_init) := ggX11_init_X0_init
set_option maxRecDepth 20000 in
theorem ggX11_type_X11_byteOf : GoodIn wsX11_type wsX11_byteOf := goodIn_r _ [6] (by decide +kernel) (by decide +kernel)
set_option maxRecDepth 20000 in
theorem gX11_type_X11_byteOf : GoodIn wsX11_type (va_wsS RX11 68 yX11_byteOf wsX11_byteOf) := goodIn_app (goodIn_of _ (by decide +kernel)) ggX11_type_X11_byteOf
set_option maxRecDepth 20000 in
theorem ggX11_read_X6_startText : GoodIn wsX11_read wsX6_startText := goodIn_r _ [13, 14, 15, 16, 17, 18, 19, 20, 21, 22, 706, 707, 708, 709, 710, 711, 712, 713, 714, 715, 716, 717, 718] (by decide +kernel) (by decide +kernel)
set_option maxRecDepth 20000 in
theorem gX11_read_X6_startText : GoodIn wsX11_read (wsV RX11 75 RX6 yX6_startText wsX6_startText) := goodIn_app (goodIn_of _ (by decide +kernel)) ggX11_read_X6_startText
set_option maxRecDepth 20000 in
theorem ggX11_read_X1_startText : GoodIn wsX11_read wsX1_startText := goodIn_r _ [27, 28, 687, 688, 689, 690] (by decide +kernel) (by decide +kernel)
set_option maxRecDepth 20000 in
theorem gX11_read_X1_startText : GoodIn wsX11_read (wsV RX11 78 RX1 yX1_startText wsX1_startText) := goodIn_app (goodIn_of _ (by decide +kernel)) ggX11_read_X1_startText
set_option maxRecDepth 20000 in
theorem ggX11_read_X10_startText : GoodIn wsX11_read wsX10_startText := goodIn_r _ [33, 34, 719, 720, 721, 722, 723] (by decide +kernel) (by decide +kernel)
set_option maxRecDepth 20000 in
theorem gX11_read_X10_startText : GoodIn wsX11_read (wsV RX11 79 RX10 yX10_startText wsX10_startText) := goodIn_app (goodIn_of _ (by decide +kernel)) ggX11_read_X10_startText
set_option maxRecDepth 20000 in
theorem ggX11_read_X7_addForms : GoodIn wsX11_read wsX7_addForms := goodIn_r _ [39, 40, 41, 42, 43, 44, 45, 46, 47, 38, 48, 49, 50, 51, 52, 53, 54, 55, 56, 57, 58, 59, 60, 61, 62, 63, 64, 65, 66, 67, 68, 26, 69, 28, 70, 71, 72, 73, 74, 75, 76, 77, 78, 79, 80, 81, 82, 83, 84, 85, 86, 87, 88, 89, 90, 91, 92, 93, 94, 95, 96, 97, 98, 99, 100, 101, 102, 103, 12, 104, 105, 106, 107, 108, 14, 109, 110, 111, 112, 113, 114, 115, 116, 117, 118, 17, 119, 120, 121, 122, 15, 123, 124, 125, 126, 127, 128, 129, 724, 725, 726, 727, 687, 688, 689, 690, 706, 707, 708, 709, 710, 711, 712, 713, 714, 715, 716, 717, 718] (by decide +kernel) (by decide +kernel)
set_option maxRecDepth 20000 in
theorem gX11_read_X7_addForms : GoodIn wsX11_read (wsV RX11 80 RX7 yX7_addForms wsX7_addForms) := goodIn_app (goodIn_of _ (by decide +kernel)) ggX11_read_X7_addForms
set_option maxRecDepth 20000 in
theorem ggX11_read_X0_tellText : GoodIn wsX11_read wsX0_tellText := goodIn_r _ [134, 135, 136, 137, 138, 139, 140, 141, 142, 143, 144, 133, 145, 146, 147, 148, 149, 150, 151, 152, 153, 154, 155, 156, 157, 158, 159, 160, 161, 162, 163, 164, 165, 26, 166, 71, 167, 168, 169, 170, 171, 172, 173, 174, 32, 175, 176, 177, 178, 179, 34, 180, 181, 182, 183, 184, 185, 186, 187, 188, 189, 190, 191, 192, 193, 12, 194, 15, 195, 196, 197, 198, 14, 17, 199, 200, 201, 202, 203, 204, 205, 206, 207, 208, 209, 210, 211, 212, 213, 214, 215, 216, 217, 218, 219, 220, 221, 222, 70, 223, 224, 225, 226, 227, 228, 229, 230, 231, 232, 233, 234, 235, 236, 237, 238, 239, 240, 241, 242, 243, 244, 245, 246, 247, 248, 249, 250, 251, 252, 253, 254, 255, 256, 257, 258, 259, 260, 261, 262, 263, 264, 265, 266, 267, 268, 269, 270, 271, 272, 273, 274, 275, 276, 277, 278, 279, 280, 281, 282, 283, 284, 285, 286, 287, 288, 289, 290, 291, 292, 43, 293, 294, 295, 296, 297, 298, 299, 300, 301, 302, 303, 304, 305, 306, 307, 308, 309, 310, 311, 312, 313, 314, 315, 316, 317, 318, 319, 320, 321, 322, 323, 324, 325, 326, 327, 328, 329, 330, 331, 332, 333, 334, 335, 336, 337, 338, 339, 340, 341, 342, 126, 343, 344, 345, 346, 347, 348, 349, 350, 351, 352, 353, 354, 355, 356, 357, 358, 359, 360, 361, 362, 363, 364, 365, 366, 20, 21, 22, 367, 368, 369, 370, 371, 372, 373, 374, 375, 376, 377, 378, 379, 380, 381, 382, 383, 384, 385, 386, 387, 388, 389, 390, 391, 392, 393, 394, 395, 396, 397, 398, 399, 400, 401, 402, 403, 404, 405, 406, 407, 408, 409, 410, 123, 411, 412, 413, 414, 415, 416, 417, 418, 419, 420, 421, 422, 423, 424, 425, 426, 427, 428, 429, 430, 431, 432, 433, 434, 435, 436, 437, 438, 439, 440, 441, 442, 443, 444, 445, 446, 447, 448, 449, 450, 451, 452, 453, 454, 455, 456, 457, 458, 459, 460, 461, 462, 463, 464, 465, 466, 467, 468, 469, 470, 471, 472, 473, 474, 475, 476, 477, 478, 479, 480, 481, 482, 483, 484, 485, 486, 487, 488, 489, 490, 491, 492, 493, 494, 495, 496, 497, 498, 499, 42, 44, 500, 501, 502, 503, 504, 505, 506, 507, 508, 509, 510, 511, 512, 513, 514, 515, 516, 517, 518, 519, 520, 521, 522, 523, 524, 525, 526, 527, 528, 529, 530, 531, 28, 532, 533, 534, 535, 536, 537, 538, 539, 540, 541, 542, 543, 544, 545, 546, 547, 548, 549, 550, 124, 125, 551, 552, 553, 554, 555, 556, 557, 558, 559, 560, 561, 562, 563, 564, 565, 566, 567, 67, 68, 69, 568, 569, 570, 571, 572, 573, 574, 575, 576, 577, 578, 579, 580, 77, 78, 79, 581, 582, 583, 584, 585, 586, 120, 121, 122, 587, 588, 128, 129, 589, 590, 591, 592, 593, 594, 595, 596, 597, 598, 599, 600, 601, 602, 603, 604, 605, 606, 607, 608, 609, 610, 611, 612, 613, 614, 615, 616, 617, 618, 619, 620, 621, 622, 623, 624, 625, 626, 627, 628, 629, 630, 631, 632, 633, 634, 635, 636, 637, 638, 639, 640, 641, 642, 643, 644, 645, 646, 647, 648, 649, 650, 651, 652, 653, 691, 692, 693, 694, 695, 696, 697, 698, 699, 700, 701, 702, 703, 704, 705, 687, 688, 689, 690, 728, 729, 730, 731, 732, 733, 734, 719, 720, 721, 722, 723, 706, 707, 708, 709, 710, 711, 712, 713, 714, 715, 716, 717, 718, 735, 736, 737, 738, 739, 740, 741, 742, 743, 744, 745, 746, 747, 748, 749, 750, 751, 752, 753, 754, 755, 756, 757, 758, 759, 760, 761, 762] (by decide +kernel) (by decide +kernel)
set_option maxRecDepth 20000 in
theorem gX11_read_X0_tellText : GoodIn wsX11_read (wsV RX11 84 RX0 yX0_tellText wsX0_tellText) := goodIn_app (goodIn_of _ (by decide +kernel)) ggX11_read_X0_tellText
set_option maxRecDepth 20000 in
theorem ggX11_read_X11_takeText : GoodIn wsX11_read wsX11_takeText := goodIn_r _ [658, 3, 8, 659, 660, 661, 2, 662, 663, 664, 32, 665, 666, 180, 34, 667, 668, 669, 670, 12, 671, 16, 14, 676, 677, 678, 679, 680, 681, 682, 683, 684, 685, 686, 691, 692, 693, 694, 695, 696, 697, 698, 699, 700, 701, 702, 703, 704, 705, 719, 720, 721, 722, 723, 706, 707, 708, 709, 710, 711, 712, 713, 714, 715, 716, 717, 718] (by decide +kernel) (by decide +kernel)
set_option maxRecDepth 20000 in
theorem gX11_read_X11_takeText : GoodIn wsX11_read (wsV RX11 89 RX11 yX11_takeText wsX11_takeText) := goodIn_app (goodIn_of _ (by decide +kernel)) ggX11_read_X11_takeText
set_option maxRecDepth 20000 in
theorem ggX11_count_X6_macros : GoodIn wsX11_count wsX6_macros := goodIn_r _ [11, 12, 13, 34, 35, 36, 37, 38, 39, 40, 41, 42, 43, 44, 45, 46] (by decide +kernel) (by decide +kernel)
set_option maxRecDepth 20000 in
theorem gX11_count_X6_macros : GoodIn wsX11_count (wsV RX11 99 RX6 yX6_macros wsX6_macros) := goodIn_app (goodIn_of _ (by decide +kernel)) ggX11_count_X6_macros
set_option maxRecDepth 20000 in
theorem ggX11_character_X10_at : GoodIn wsX11_character wsX10_at := goodIn_r _ [6, 7, 8, 20, 21, 22, 23, 24] (by decide +kernel) (by decide +kernel)
set_option maxRecDepth 20000 in
theorem gX11_character_X10_at : GoodIn wsX11_character (wsV RX11 102 RX10 yX10_at wsX10_at) := goodIn_app (goodIn_of _ (by decide +kernel)) ggX11_character_X10_at
set_option maxRecDepth 20000 in
theorem ggX11_means_X7_tokenFrom : GoodIn wsX11_means wsX7_tokenFrom := goodIn_r _ [9] (by decide +kernel) (by decide +kernel)
set_option maxRecDepth 20000 in
theorem gX11_means_X7_tokenFrom : GoodIn wsX11_means (wsV RX11 106 RX7 yX7_tokenFrom wsX7_tokenFrom) := goodIn_app (goodIn_of _ (by decide +kernel)) ggX11_means_X7_tokenFrom
set_option maxRecDepth 20000 in
theorem ggX11_means_X7_tokenEnd : GoodIn wsX11_means wsX7_tokenEnd := goodIn_r _ [13, 14, 15, 8, 16] (by decide +kernel) (by decide +kernel)
set_option maxRecDepth 20000 in
theorem gX11_means_X7_tokenEnd : GoodIn wsX11_means (wsV RX11 110 RX7 yX7_tokenEnd wsX7_tokenEnd) := goodIn_app (goodIn_of _ (by decide +kernel)) ggX11_means_X7_tokenEnd
set_option maxRecDepth 20000 in
theorem ggX11_means_X7_isSymbol : GoodIn wsX11_means wsX7_isSymbol := goodIn_r _ [20, 14, 15, 8, 16, 21, 22, 23, 24, 25, 26, 27, 28, 29, 30, 31, 32, 33, 34, 35, 36, 37, 38, 39, 57, 58, 59, 60, 61, 62, 63, 64, 65, 66, 67, 68, 69, 70, 71, 72, 73] (by decide +kernel) (by decide +kernel)
set_option maxRecDepth 20000 in
theorem gX11_means_X7_isSymbol : GoodIn wsX11_means (wsV RX11 113 RX7 yX7_isSymbol wsX7_isSymbol) := goodIn_app (goodIn_of _ (by decide +kernel)) ggX11_means_X7_isSymbol
set_option maxRecDepth 20000 in
theorem ggX11_check_X10_canBeRead : GoodIn wsX11_check wsX10_canBeRead := goodIn_r _ [6, 7, 8, 20, 21, 22, 23, 24] (by decide +kernel) (by decide +kernel)
set_option maxRecDepth 20000 in
theorem gX11_check_X10_canBeRead : GoodIn wsX11_check (wsV RX11 123 RX10 yX10_canBeRead wsX10_canBeRead) := goodIn_app (goodIn_of _ (by decide +kernel)) ggX11_check_X10_canBeRead
set_option maxRecDepth 20000 in
theorem ggX11_takeText_X10_take : GoodIn wsX11_takeText wsX10_take := goodIn_r _ [11, 12, 13, 14, 15, 49, 50, 51, 52, 53] (by decide +kernel) (by decide +kernel)
set_option maxRecDepth 20000 in
theorem gX11_takeText_X10_take : GoodIn wsX11_takeText (wsV RX11 127 RX10 yX10_take wsX10_take) := goodIn_app (goodIn_of _ (by decide +kernel)) ggX11_takeText_X10_take
set_option maxRecDepth 20000 in
theorem ggX11_takeText_X6_take : GoodIn wsX11_takeText wsX6_take := goodIn_r _ [20, 21, 22, 54, 55, 56, 57, 58, 59, 60, 61, 62, 63, 64, 65, 66] (by decide +kernel) (by decide +kernel)
set_option maxRecDepth 20000 in
theorem gX11_takeText_X6_take : GoodIn wsX11_takeText (wsV RX11 132 RX6 yX6_take wsX6_take) := goodIn_app (goodIn_of _ (by decide +kernel)) ggX11_takeText_X6_take
set_option maxRecDepth 20000 in
theorem ggX12_init_X12_word : GoodIn wsX12_init wsX12_word := goodIn_r _ [66, 10, 67, 68, 69, 70, 65, 71, 8, 72, 73, 74, 75, 76, 77, 78, 79, 80, 81, 82, 83, 84, 85, 86, 87, 88, 89, 90, 91, 92, 93, 94, 95, 96, 97, 98, 99, 100, 101, 102, 103, 104, 105, 106, 107, 108, 109, 110, 111, 112, 113, 114, 115, 116, 117, 118, 119, 120, 121, 122, 123, 124, 125, 126, 127, 128, 129, 130, 131, 132, 133, 134, 135] (by decide +kernel) (by decide +kernel)
set_option maxRecDepth 20000 in
theorem gX12_init_X12_word : GoodIn wsX12_init (wsV RX12 133 RX12 yX12_word wsX12_word) := goodIn_app (goodIn_of _ (by decide +kernel)) ggX12_init_X12_word
set_option maxRecDepth 20000 in
theorem ggX12_init_X12_more : GoodIn wsX12_init wsX12_more := goodIn_r _ [71, 8, 10, 67, 72, 73, 74, 75, 76, 77, 78, 79, 80, 81, 82, 83, 84, 85, 86, 87, 88, 89, 90, 91, 92, 93, 94, 95, 96, 97, 98, 99, 100, 101, 102, 103, 104, 105, 106, 107, 108, 109, 110, 111, 112, 113, 114, 115, 116, 117, 118, 119, 120, 121, 122, 123, 124, 125, 126, 127, 128, 129, 130, 131, 132, 133, 134, 135] (by decide +kernel) (by decide +kernel)
set_option maxRecDepth 20000 in
theorem gX12_init_X12_more : GoodIn wsX12_init (wsV RX12 145 RX12 yX12_more wsX12_more) := goodIn_app (goodIn_of _ (by decide +kernel)) ggX12_init_X12_more
set_option maxRecDepth 20000 in
theorem ggX12_word_X12_more : GoodIn wsX12_word wsX12_more := goodIn_r _ [7, 8, 1, 2, 9, 10, 11, 12, 13, 14, 15, 16, 17, 18, 19, 20, 21, 22, 23, 24, 25, 26, 27, 28, 29, 30, 31, 32, 33, 34, 35, 36, 37, 38, 39, 40, 41, 42, 43, 44, 45, 46, 47, 48, 49, 50, 51, 52, 53, 54, 55, 56, 57, 58, 59, 60, 61, 62, 63, 64, 65, 66, 67, 68, 69, 70, 71, 72] (by decide +kernel) (by decide +kernel)
set_option maxRecDepth 20000 in
theorem gX12_word_X12_more : GoodIn wsX12_word (wsV RX12 145 RX12 yX12_more wsX12_more) := goodIn_app (goodIn_of _ (by decide +kernel)) ggX12_word_X12_more
set_option maxRecDepth 20000 in
theorem ggX12_read_X12_beginText : GoodIn wsX12_read wsX12_beginText := goodIn_r _ [23, 24, 25, 26, 27, 28, 29, 30, 31, 16, 14, 32, 10, 7, 9, 307, 308, 309, 310, 311, 312, 313, 314, 315, 316, 317, 318, 319, 320, 321, 322, 323, 324, 325, 326, 327, 328, 329, 330, 331, 332, 333, 334, 335, 336, 337, 338, 339, 340, 341, 342, 343, 344, 345, 346, 347, 348, 349, 350, 351, 352, 353, 354, 355, 356, 357, 358, 359, 360, 361, 362, 363, 364, 365, 366, 367, 368, 369, 370] (by decide +kernel) (by decide +kernel)
set_option maxRecDepth 20000 in
theorem gX12_read_X12_beginText : GoodIn wsX12_read (wsV RX12 408 RX12 yX12_beginText wsX12_beginText) := goodIn_app (goodIn_of _ (by decide +kernel)) ggX12_read_X12_beginText
set_option maxRecDepth 20000 in
theorem ggX12_read_X12_parse : GoodIn wsX12_read wsX12_parse := goodIn_r _ [36, 6, 5, 37, 38, 39, 40, 41, 22, 42, 27, 43, 8, 44, 45, 46, 47, 48, 25, 49, 50, 51, 52, 53, 54, 55, 56, 57, 58, 59, 60, 61, 62, 63, 64, 65, 307, 308, 309, 310, 311, 312, 313, 314, 315, 316, 317, 318, 319, 320, 321, 322, 323, 324, 325, 326, 327, 328, 329, 330, 331, 332, 333, 334, 335, 336, 337, 338, 339, 340, 341, 342, 343, 344, 345, 346, 347, 348, 349, 350, 351, 352, 353, 354, 355, 356, 357, 358, 359, 360, 361, 362, 363, 364, 365, 366, 367, 368, 369, 370] (by decide +kernel) (by decide +kernel)
set_option maxRecDepth 20000 in
theorem gX12_read_X12_parse : GoodIn wsX12_read (wsV RX12 411 RX12 yX12_parse wsX12_parse) := goodIn_app (goodIn_of _ (by decide +kernel)) ggX12_read_X12_parse
set_option maxRecDepth 20000 in
theorem ggX12_read_X12_stay : GoodIn wsX12_read wsX12_stay := goodIn_r _ [296, 297, 298, 132, 65, 4, 24, 133, 48, 50, 299, 300, 135, 26, 301, 49, 302, 43, 303, 304, 305, 22, 306, 138, 139, 140, 141, 134, 75, 76, 77, 78, 307, 308, 309, 310, 311, 312, 313, 314, 315, 316, 317, 318, 319, 320, 321, 322, 323, 324, 325, 326, 327, 328, 329, 330, 331, 332, 333, 334, 335, 336, 337, 338, 339, 340, 341, 342, 343, 344, 345, 346, 347, 348, 349, 350, 351, 352, 353, 354, 355, 356, 357, 358, 359, 360, 361, 362, 363, 364, 365, 366, 367, 368, 369, 370] (by decide +kernel) (by decide +kernel)
set_option maxRecDepth 20000 in
theorem gX12_read_X12_stay : GoodIn wsX12_read (wsV RX12 430 RX12 yX12_stay wsX12_stay) := goodIn_app (goodIn_of _ (by decide +kernel)) ggX12_read_X12_stay
set_option maxRecDepth 20000 in
theorem ggX12_means_X12_parse : GoodIn wsX12_means wsX12_parse := goodIn_r _ [15, 7, 6, 16, 17, 18, 19, 20, 14, 21, 5, 22, 8, 23, 24, 25, 26, 27, 3, 9, 28, 29, 30, 31, 32, 33, 34, 35, 36, 37, 38, 39, 40, 41, 42, 43, 48, 49, 50, 51, 52, 53, 54, 55, 56, 57, 58, 59, 60, 61, 62, 63, 64, 65, 66, 67, 68, 69, 70, 71, 72, 73, 74, 75, 76, 77, 78, 79, 80, 81, 82, 83, 84, 85, 86, 87, 88, 89, 90, 91, 92, 93, 94, 95, 96, 97, 98, 99, 100, 101, 102, 103, 104, 105, 106, 107, 108, 109, 110, 111] (by decide +kernel) (by decide +kernel)
set_option maxRecDepth 20000 in
theorem gX12_means_X12_parse : GoodIn wsX12_means (wsV RX12 411 RX12 yX12_parse wsX12_parse) := goodIn_app (goodIn_of _ (by decide +kernel)) ggX12_means_X12_parse
set_option maxRecDepth 20000 in
theorem ggJ0_toCharArray_70df3_J0_isLatin1_aae02 : GoodIn wsJ0_toCharArray_70df3 wsJ0_isLatin1_aae02 := goodIn_r _ [6, 7, 8] (by decide +kernel) (by decide +kernel)
set_option maxRecDepth 20000 in
theorem gJ0_toCharArray_70df3_J0_isLatin1_aae02 : GoodIn wsJ0_toCharArray_70df3 (wsV RJ0 492 RJ0 yJ0_isLatin1_aae02 wsJ0_isLatin1_aae02) := goodIn_app (goodIn_of _ (by decide +kernel)) ggJ0_toCharArray_70df3_J0_isLatin1_aae02
set_option maxRecDepth 20000 in
theorem ggJ0_toCharArray_70df3_J1_toChars_9d188 : GoodIn wsJ0_toCharArray_70df3 wsJ1_toChars_9d188 := goodIn_r _ [12, 13, 14, 15, 11, 16] (by decide +kernel) (by decide +kernel)
set_option maxRecDepth 20000 in
theorem gJ0_toCharArray_70df3_J1_toChars_9d188 : GoodIn wsJ0_toCharArray_70df3 (va_wsS RJ0 299 yJ1_toChars_9d188 wsJ1_toChars_9d188) := goodIn_app (goodIn_of _ (by decide +kernel)) ggJ0_toCharArray_70df3_J1_toChars_9d188
set_option maxRecDepth 20000 in
theorem ggJ1_toChars_9d188_J1_inflate_03870 : GoodIn wsJ1_toChars_9d188 wsJ1_inflate_03870 := goodIn_r _ [5] (by decide +kernel) (by decide +kernel)
set_option maxRecDepth 20000 in
theorem gJ1_toChars_9d188_J1_inflate_03870 : GoodIn wsJ1_toChars_9d188 (va_wsS RJ1 13 yJ1_inflate_03870 wsJ1_inflate_03870) := goodIn_app (goodIn_of _ (by decide +kernel)) ggJ1_toChars_9d188_J1_inflate_03870
set_option maxRecDepth 20000 in
theorem ggL_law_X11_init : GoodIn wsL_law wsX11_init := goodIn_r _ [9, 10, 11, 12, 13, 14, 15, 16, 17, 18, 19, 20, 21, 22, 23, 24, 25, 26, 27, 28, 29, 30, 31, 32, 33, 34, 35, 36, 37, 38, 39, 40, 41, 42, 43, 44, 45, 46, 47, 48, 49, 50, 51, 52, 53, 54, 55, 56, 57, 58, 59, 60, 61, 62, 63, 64, 65, 66, 67, 68, 69, 70, 71, 72, 73, 74, 75, 76, 77, 78, 79, 80, 81, 82, 83, 84, 85, 86, 87, 88, 89, 90, 91, 92, 93, 94, 95, 96, 97, 98, 99, 100, 101, 102, 103, 104, 105, 106, 107, 108, 109, 110, 111, 112, 113, 114, 115, 116, 117, 118, 119, 120, 121, 122, 123, 124, 125, 126, 127, 128, 129, 130, 131, 132, 133, 134, 135, 136, 137, 138, 139, 140, 141, 142, 143, 144, 145, 146, 147, 148, 149, 150, 151, 152, 153, 154, 155, 156, 157, 158, 159, 160, 161, 162, 163, 164, 165, 166, 167, 168, 169, 170, 171, 172, 173, 174, 175, 176, 177, 178, 179, 180, 181, 182, 183, 184, 185, 186, 187, 188, 189, 190, 191, 192, 193, 194, 195, 196, 197, 198, 199, 200, 201, 202, 203, 204, 205, 206, 207, 208, 209, 210, 211, 212, 213, 214, 215, 216, 217, 218, 219, 220, 221, 222, 223, 224, 225, 226, 227, 228, 229, 230, 231, 232, 233, 234, 235, 236, 237, 1217, 1218, 1219, 1220, 1221, 1222, 1223, 1224, 1225, 1226, 1227, 1292, 1293, 1294, 1295, 1296, 1297, 1298, 1299, 1300, 1301, 1302, 1303, 1304, 1305, 1306, 1307, 1308, 1309, 1310, 1311, 1312, 1313, 1314, 1315, 1316, 1317, 1318, 1319, 1320, 1321, 1322, 1323, 1324, 1325, 1326, 1327, 1328, 1329, 1330, 1331, 1332, 1333, 1334, 1335, 1336, 1337, 1338, 1339, 1340, 1341, 1342, 1343, 1344, 1345, 1346, 1347, 1348, 1349, 1350, 1351, 1352, 1353, 1354, 1355, 1356, 1357, 1358, 1359, 1360, 1361, 1362, 1363, 1364, 1365, 1366, 1367] (by decide +kernel) (by decide +kernel)
set_option maxRecDepth 20000 in
theorem gL_law_X11_init : GoodIn wsL_law (wsX11_init) := ggL_law_X11_init
set_option maxRecDepth 20000 in
theorem ggL_law_X12_init : GoodIn wsL_law wsX12_init := goodIn_r _ [240, 241, 11, 12, 242, 243, 244, 245, 246, 47, 247, 248, 249, 250, 251, 252, 253, 254, 255, 256, 257, 258, 259, 260, 261, 262, 263, 264, 265, 266, 267, 268, 269, 270, 271, 272, 185, 273, 274, 275, 276, 277, 278, 279, 280, 281, 282, 283, 284, 285, 286, 287, 288, 289, 290, 291, 292, 293, 294, 295, 296, 297, 298, 299, 300, 5, 301, 302, 303, 304, 305, 306, 1228, 1229, 1230, 1231, 1232, 1233, 1234, 1235, 1236, 1237, 1238, 1239, 1240, 1241, 1242, 1243, 1244, 1245, 1246, 1247, 1248, 1249, 1250, 1251, 1252, 1253, 1254, 1255, 1256, 1257, 1258, 1259, 1260, 1261, 1262, 1263, 1264, 1265, 1266, 1267, 1268, 1269, 1270, 1271, 1272, 1273, 1274, 1275, 1276, 1277, 1278, 1279, 1280, 1281, 1282, 1283, 1284, 1285, 1286, 1287, 1288, 1289, 1290, 1291] (by decide +kernel) (by decide +kernel)
set_option maxRecDepth 20000 in
theorem gL_law_X12_init : GoodIn wsL_law (wsX12_init) := ggL_law_X12_init
set_option maxRecDepth 20000 in
theorem ggL_law_X11_type : GoodIn wsL_law wsX11_type := goodIn_r _ [310, 35, 14, 311, 312, 2, 313, 1217, 1218, 1219, 1220, 1221, 1222, 1223, 1224, 1225, 1226, 1227] (by decide +kernel) (by decide +kernel)
set_option maxRecDepth 20000 in
theorem gL_law_X11_type : GoodIn wsL_law (wsV RL 15 RX11 yX11_type wsX11_type) := goodIn_app (goodIn_of _ (by decide +kernel)) ggL_law_X11_type
set_option maxRecDepth 20000 in
theorem ggL_law_X12_type : GoodIn wsL_law wsX12_type := goodIn_r _ [317, 318, 319, 320, 321, 322, 243, 1228, 1229, 1230, 1231, 1232, 1233, 1234, 1235, 1236, 1237, 1238, 1239, 1240, 1241, 1242, 1243, 1244, 1245, 1246, 1247, 1248, 1249, 1250, 1251, 1252, 1253, 1254, 1255, 1256, 1257, 1258, 1259, 1260, 1261, 1262, 1263, 1264, 1265, 1266, 1267, 1268, 1269, 1270, 1271, 1272, 1273, 1274, 1275, 1276, 1277, 1278, 1279, 1280, 1281, 1282, 1283, 1284, 1285, 1286, 1287, 1288, 1289, 1290, 1291] (by decide +kernel) (by decide +kernel)
set_option maxRecDepth 20000 in
theorem gL_law_X12_type : GoodIn wsL_law (wsV RL 19 RX12 yX12_type wsX12_type) := goodIn_app (goodIn_of _ (by decide +kernel)) ggL_law_X12_type
set_option maxRecDepth 20000 in
theorem ggL_law_X11_read : GoodIn wsL_law wsX11_read := goodIn_r _ [326, 22, 18, 26, 36, 30, 14, 35, 34, 327, 328, 329, 17, 330, 50, 57, 51, 48, 49, 331, 332, 333, 334, 335, 336, 337, 21, 338, 125, 339, 340, 341, 25, 342, 133, 343, 344, 345, 29, 346, 140, 347, 348, 349, 350, 351, 352, 353, 354, 355, 356, 357, 358, 359, 360, 361, 362, 363, 364, 365, 366, 367, 368, 369, 139, 141, 370, 371, 372, 373, 123, 124, 374, 375, 376, 377, 378, 379, 380, 381, 382, 383, 384, 385, 386, 387, 388, 389, 390, 391, 392, 393, 394, 395, 396, 397, 398, 399, 400, 401, 402, 142, 403, 110, 111, 404, 405, 406, 407, 45, 46, 408, 409, 410, 411, 412, 113, 114, 115, 116, 117, 118, 119, 52, 53, 54, 55, 413, 414, 415, 416, 417, 418, 33, 419, 161, 420, 153, 150, 151, 167, 163, 421, 422, 423, 424, 152, 154, 155, 156, 157, 425, 426, 427, 428, 429, 430, 431, 149, 432, 190, 183, 184, 433, 434, 435, 436, 437, 438, 439, 440, 162, 441, 442, 443, 444, 445, 446, 447, 448, 132, 134, 449, 450, 451, 166, 452, 208, 209, 204, 205, 453, 454, 455, 456, 457, 458, 459, 460, 461, 462, 463, 464, 465, 466, 467, 468, 469, 470, 471, 472, 473, 187, 188, 189, 474, 475, 476, 477, 478, 479, 480, 481, 482, 483, 484, 485, 486, 487, 488, 489, 490, 491, 492, 493, 494, 495, 496, 497, 498, 499, 500, 501, 502, 503, 504, 505, 506, 507, 508, 509, 510, 511, 512, 513, 514, 515, 516, 517, 518, 519, 520, 521, 522, 523, 524, 525, 526, 527, 528, 186, 529, 530, 531, 532, 171, 533, 534, 535, 170, 536, 215, 214, 217, 537, 538, 539, 540, 541, 542, 543, 544, 545, 546, 207, 206, 547, 548, 549, 550, 551, 552, 553, 554, 555, 556, 557, 558, 559, 560, 561, 562, 563, 564, 216, 565, 566, 567, 568, 58, 569, 570, 571, 572, 573, 574, 575, 576, 577, 578, 579, 580, 581, 582, 583, 584, 585, 586, 587, 588, 589, 590, 591, 592, 593, 594, 595, 56, 596, 597, 598, 599, 600, 601, 602, 603, 604, 605, 606, 607, 608, 609, 610, 611, 612, 126, 613, 614, 615, 616, 617, 618, 619, 620, 621, 622, 623, 624, 625, 626, 627, 628, 629, 630, 631, 632, 633, 634, 635, 636, 637, 638, 639, 640, 641, 642, 643, 644, 645, 646, 647, 648, 649, 650, 651, 652, 653, 654, 655, 656, 657, 658, 659, 660, 661, 662, 663, 664, 665, 666, 175, 179, 667, 668, 669, 670, 671, 672, 673, 674, 675, 676, 677, 174, 678, 224, 222, 223, 225, 227, 679, 680, 681, 682, 683, 684, 160, 685, 198, 199, 686, 687, 688, 689, 690, 691, 692, 693, 694, 695, 696, 697, 698, 699, 700, 701, 702, 703, 704, 705, 706, 707, 708, 194, 195, 196, 709, 710, 711, 712, 713, 197, 714, 715, 716, 717, 226, 718, 719, 720, 721, 722, 723, 724, 725, 726, 727, 728, 729, 730, 731, 732, 733, 178, 734, 235, 236, 232, 233, 234, 735, 736, 737, 738, 739, 740, 741, 742, 743, 744, 237, 745, 746, 747, 748, 749, 750, 751, 752, 753, 754, 755, 756, 757, 758, 759, 760, 761, 762, 763, 764, 765, 766, 47, 767, 768, 769, 770, 771, 772, 773, 774, 775, 776, 777, 778, 779, 780, 781, 782, 783, 784, 785, 786, 787, 788, 789, 790, 791, 792, 793, 794, 795, 796, 797, 798, 799, 800, 801, 802, 803, 804, 805, 806, 807, 808, 809, 810, 811, 812, 813, 814, 815, 816, 817, 818, 819, 820, 821, 822, 823, 824, 825, 826, 827, 828, 829, 830, 831, 832, 833, 834, 835, 836, 837, 838, 839, 840, 841, 842, 843, 844, 845, 846, 847, 848, 849, 850, 851, 852, 853, 854, 855, 856, 857, 858, 859, 860, 861, 862, 863, 864, 865, 866, 867, 868, 869, 870, 871, 872, 873, 874, 875, 876, 877, 878, 879, 2, 880, 37, 38, 39, 881, 882, 883, 884, 130, 131, 885, 886, 887, 888, 889, 890, 891, 892, 1217, 1218, 1219, 1220, 1221, 1222, 1223, 1224, 1225, 1226, 1227, 1305, 1306, 1307, 1308, 1318, 1319, 1320, 1321, 1322, 1323, 1324, 1325, 1326, 1327, 1328, 1329, 1330, 1331, 1332, 1292, 1293, 1294, 1295, 1296, 1297, 1298, 1299, 1300, 1301, 1302, 1303, 1304, 1309, 1310, 1311, 1312, 1313, 1314, 1315, 1316, 1317, 1333, 1334, 1335, 1336, 1337, 1338, 1339, 1346, 1347, 1348, 1349, 1350, 1351, 1352, 1353, 1354, 1355, 1356, 1357, 1358, 1359, 1360, 1361, 1340, 1341, 1342, 1343, 1344, 1345, 1362, 1363, 1364, 1365, 1366, 1367] (by decide +kernel) (by decide +kernel)
set_option maxRecDepth 20000 in
theorem gL_law_X11_read : GoodIn wsL_law (wsV RL 20 RX11 yX11_read wsX11_read) := goodIn_app (goodIn_of _ (by decide +kernel)) ggL_law_X11_read
set_option maxRecDepth 20000 in
theorem ggL_law_X12_read : GoodIn wsL_law wsX12_read := goodIn_r _ [896, 318, 897, 249, 248, 319, 898, 899, 270, 244, 900, 269, 268, 901, 902, 903, 904, 905, 906, 907, 908, 909, 5, 910, 911, 912, 913, 914, 915, 297, 916, 259, 917, 918, 919, 920, 921, 243, 271, 922, 923, 924, 925, 254, 926, 927, 928, 929, 251, 252, 253, 930, 931, 932, 933, 934, 935, 936, 937, 247, 246, 938, 939, 940, 941, 302, 942, 943, 944, 945, 946, 947, 948, 949, 950, 951, 952, 953, 954, 955, 956, 957, 958, 959, 960, 961, 962, 963, 964, 965, 966, 967, 968, 969, 970, 971, 972, 973, 974, 975, 976, 977, 978, 979, 980, 981, 982, 983, 984, 985, 986, 260, 258, 257, 256, 987, 988, 989, 990, 991, 992, 993, 994, 995, 996, 997, 998, 999, 1000, 1001, 1002, 1003, 1004, 274, 276, 275, 272, 273, 1005, 1006, 1007, 1008, 1009, 1010, 1011, 1012, 1013, 1014, 1015, 1016, 1017, 1018, 1019, 1020, 1021, 1022, 1023, 1024, 1025, 1026, 1027, 1028, 1029, 1030, 1031, 1032, 277, 1033, 1034, 1035, 1036, 1037, 1038, 1039, 1040, 1041, 1042, 1043, 1044, 264, 265, 266, 267, 1045, 1046, 1047, 1048, 1049, 1050, 1051, 1052, 1053, 1054, 1055, 1056, 1057, 1058, 1059, 1060, 261, 1061, 1062, 1063, 1064, 262, 1065, 1066, 1067, 1068, 1069, 1070, 1071, 1072, 1073, 1074, 1075, 1076, 1077, 1078, 1079, 1080, 1081, 1082, 1083, 1084, 279, 280, 278, 1085, 1086, 1087, 1088, 1089, 1090, 1091, 1092, 1093, 1094, 1095, 1096, 1097, 1098, 1099, 1100, 1101, 1102, 1103, 1104, 1105, 1106, 1107, 1108, 1109, 1110, 1111, 1112, 1113, 1114, 1115, 1116, 1117, 1118, 1119, 1120, 1121, 1122, 1123, 1124, 1125, 1126, 1127, 1128, 1129, 1130, 1131, 1132, 1133, 1134, 1135, 1136, 1137, 1138, 1139, 1140, 1141, 1142, 1143, 1144, 1145, 1146, 1147, 1148, 1149, 1150, 1151, 1152, 1153, 1154, 1155, 284, 282, 281, 283, 1156, 1157, 1158, 1159, 1228, 1229, 1230, 1231, 1232, 1233, 1234, 1235, 1236, 1237, 1238, 1239, 1240, 1241, 1242, 1243, 1244, 1245, 1246, 1247, 1248, 1249, 1250, 1251, 1252, 1253, 1254, 1255, 1256, 1257, 1258, 1259, 1260, 1261, 1262, 1263, 1264, 1265, 1266, 1267, 1268, 1269, 1270, 1271, 1272, 1273, 1274, 1275, 1276, 1277, 1278, 1279, 1280, 1281, 1282, 1283, 1284, 1285, 1286, 1287, 1288, 1289, 1290, 1291] (by decide +kernel) (by decide +kernel)
set_option maxRecDepth 20000 in
theorem gL_law_X12_read : GoodIn wsL_law (wsV RL 24 RX12 yX12_read wsX12_read) := goodIn_app (goodIn_of _ (by decide +kernel)) ggL_law_X12_read
set_option maxRecDepth 20000 in
theorem ggL_law_X11_place : GoodIn wsL_law wsX11_place := goodIn_r _ [1163, 36, 1217, 1218, 1219, 1220, 1221, 1222, 1223, 1224, 1225, 1226, 1227] (by decide +kernel) (by decide +kernel)
set_option maxRecDepth 20000 in
theorem gL_law_X11_place : GoodIn wsL_law (wsV RL 25 RX11 yX11_place wsX11_place) := goodIn_app (goodIn_of _ (by decide +kernel)) ggL_law_X11_place
set_option maxRecDepth 20000 in
theorem ggL_law_X12_place : GoodIn wsL_law wsX12_place := goodIn_r _ [1167, 318, 244, 1228, 1229, 1230, 1231, 1232, 1233, 1234, 1235, 1236, 1237, 1238, 1239, 1240, 1241, 1242, 1243, 1244, 1245, 1246, 1247, 1248, 1249, 1250, 1251, 1252, 1253, 1254, 1255, 1256, 1257, 1258, 1259, 1260, 1261, 1262, 1263, 1264, 1265, 1266, 1267, 1268, 1269, 1270, 1271, 1272, 1273, 1274, 1275, 1276, 1277, 1278, 1279, 1280, 1281, 1282, 1283, 1284, 1285, 1286, 1287, 1288, 1289, 1290, 1291] (by decide +kernel) (by decide +kernel)
set_option maxRecDepth 20000 in
theorem gL_law_X12_place : GoodIn wsL_law (wsV RL 28 RX12 yX12_place wsX12_place) := goodIn_app (goodIn_of _ (by decide +kernel)) ggL_law_X12_place
set_option maxRecDepth 20000 in
theorem ggL_law_X11_count : GoodIn wsL_law wsX11_count := goodIn_r _ [1171, 26, 37, 38, 39, 18, 22, 1172, 1173, 1174, 17, 1175, 50, 48, 1217, 1218, 1219, 1220, 1221, 1222, 1223, 1224, 1225, 1226, 1227, 1309, 1310, 1311, 1312, 1313, 1305, 1306, 1307, 1308, 1292, 1293, 1294, 1295, 1296, 1297, 1298, 1299, 1300, 1301, 1302, 1303, 1304] (by decide +kernel) (by decide +kernel)
set_option maxRecDepth 20000 in
theorem gL_law_X11_count : GoodIn wsL_law (wsV RL 29 RX11 yX11_count wsX11_count) := goodIn_app (goodIn_of _ (by decide +kernel)) ggL_law_X11_count
set_option maxRecDepth 20000 in
theorem ggL_law_X12_count : GoodIn wsL_law wsX12_count := goodIn_r _ [1179, 318, 302, 248, 901, 903, 905, 906, 897, 1228, 1229, 1230, 1231, 1232, 1233, 1234, 1235, 1236, 1237, 1238, 1239, 1240, 1241, 1242, 1243, 1244, 1245, 1246, 1247, 1248, 1249, 1250, 1251, 1252, 1253, 1254, 1255, 1256, 1257, 1258, 1259, 1260, 1261, 1262, 1263, 1264, 1265, 1266, 1267, 1268, 1269, 1270, 1271, 1272, 1273, 1274, 1275, 1276, 1277, 1278, 1279, 1280, 1281, 1282, 1283, 1284, 1285, 1286, 1287, 1288, 1289, 1290, 1291] (by decide +kernel) (by decide +kernel)
set_option maxRecDepth 20000 in
theorem gL_law_X12_count : GoodIn wsL_law (wsV RL 33 RX12 yX12_count wsX12_count) := goodIn_app (goodIn_of _ (by decide +kernel)) ggL_law_X12_count
set_option maxRecDepth 20000 in
theorem ggL_law_X11_character : GoodIn wsL_law wsX11_character := goodIn_r _ [1183, 26, 1184, 1185, 1186, 25, 1187, 131, 130, 1217, 1218, 1219, 1220, 1221, 1222, 1223, 1224, 1225, 1226, 1227, 1309, 1310, 1311, 1312, 1313] (by decide +kernel) (by decide +kernel)
set_option maxRecDepth 20000 in
theorem gL_law_X11_character : GoodIn wsL_law (wsV RL 34 RX11 yX11_character wsX11_character) := goodIn_app (goodIn_of _ (by decide +kernel)) ggL_law_X11_character
set_option maxRecDepth 20000 in
theorem ggL_law_X12_character : GoodIn wsL_law wsX12_character := goodIn_r _ [1191, 318, 901, 269, 1228, 1229, 1230, 1231, 1232, 1233, 1234, 1235, 1236, 1237, 1238, 1239, 1240, 1241, 1242, 1243, 1244, 1245, 1246, 1247, 1248, 1249, 1250, 1251, 1252, 1253, 1254, 1255, 1256, 1257, 1258, 1259, 1260, 1261, 1262, 1263, 1264, 1265, 1266, 1267, 1268, 1269, 1270, 1271, 1272, 1273, 1274, 1275, 1276, 1277, 1278, 1279, 1280, 1281, 1282, 1283, 1284, 1285, 1286, 1287, 1288, 1289, 1290, 1291] (by decide +kernel) (by decide +kernel)
set_option maxRecDepth 20000 in
theorem gL_law_X12_character : GoodIn wsL_law (wsV RL 37 RX12 yX12_character wsX12_character) := goodIn_app (goodIn_of _ (by decide +kernel)) ggL_law_X12_character
set_option maxRecDepth 20000 in
theorem ggL_law_X11_means : GoodIn wsL_law wsX11_means := goodIn_r _ [1195, 30, 14, 35, 18, 1196, 352, 353, 29, 354, 1197, 356, 357, 358, 359, 360, 361, 1198, 396, 397, 398, 385, 386, 387, 399, 400, 401, 402, 142, 403, 110, 17, 111, 404, 405, 406, 407, 50, 45, 46, 1199, 1200, 548, 549, 550, 48, 1217, 1218, 1219, 1220, 1221, 1222, 1223, 1224, 1225, 1226, 1227, 1314, 1315, 1316, 1317, 1292, 1293, 1294, 1295, 1296, 1297, 1298, 1299, 1300, 1301, 1302, 1303, 1304] (by decide +kernel) (by decide +kernel)
set_option maxRecDepth 20000 in
theorem gL_law_X11_means : GoodIn wsL_law (wsV RL 38 RX11 yX11_means wsX11_means) := goodIn_app (goodIn_of _ (by decide +kernel)) ggL_law_X11_means
set_option maxRecDepth 20000 in
theorem ggL_law_X12_means : GoodIn wsL_law wsX12_means := goodIn_r _ [1204, 318, 911, 912, 913, 914, 319, 898, 270, 252, 248, 918, 919, 920, 5, 921, 243, 271, 922, 923, 924, 925, 254, 926, 927, 928, 929, 251, 253, 930, 931, 932, 933, 934, 935, 936, 937, 247, 246, 938, 939, 940, 941, 302, 955, 956, 957, 958, 1228, 1229, 1230, 1231, 1232, 1233, 1234, 1235, 1236, 1237, 1238, 1239, 1240, 1241, 1242, 1243, 1244, 1245, 1246, 1247, 1248, 1249, 1250, 1251, 1252, 1253, 1254, 1255, 1256, 1257, 1258, 1259, 1260, 1261, 1262, 1263, 1264, 1265, 1266, 1267, 1268, 1269, 1270, 1271, 1272, 1273, 1274, 1275, 1276, 1277, 1278, 1279, 1280, 1281, 1282, 1283, 1284, 1285, 1286, 1287, 1288, 1289, 1290, 1291] (by decide +kernel) (by decide +kernel)
set_option maxRecDepth 20000 in
theorem gL_law_X12_means : GoodIn wsL_law (wsV RL 41 RX12 yX12_means wsX12_means) := goodIn_app (goodIn_of _ (by decide +kernel)) ggL_law_X12_means
set_option maxRecDepth 20000 in
theorem ggL_law_X11_check : GoodIn wsL_law wsX11_check := goodIn_r _ [1208, 26, 1209, 1210, 1211, 25, 1212, 131, 130, 1217, 1218, 1219, 1220, 1221, 1222, 1223, 1224, 1225, 1226, 1227, 1309, 1310, 1311, 1312, 1313] (by decide +kernel) (by decide +kernel)
set_option maxRecDepth 20000 in
theorem gL_law_X11_check : GoodIn wsL_law (wsV RL 42 RX11 yX11_check wsX11_check) := goodIn_app (goodIn_of _ (by decide +kernel)) ggL_law_X11_check
set_option maxRecDepth 20000 in
theorem ggL_law_X12_check : GoodIn wsL_law wsX12_check := goodIn_r _ [1216, 318, 1228, 1229, 1230, 1231, 1232, 1233, 1234, 1235, 1236, 1237, 1238, 1239, 1240, 1241, 1242, 1243, 1244, 1245, 1246, 1247, 1248, 1249, 1250, 1251, 1252, 1253, 1254, 1255, 1256, 1257, 1258, 1259, 1260, 1261, 1262, 1263, 1264, 1265, 1266, 1267, 1268, 1269, 1270, 1271, 1272, 1273, 1274, 1275, 1276, 1277, 1278, 1279, 1280, 1281, 1282, 1283, 1284, 1285, 1286, 1287, 1288, 1289, 1290, 1291] (by decide +kernel) (by decide +kernel)
set_option maxRecDepth 20000 in
theorem gL_law_X12_check : GoodIn wsL_law (wsV RL 45 RX12 yX12_check wsX12_check) := goodIn_app (goodIn_of _ (by decide +kernel)) ggL_law_X12_check
end
section
abbrev TY (cB cC cI cJ cZ : ClassId) : List (ClassId × FieldType) := [(cB, .byte), (cC, .char), (cI, .int), (cJ, .long), (cZ, .boolean)]
section BS
variable {p : Program} {l : Launch} {e : Env} {R : Room} {s : State} {m : MethodId} {args : Array Value} {below : List Frame} {meth : Method} {c : Code} {H : Heap} {locs : List Loc} {cells slots : Nat} {Q : State → Prop}
variable {cc : ByteArray} {pc : Nat} {ls : Array Slot} {rest : List Value} {D : va_G} {cl : List vw_C} {A : Nat → Prop} {ws : va_W} {H0 : Heap} {cB cC cI cJ cZ : ClassId}
theorem tp_i {x y : Int32} (h : x = y) (k : W p l e R s m args below meth c H locs cells slots Q (F0 m pc ls (.int y :: rest))) : W p l e R s m args below meth c H locs cells slots Q (F0 m pc ls (.int x :: rest)) := h ▸ k
theorem tp_l {x y : Int64} (h : x = y) (k : W p l e R s m args below meth c H locs cells slots Q (F0 m pc ls (.long y :: rest))) : W p l e R s m args below meth c H locs cells slots Q (F0 m pc ls (.long x :: rest)) := h ▸ k
theorem na_byte (hexec : p.tables.exec = Jvm.exec) (hb : c.code = cc) (harr : (Cond.arrayClass .byte).before args s = true) (hK : va_K D cl (TY cB cC cI cJ cZ) s) (hP : va_P D cl ws H) (hD : va_D A ws) (hS : va_S A H0 H locs) (hA : ∀ q, H0.size ≤ q → A q) {n : Int32} {N' : Nat} (hn : ¬ n < 0) (hN : n.toNatClampNeg = N') (hby : N' * componentBytes .byte ≤ 536870912) (hcells : cells + 1 ≤ R.cells) (hslots : slots + N' ≤ R.slots) (hdg : decode cc pc = .ok (.newarray .byte, 2))
    (kk : ∀ (q : Nat) (H1 : Heap), va_P D cl (ws ++ [(q, .inl (cB, N', .inl (fun _ => 0)))]) H1 → va_D A (ws ++ [(q, .inl (cB, N', .inl (fun _ => 0)))]) → va_S A H0 H1 locs → W p l e R s m args below meth c H1 locs (cells + 1) (slots + N') Q (F0 m (pc + 2) ls (.ref q :: rest))) : W p l e R s m args below meth c H locs cells slots Q (F0 m pc ls (.int n :: rest)) := by
  refine va_newa hexec hb (atype := .byte) harr rfl hK hP hD hS hA (a0 := (N', .inl (fun _ => 0))) (fun cA => rfl) hn hN hby hcells hslots hdg (fun q cA H1 hK1 hP1 hD1 hS1 => ?_)
  have e : cA = cB := Option.some.inj ((va_nm_byte (hK1.2 5 (cA, .byte) rfl).2).symm.trans (va_nm_byte (hK.2 0 (cB, .byte) rfl).2))
  subst e
  exact kk q H1 hP1 hD1 hS1
theorem ak_byte {args : Array Value} {s : State} (h : (Cond.arrayClass .byte).before args s = true) : ∃ cA : ClassId, ArrOfT s cA .byte ∧ va_RA s cA .byte := by
  obtain ⟨c, k, comp, h1, h2, h3⟩ := Cond.arrayClass_spec h
  exact ⟨c, fun n z => ⟨fun k h => (by cases h), k, h2, comp, h3⟩, h1⟩
theorem na_char (hexec : p.tables.exec = Jvm.exec) (hb : c.code = cc) (harr : (Cond.arrayClass .char).before args s = true) (hK : va_K D cl (TY cB cC cI cJ cZ) s) (hP : va_P D cl ws H) (hD : va_D A ws) (hS : va_S A H0 H locs) (hA : ∀ q, H0.size ≤ q → A q) {n : Int32} {N' : Nat} (hn : ¬ n < 0) (hN : n.toNatClampNeg = N') (hby : N' * componentBytes .char ≤ 536870912) (hcells : cells + 1 ≤ R.cells) (hslots : slots + N' ≤ R.slots) (hdg : decode cc pc = .ok (.newarray .char, 2))
    (kk : ∀ (q : Nat) (H1 : Heap), va_P D cl (ws ++ [(q, .inl (cC, N', .inl (fun _ => 0)))]) H1 → va_D A (ws ++ [(q, .inl (cC, N', .inl (fun _ => 0)))]) → va_S A H0 H1 locs → W p l e R s m args below meth c H1 locs (cells + 1) (slots + N') Q (F0 m (pc + 2) ls (.ref q :: rest))) : W p l e R s m args below meth c H locs cells slots Q (F0 m pc ls (.int n :: rest)) := by
  refine va_newa hexec hb (atype := .char) harr rfl hK hP hD hS hA (a0 := (N', .inl (fun _ => 0))) (fun cA => rfl) hn hN hby hcells hslots hdg (fun q cA H1 hK1 hP1 hD1 hS1 => ?_)
  have e : cA = cC := Option.some.inj ((va_nm_char (hK1.2 5 (cA, .char) rfl).2).symm.trans (va_nm_char (hK.2 1 (cC, .char) rfl).2))
  subst e
  exact kk q H1 hP1 hD1 hS1
theorem ak_char {args : Array Value} {s : State} (h : (Cond.arrayClass .char).before args s = true) : ∃ cA : ClassId, ArrOfT s cA .char ∧ va_RA s cA .char := by
  obtain ⟨c, k, comp, h1, h2, h3⟩ := Cond.arrayClass_spec h
  exact ⟨c, fun n z => ⟨fun k h => (by cases h), k, h2, comp, h3⟩, h1⟩
theorem na_int (hexec : p.tables.exec = Jvm.exec) (hb : c.code = cc) (harr : (Cond.arrayClass .int).before args s = true) (hK : va_K D cl (TY cB cC cI cJ cZ) s) (hP : va_P D cl ws H) (hD : va_D A ws) (hS : va_S A H0 H locs) (hA : ∀ q, H0.size ≤ q → A q) {n : Int32} {N' : Nat} (hn : ¬ n < 0) (hN : n.toNatClampNeg = N') (hby : N' * componentBytes .int ≤ 536870912) (hcells : cells + 1 ≤ R.cells) (hslots : slots + N' ≤ R.slots) (hdg : decode cc pc = .ok (.newarray .int, 2))
    (kk : ∀ (q : Nat) (H1 : Heap), va_P D cl (ws ++ [(q, .inl (cI, N', .inl (fun _ => 0)))]) H1 → va_D A (ws ++ [(q, .inl (cI, N', .inl (fun _ => 0)))]) → va_S A H0 H1 locs → W p l e R s m args below meth c H1 locs (cells + 1) (slots + N') Q (F0 m (pc + 2) ls (.ref q :: rest))) : W p l e R s m args below meth c H locs cells slots Q (F0 m pc ls (.int n :: rest)) := by
  refine va_newa hexec hb (atype := .int) harr rfl hK hP hD hS hA (a0 := (N', .inl (fun _ => 0))) (fun cA => rfl) hn hN hby hcells hslots hdg (fun q cA H1 hK1 hP1 hD1 hS1 => ?_)
  have e : cA = cI := Option.some.inj ((va_nm_int (hK1.2 5 (cA, .int) rfl).2).symm.trans (va_nm_int (hK.2 2 (cI, .int) rfl).2))
  subst e
  exact kk q H1 hP1 hD1 hS1
theorem ak_int {args : Array Value} {s : State} (h : (Cond.arrayClass .int).before args s = true) : ∃ cA : ClassId, ArrOfT s cA .int ∧ va_RA s cA .int := by
  obtain ⟨c, k, comp, h1, h2, h3⟩ := Cond.arrayClass_spec h
  exact ⟨c, fun n z => ⟨fun k h => (by cases h), k, h2, comp, h3⟩, h1⟩
theorem na_long (hexec : p.tables.exec = Jvm.exec) (hb : c.code = cc) (harr : (Cond.arrayClass .long).before args s = true) (hK : va_K D cl (TY cB cC cI cJ cZ) s) (hP : va_P D cl ws H) (hD : va_D A ws) (hS : va_S A H0 H locs) (hA : ∀ q, H0.size ≤ q → A q) {n : Int32} {N' : Nat} (hn : ¬ n < 0) (hN : n.toNatClampNeg = N') (hby : N' * componentBytes .long ≤ 536870912) (hcells : cells + 1 ≤ R.cells) (hslots : slots + N' ≤ R.slots) (hdg : decode cc pc = .ok (.newarray .long, 2))
    (kk : ∀ (q : Nat) (H1 : Heap), va_P D cl (ws ++ [(q, .inl (cJ, N', .inr (.inl (fun _ => 0))))]) H1 → va_D A (ws ++ [(q, .inl (cJ, N', .inr (.inl (fun _ => 0))))]) → va_S A H0 H1 locs → W p l e R s m args below meth c H1 locs (cells + 1) (slots + N') Q (F0 m (pc + 2) ls (.ref q :: rest))) : W p l e R s m args below meth c H locs cells slots Q (F0 m pc ls (.int n :: rest)) := by
  refine va_newa hexec hb (atype := .long) harr rfl hK hP hD hS hA (a0 := (N', .inr (.inl (fun _ => 0)))) (fun cA => rfl) hn hN hby hcells hslots hdg (fun q cA H1 hK1 hP1 hD1 hS1 => ?_)
  have e : cA = cJ := Option.some.inj ((va_nm_long (hK1.2 5 (cA, .long) rfl).2).symm.trans (va_nm_long (hK.2 3 (cJ, .long) rfl).2))
  subst e
  exact kk q H1 hP1 hD1 hS1
theorem ak_long {args : Array Value} {s : State} (h : (Cond.arrayClass .long).before args s = true) : ∃ cA : ClassId, ArrOfT s cA .long ∧ va_RA s cA .long := by
  obtain ⟨c, k, comp, h1, h2, h3⟩ := Cond.arrayClass_spec h
  exact ⟨c, fun n z => ⟨fun k h => (by cases h), k, h2, comp, h3⟩, h1⟩
theorem na_boolean (hexec : p.tables.exec = Jvm.exec) (hb : c.code = cc) (harr : (Cond.arrayClass .boolean).before args s = true) (hK : va_K D cl (TY cB cC cI cJ cZ) s) (hP : va_P D cl ws H) (hD : va_D A ws) (hS : va_S A H0 H locs) (hA : ∀ q, H0.size ≤ q → A q) {n : Int32} {N' : Nat} (hn : ¬ n < 0) (hN : n.toNatClampNeg = N') (hby : N' * componentBytes .boolean ≤ 536870912) (hcells : cells + 1 ≤ R.cells) (hslots : slots + N' ≤ R.slots) (hdg : decode cc pc = .ok (.newarray .boolean, 2))
    (kk : ∀ (q : Nat) (H1 : Heap), va_P D cl (ws ++ [(q, .inl (cZ, N', .inl (fun _ => 0)))]) H1 → va_D A (ws ++ [(q, .inl (cZ, N', .inl (fun _ => 0)))]) → va_S A H0 H1 locs → W p l e R s m args below meth c H1 locs (cells + 1) (slots + N') Q (F0 m (pc + 2) ls (.ref q :: rest))) : W p l e R s m args below meth c H locs cells slots Q (F0 m pc ls (.int n :: rest)) := by
  refine va_newa hexec hb (atype := .boolean) harr rfl hK hP hD hS hA (a0 := (N', .inl (fun _ => 0))) (fun cA => rfl) hn hN hby hcells hslots hdg (fun q cA H1 hK1 hP1 hD1 hS1 => ?_)
  have e : cA = cZ := Option.some.inj ((va_nm_boolean (hK1.2 5 (cA, .boolean) rfl).2).symm.trans (va_nm_boolean (hK.2 4 (cZ, .boolean) rfl).2))
  subst e
  exact kk q H1 hP1 hD1 hS1
theorem ak_boolean {args : Array Value} {s : State} (h : (Cond.arrayClass .boolean).before args s = true) : ∃ cA : ClassId, ArrOfT s cA .boolean ∧ va_RA s cA .boolean := by
  obtain ⟨c, k, comp, h1, h2, h3⟩ := Cond.arrayClass_spec h
  exact ⟨c, fun n z => ⟨fun k h => (by cases h), k, h2, comp, h3⟩, h1⟩
end BS
abbrev NW (U : State) : Prop := va_Nw (Cond.methodLinkNest RX0 11 yX2_init "MacroScopes") U ∧ va_Nw (Cond.methodLinkNest RX0 42 yX5_init "MacroScopes") U ∧ va_Nw (Cond.fieldLinkNest RX0 94 "MacroScopes$Forms" "top" "I" "MacroScopes") U ∧ va_Nw (Cond.fieldLinkNest RX0 100 "MacroScopes$Frames" "top" "I" "MacroScopes") U ∧ va_Nw (Cond.fieldLinkNest RX0 142 "MacroScopes$Told" "length" "I" "MacroScopes") U ∧ va_Nw (Cond.fieldLinkNest RX9 42 "MacroScopes$Names" "binding" "[I" "MacroScopes") U ∧ va_Nw (Cond.methodLinkNest RX11 22 yX1_init "MacroScopes") U ∧ va_Nw (Cond.methodLinkNest RX11 29 yX10_init "MacroScopes") U ∧ va_Nw (Cond.fieldLinkNest RX11 72 "MacroScopes$Forms" "kept" "I" "MacroScopes") U ∧ va_Nw (Cond.fieldLinkNest RX11 88 "MacroScopes$Expander" "place" "I" "MacroScopes") U ∧ va_Nw (Cond.fieldLinkNest RX11 96 "MacroScopes$Told" "takenLength" "I" "MacroScopes") U ∧ va_Nw (Cond.fieldLinkNest RX11 130 "MacroScopes$Expander" "uses" "I" "MacroScopes") U ∧ va_Nw (Cond.fieldLinkNest RX11 131 "MacroScopes$Expander" "variables" "I" "MacroScopes") U
theorem NW.same {u U : State} (h : u.vm = U.vm) (q : NW u) : NW U := ⟨va_Nw.same rfl h q.1, va_Nw.same rfl h q.2.1, va_Nw.same rfl h q.2.2.1, va_Nw.same rfl h q.2.2.2.1, va_Nw.same rfl h q.2.2.2.2.1, va_Nw.same rfl h q.2.2.2.2.2.1, va_Nw.same rfl h q.2.2.2.2.2.2.1, va_Nw.same rfl h q.2.2.2.2.2.2.2.1, va_Nw.same rfl h q.2.2.2.2.2.2.2.2.1, va_Nw.same rfl h q.2.2.2.2.2.2.2.2.2.1, va_Nw.same rfl h q.2.2.2.2.2.2.2.2.2.2.1, va_Nw.same rfl h q.2.2.2.2.2.2.2.2.2.2.2.1, va_Nw.same rfl h q.2.2.2.2.2.2.2.2.2.2.2.2⟩
theorem NW.same2 {u U : State} (q : NW u) (h : u.vm = U.vm) : NW U := NW.same h q
theorem NW.warm {s U : State} (q : NW s) (hW : s.WarmedH U.vm) : NW U := ⟨va_Nw.warmM hW q.1, va_Nw.warmM hW q.2.1, va_Nw.warmF hW q.2.2.1, va_Nw.warmF hW q.2.2.2.1, va_Nw.warmF hW q.2.2.2.2.1, va_Nw.warmF hW q.2.2.2.2.2.1, va_Nw.warmM hW q.2.2.2.2.2.2.1, va_Nw.warmM hW q.2.2.2.2.2.2.2.1, va_Nw.warmF hW q.2.2.2.2.2.2.2.2.1, va_Nw.warmF hW q.2.2.2.2.2.2.2.2.2.1, va_Nw.warmF hW q.2.2.2.2.2.2.2.2.2.2.1, va_Nw.warmF hW q.2.2.2.2.2.2.2.2.2.2.2.1, va_Nw.warmF hW q.2.2.2.2.2.2.2.2.2.2.2.2⟩
theorem df_X0 : ∀ j, j < 15 → defaultValue (tyX0 j) = vp_V [.null, .null, .null, .null, .null, .null, .null, .null, .int 0, .int 0, .int 0, .int 0, .int 0, .int 0, .int 0] j := by decide +kernel
theorem df_X1 : ∀ j, j < 4 → defaultValue (tyX1 j) = vp_V [.null, .null, .int 0, .int 0] j := by decide +kernel
theorem df_X2 : ∀ j, j < 7 → defaultValue (tyX2 j) = vp_V [.null, .null, .null, .null, .null, .null, .int 0] j := by decide +kernel
theorem df_X3 : ∀ j, j < 6 → defaultValue (tyX3 j) = vp_V [.null, .null, .null, .int 0, .int 0, .int 0] j := by decide +kernel
theorem df_X4 : ∀ j, j < 6 → defaultValue (tyX4 j) = vp_V [.null, .null, .null, .null, .int 0, .int 0] j := by decide +kernel
theorem df_X5 : ∀ j, j < 6 → defaultValue (tyX5 j) = vp_V [.null, .null, .null, .null, .int 0, .int 0] j := by decide +kernel
theorem df_X6 : ∀ j, j < 13 → defaultValue (tyX6 j) = vp_V [.null, .null, .null, .null, .int 0, .int 0, .null, .null, .null, .null, .null, .int 0, .int 0] j := by decide +kernel
theorem df_X7 : ∀ j, j < 4 → defaultValue (tyX7 j) = vp_V [.null, .null, .null, .int 0] j := by decide +kernel
theorem df_X8 : ∀ j, j < 4 → defaultValue (tyX8 j) = vp_V [.null, .null, .null, .int 0] j := by decide +kernel
theorem df_X9 : ∀ j, j < 6 → defaultValue (tyX9 j) = vp_V [.null, .null, .null, .null, .null, .int 0] j := by decide +kernel
theorem df_X10 : ∀ j, j < 5 → defaultValue (tyX10 j) = vp_V [.null, .int 0, .null, .int 0, .int 0] j := by decide +kernel
theorem df_X11 : ∀ j, j < 11 → defaultValue (tyX11 j) = vp_V [.null, .null, .null, .null, .null, .null, .int 0, .int 0, .int 0, .int 0, .int 0] j := by decide +kernel
theorem df_X12 : ∀ j, j < 64 → defaultValue (tyX12 j) = vp_V [.int 0, .null, .int 0, .int 0, .null, .null, .int 0, .null, .null, .int 0, .null, .null, .null, .null, .int 0, .int 0, .int 0, .int 0, .null, .null, .int 0, .null, .null, .int 0, .null, .null, .null, .int 0, .null, .null, .null, .null, .int 0, .int 0, .int 0, .int 0, .int 0, .null, .int 0, .null, .int 0, .int 0, .int 0, .int 0, .null, .int 0, .null, .null, .null, .int 0, .null, .null, .null, .int 0, .null, .null, .null, .null, .null, .null, .null, .null, .int 0, .int 0] j := by decide +kernel
/-- a String constant of at most 16 bytes, in the short form -/
def StrOK (a : Nat) (A : Nat → Prop) (U : State) (H : Heap) : Prop := va_Z "java/lang/String" "COMPACT_STRINGS" "Z" (.int 1) A U H ∧ va_O "java/lang/String" a A U H ∧ va_OF "java/lang/String" "coder" "B" (.int 0) a A U H ∧ ∃ (v n : Nat) (f : Nat → Int32), n ≤ 16 ∧ va_OF "java/lang/String" "value" "[B" (.ref v) a A U H ∧ va_T .byte v n (fun j => .int (f j)) A U H
theorem StrOK.moved {a : Nat} {A : Nat → Prop} {u U : State} {H : Heap} (h : StrOK a A u H) (hvm : u.vm.Alike U.vm) : StrOK a A U H := by
  obtain ⟨h1, h2, h3, v, n, f, hn, h4, h5⟩ := h
  exact ⟨va_Z.moved hvm h1, va_O.moved hvm h2, va_OF.moved hvm h3, v, n, f, hn, va_OF.moved hvm h4, va_T.moved hvm h5⟩
theorem StrOK.kept {a : Nat} {A : Nat → Prop} {U : State} {H H1 : Heap} (h : StrOK a A U H) (hq : ∀ a : Nat, a < H.size → ¬ A a → H1[a]? = H[a]?) : StrOK a A U H1 := by
  obtain ⟨h1, h2, h3, v, n, f, hn, h4, h5⟩ := h
  exact ⟨h1.kept hq, h2.kept hq, h3.kept hq, v, n, f, hn, h4.kept hq, h5.kept hq⟩
theorem StrOK.narrow {a : Nat} {A B : Nat → Prop} {U : State} {H : Heap} (h : StrOK a A U H) (hAB : ∀ q, B q → A q) : StrOK a B U H := by
  obtain ⟨h1, h2, h3, v, n, f, hn, h4, h5⟩ := h
  exact ⟨h1.narrow hAB, h2.narrow hAB, h3.narrow hAB, v, n, f, hn, h4.narrow hAB, h5.narrow hAB⟩
end
section
theorem lkX1_init_o3 : Cond.methodLink RX1 3 objectInit ∈ wsX1_init := by decide +kernel
theorem lkX1_init_oi : Cond.instanceMethod objectInit ∈ wsX1_init := by decide +kernel
theorem lkX1_init_oc : Cond.code objectInit ⟨#[0xb1]⟩ 1 none ∈ wsX1_init := by decide +kernel
theorem lkX1_init_aint : Cond.arrayClass .int ∈ wsX1_init := by decide +kernel
theorem lkX1_init_f11 : Cond.fieldLink RX1 11 "MacroScopes$Forms" "what" "[I" ∈ wsX1_init := by decide +kernel
theorem inX1_init_X1 : ∀ w ∈ wsX10, w ∈ wsX1_init := fun w h => List.mem_cons_of_mem _ (List.mem_append_right _ h)
theorem lkX1_init_f15 : Cond.fieldLink RX1 15 "MacroScopes$Forms" "span" "[I" ∈ wsX1_init := by decide +kernel
theorem lkX1_init_f18 : Cond.fieldLink RX1 18 "MacroScopes$Forms" "top" "I" ∈ wsX1_init := by decide +kernel
theorem lkX1_init_f22 : Cond.fieldLink RX1 22 "MacroScopes$Forms" "kept" "I" ∈ wsX1_init := by decide +kernel
theorem lkX10_init_o3 : Cond.methodLink RX10 3 objectInit ∈ wsX10_init := by decide +kernel
theorem lkX10_init_oi : Cond.instanceMethod objectInit ∈ wsX10_init := by decide +kernel
theorem lkX10_init_oc : Cond.code objectInit ⟨#[0xb1]⟩ 1 none ∈ wsX10_init := by decide +kernel
theorem lkX10_init_achar : Cond.arrayClass .char ∈ wsX10_init := by decide +kernel
theorem lkX10_init_f9 : Cond.fieldLink RX10 9 "MacroScopes$Told" "taken" "[C" ∈ wsX10_init := by decide +kernel
theorem inX10_init_X10 : ∀ w ∈ wsX100, w ∈ wsX10_init := fun w h => List.mem_cons_of_mem _ (List.mem_append_right _ h)
theorem lkX10_init_f15 : Cond.fieldLink RX10 15 "MacroScopes$Told" "takenLength" "I" ∈ wsX10_init := by decide +kernel
theorem lkX10_init_f19 : Cond.fieldLink RX10 19 "MacroScopes$Told" "text" "[C" ∈ wsX10_init := by decide +kernel
theorem lkX10_init_f22 : Cond.fieldLink RX10 22 "MacroScopes$Told" "length" "I" ∈ wsX10_init := by decide +kernel
theorem lkX10_init_f25 : Cond.fieldLink RX10 25 "MacroScopes$Told" "last" "C" ∈ wsX10_init := by decide +kernel
theorem lkX2_init_o3 : Cond.methodLink RX2 3 objectInit ∈ wsX2_init := by decide +kernel
theorem lkX2_init_oi : Cond.instanceMethod objectInit ∈ wsX2_init := by decide +kernel
theorem lkX2_init_oc : Cond.code objectInit ⟨#[0xb1]⟩ 1 none ∈ wsX2_init := by decide +kernel
theorem lkX2_init_aint : Cond.arrayClass .int ∈ wsX2_init := by decide +kernel
theorem lkX2_init_f11 : Cond.fieldLink RX2 11 "MacroScopes$Frames" "next" "[I" ∈ wsX2_init := by decide +kernel
theorem inX2_init_X2 : ∀ w ∈ wsX20, w ∈ wsX2_init := fun w h => List.mem_cons_of_mem _ (List.mem_append_right _ h)
theorem lkX2_init_f15 : Cond.fieldLink RX2 15 "MacroScopes$Frames" "end" "[I" ∈ wsX2_init := by decide +kernel
theorem lkX2_init_aboolean : Cond.arrayClass .boolean ∈ wsX2_init := by decide +kernel
theorem lkX2_init_f18 : Cond.fieldLink RX2 18 "MacroScopes$Frames" "closes" "[Z" ∈ wsX2_init := by decide +kernel
theorem lkX2_init_f22 : Cond.fieldLink RX2 22 "MacroScopes$Frames" "formsBefore" "[I" ∈ wsX2_init := by decide +kernel
theorem lkX2_init_f25 : Cond.fieldLink RX2 25 "MacroScopes$Frames" "namesBefore" "[I" ∈ wsX2_init := by decide +kernel
theorem lkX2_init_f28 : Cond.fieldLink RX2 28 "MacroScopes$Frames" "scopesBefore" "[I" ∈ wsX2_init := by decide +kernel
theorem lkX2_init_f31 : Cond.fieldLink RX2 31 "MacroScopes$Frames" "top" "I" ∈ wsX2_init := by decide +kernel
theorem lkX5_init_o3 : Cond.methodLink RX5 3 objectInit ∈ wsX5_init := by decide +kernel
theorem lkX5_init_oi : Cond.instanceMethod objectInit ∈ wsX5_init := by decide +kernel
theorem lkX5_init_oc : Cond.code objectInit ⟨#[0xb1]⟩ 1 none ∈ wsX5_init := by decide +kernel
theorem lkX5_init_aint : Cond.arrayClass .int ∈ wsX5_init := by decide +kernel
theorem lkX5_init_f9 : Cond.fieldLink RX5 9 "MacroScopes$Matches" "first" "[I" ∈ wsX5_init := by decide +kernel
theorem inX5_init_X5 : ∀ w ∈ wsX50, w ∈ wsX5_init := fun w h => List.mem_cons_of_mem _ (List.mem_append_right _ h)
theorem lkX5_init_f15 : Cond.fieldLink RX5 15 "MacroScopes$Matches" "apart" "[I" ∈ wsX5_init := by decide +kernel
theorem lkX5_init_f18 : Cond.fieldLink RX5 18 "MacroScopes$Matches" "times" "[I" ∈ wsX5_init := by decide +kernel
theorem lkX5_init_f21 : Cond.fieldLink RX5 21 "MacroScopes$Matches" "matched" "[I" ∈ wsX5_init := by decide +kernel
theorem lkX5_init_f24 : Cond.fieldLink RX5 24 "MacroScopes$Matches" "variables" "I" ∈ wsX5_init := by decide +kernel
theorem lkX5_init_f28 : Cond.fieldLink RX5 28 "MacroScopes$Matches" "forms" "I" ∈ wsX5_init := by decide +kernel
theorem lkX9_init_o3 : Cond.methodLink RX9 3 objectInit ∈ wsX9_init := by decide +kernel
theorem lkX9_init_oi : Cond.instanceMethod objectInit ∈ wsX9_init := by decide +kernel
theorem lkX9_init_oc : Cond.code objectInit ⟨#[0xb1]⟩ 1 none ∈ wsX9_init := by decide +kernel
theorem lkX9_init_aint : Cond.arrayClass .int ∈ wsX9_init := by decide +kernel
theorem lkX9_init_f11 : Cond.fieldLink RX9 11 "MacroScopes$Scopes" "name" "[I" ∈ wsX9_init := by decide +kernel
theorem inX9_init_X9 : ∀ w ∈ wsX90, w ∈ wsX9_init := fun w h => List.mem_cons_of_mem _ (List.mem_append_right _ h)
theorem lkX9_init_f15 : Cond.fieldLink RX9 15 "MacroScopes$Scopes" "outer" "[I" ∈ wsX9_init := by decide +kernel
theorem lkX9_init_f18 : Cond.fieldLink RX9 18 "MacroScopes$Scopes" "value" "[I" ∈ wsX9_init := by decide +kernel
theorem lkX9_init_f21 : Cond.fieldLink RX9 21 "MacroScopes$Scopes" "home" "[I" ∈ wsX9_init := by decide +kernel
theorem lkX9_init_f24 : Cond.fieldLink RX9 24 "MacroScopes$Scopes" "top" "I" ∈ wsX9_init := by decide +kernel
theorem lkX9_init_f28 : Cond.fieldLink RX9 28 "MacroScopes$Scopes" "names" "LMacroScopes$Names;" ∈ wsX9_init := by decide +kernel
theorem lkX8_init_o3 : Cond.methodLink RX8 3 objectInit ∈ wsX8_init := by decide +kernel
theorem lkX8_init_oi : Cond.instanceMethod objectInit ∈ wsX8_init := by decide +kernel
theorem lkX8_init_oc : Cond.code objectInit ⟨#[0xb1]⟩ 1 none ∈ wsX8_init := by decide +kernel
theorem lkX8_init_f9 : Cond.fieldLink RX8 9 "MacroScopes$RuleCheck" "literals" "I" ∈ wsX8_init := by decide +kernel
theorem inX8_init_X8 : ∀ w ∈ wsX80, w ∈ wsX8_init := fun w h => List.mem_cons_of_mem _ (List.mem_append_right _ h)
theorem lkX8_init_f15 : Cond.fieldLink RX8 15 "MacroScopes$RuleCheck" "forms" "LMacroScopes$Forms;" ∈ wsX8_init := by decide +kernel
theorem lkX8_init_f19 : Cond.fieldLink RX8 19 "MacroScopes$RuleCheck" "names" "LMacroScopes$Names;" ∈ wsX8_init := by decide +kernel
theorem lkX8_init_f23 : Cond.fieldLink RX8 23 "MacroScopes$RuleCheck" "scopes" "LMacroScopes$Scopes;" ∈ wsX8_init := by decide +kernel
theorem lkX4_init_o3 : Cond.methodLink RX4 3 objectInit ∈ wsX4_init := by decide +kernel
theorem lkX4_init_oi : Cond.instanceMethod objectInit ∈ wsX4_init := by decide +kernel
theorem lkX4_init_oc : Cond.code objectInit ⟨#[0xb1]⟩ 1 none ∈ wsX4_init := by decide +kernel
theorem lkX4_init_f9 : Cond.fieldLink RX4 9 "MacroScopes$Matcher" "literals" "I" ∈ wsX4_init := by decide +kernel
theorem inX4_init_X4 : ∀ w ∈ wsX40, w ∈ wsX4_init := fun w h => List.mem_cons_of_mem _ (List.mem_append_right _ h)
theorem lkX4_init_f15 : Cond.fieldLink RX4 15 "MacroScopes$Matcher" "home" "I" ∈ wsX4_init := by decide +kernel
theorem lkX4_init_f18 : Cond.fieldLink RX4 18 "MacroScopes$Matcher" "forms" "LMacroScopes$Forms;" ∈ wsX4_init := by decide +kernel
theorem lkX4_init_f22 : Cond.fieldLink RX4 22 "MacroScopes$Matcher" "names" "LMacroScopes$Names;" ∈ wsX4_init := by decide +kernel
theorem lkX4_init_f26 : Cond.fieldLink RX4 26 "MacroScopes$Matcher" "scopes" "LMacroScopes$Scopes;" ∈ wsX4_init := by decide +kernel
theorem lkX4_init_f30 : Cond.fieldLink RX4 30 "MacroScopes$Matcher" "matches" "LMacroScopes$Matches;" ∈ wsX4_init := by decide +kernel
theorem lkX3_init_o3 : Cond.methodLink RX3 3 objectInit ∈ wsX3_init := by decide +kernel
theorem lkX3_init_oi : Cond.instanceMethod objectInit ∈ wsX3_init := by decide +kernel
theorem lkX3_init_oc : Cond.code objectInit ⟨#[0xb1]⟩ 1 none ∈ wsX3_init := by decide +kernel
theorem lkX3_init_f9 : Cond.fieldLink RX3 9 "MacroScopes$Maker" "home" "I" ∈ wsX3_init := by decide +kernel
theorem inX3_init_X3 : ∀ w ∈ wsX30, w ∈ wsX3_init := fun w h => List.mem_cons_of_mem _ (List.mem_append_right _ h)
theorem lkX3_init_f15 : Cond.fieldLink RX3 15 "MacroScopes$Maker" "start" "I" ∈ wsX3_init := by decide +kernel
theorem lkX3_init_f18 : Cond.fieldLink RX3 18 "MacroScopes$Maker" "tooMuch" "Z" ∈ wsX3_init := by decide +kernel
theorem lkX3_init_f22 : Cond.fieldLink RX3 22 "MacroScopes$Maker" "forms" "LMacroScopes$Forms;" ∈ wsX3_init := by decide +kernel
theorem lkX3_init_f26 : Cond.fieldLink RX3 26 "MacroScopes$Maker" "names" "LMacroScopes$Names;" ∈ wsX3_init := by decide +kernel
theorem lkX3_init_f30 : Cond.fieldLink RX3 30 "MacroScopes$Maker" "matches" "LMacroScopes$Matches;" ∈ wsX3_init := by decide +kernel
theorem lkX7_init_o3 : Cond.methodLink RX7 3 objectInit ∈ wsX7_init := by decide +kernel
theorem lkX7_init_oi : Cond.instanceMethod objectInit ∈ wsX7_init := by decide +kernel
theorem lkX7_init_oc : Cond.code objectInit ⟨#[0xb1]⟩ 1 none ∈ wsX7_init := by decide +kernel
theorem lkX7_init_aint : Cond.arrayClass .int ∈ wsX7_init := by decide +kernel
theorem lkX7_init_f9 : Cond.fieldLink RX7 9 "MacroScopes$Reader" "open" "[I" ∈ wsX7_init := by decide +kernel
theorem inX7_init_X7 : ∀ w ∈ wsX70, w ∈ wsX7_init := fun w h => List.mem_cons_of_mem _ (List.mem_append_right _ h)
theorem lkX7_init_f15 : Cond.fieldLink RX7 15 "MacroScopes$Reader" "opened" "I" ∈ wsX7_init := by decide +kernel
theorem lkX7_init_f19 : Cond.fieldLink RX7 19 "MacroScopes$Reader" "forms" "LMacroScopes$Forms;" ∈ wsX7_init := by decide +kernel
theorem lkX7_init_f23 : Cond.fieldLink RX7 23 "MacroScopes$Reader" "names" "LMacroScopes$Names;" ∈ wsX7_init := by decide +kernel
set_option maxHeartbeats 4000000 in
set_option maxRecDepth 100000 in
/-- Forms() -/
theorem c_Forms (l : Launch) (dC : Nat → ClassId) (dI : Nat → Nat → Nat) (cB cC cI cJ cZ : ClassId) (h0 : Nat)  (sz : Nat) : Met l yX1_init wsX1_init { frames := 1, cells := 2, slots := 20000, locals := 20 } (va_Pc [.ref h0] (fun U => U.heap.size = sz ∧ va_P (dC, dI) vwCl [(h0, .inr (1, [.null, .null, .int 0, .int 0]))] U.heap ∧ va_K (dC, dI) vwCl (TY cB cC cI cJ cZ) U ∧ va_D (fun _ => True) [(h0, .inr (1, [.null, .null, .int 0, .int 0]))])) (va_Qv (fun (_ : Unit) => True) (fun (_ : Unit) (t : State) => ∃ (q1 : Nat), ∃ (q2 : Nat), va_P (dC, dI) vwCl [(h0, .inr (1, [.ref q1, .ref q2, .int 4000, .int 0]))] t.heap ∧ va_K (dC, dI) vwCl (TY cB cC cI cJ cZ) t ∧ va_D (va_A [(h0, .inr (1, [.null, .null, .int 0, .int 0]))] sz) [(h0, .inr (1, [.ref q1, .ref q2, .int 4000, .int 0]))]) (va_A [(h0, .inr (1, [.null, .null, .int 0, .int 0]))] sz)) 2 20000 (va_A [(h0, .inr (1, [.null, .null, .int 0, .int 0]))] sz) := by
  refine Met.ofW (cc := cX1_init) (maxL := 1) (ret := none) (by decide) rfl ?_
  intro p e s m args below meth c s₁ B hml hv
  obtain ⟨rfl, hsz, hP, hK, hD0⟩ := hv
  have hx := B.exec
  have hb := B.bytes
  have hr := B.returns
  have hts := atoms_spec (ws := wsX1_init) B.pre
  have hown : s.vm.findClass RX1 = some m.cls := findClass_of_methodNamed B.named
  have hlocks := B.notSynchronized
  have hin : meth.name = "<init>" := (name_of_methodNamed B.named B.method).1
  subst hsz
  have hD := hD0.self (sz := s.heap.size)
  generalize hAe : va_A [(h0, .inr (1, [.null, .null, .int 0, .int 0]))] s.heap.size = A at hD ⊢
  have hA : ∀ q : Nat, s.heap.size ≤ q → A q := fun q h => by rw [← hAe]; exact Or.inr h
  have hS : va_S A s.heap s.heap [] := va_S.rf
  have hP : va_P (dC, dI) vwCl [(h0, .inr (1, [.null, .null, .int 0, .int 0]))] s.heap := hP
  have hl := lv_entry ([.ref h0]) (n := 1) (Nat.le_of_ble_eq_true rfl)
  rw [lg_entry_eq]
  generalize (lg_sl ([.ref h0]) ++ List.replicate (1 - (lg_sl ([.ref h0])).length) Slot.unset).toArray = ls at hl ⊢
  have hl : lv_has ls 1 [(0, .ref h0)] := hl
  refine lv_aload_n hx hb dX1_init_0 rfl (lv_at hl 0 rfl) ?_
  refine W.objInit hx hb hown (hts _ lkX1_init_o3) (hts _ lkX1_init_oi) (hts _ lkX1_init_oc) rfl (by rw [hml]; exact hl.1) rfl dX1_init_1 (Nat.le_of_ble_eq_true rfl) (Nat.le_of_ble_eq_true rfl) ?_
  refine W.eq (g2 := F0 m 4 ls []) rfl ?_
  refine lv_aload_n hx hb dX1_init_4 rfl (lv_at hl 0 rfl) ?_
  refine lv_sipush (v := 10000) hx hb dX1_init_5 (by decide) ?_
  refine na_int (N' := 10000) hx hb (hts _ lkX1_init_aint) hK hP hD hS hA (by decide) (by decide) (by decide) (Nat.le_of_ble_eq_true rfl) (Nat.le_of_ble_eq_true rfl) dX1_init_8 (fun q1 H hP hD hS => ?_)
  have hP := hP.sub (ws' := [(h0, .inr (1, [.null, .null, .int 0, .int 0]))]) [0] rfl
  have hD := hD.sub (ws' := [(h0, .inr (1, [.null, .null, .int 0, .int 0]))]) [0] (by decide) rfl
  refine W.widen (k := 1) (n := 10000) (Nat.le_of_ble_eq_true rfl) (Nat.le_of_ble_eq_true rfl) ?_
  refine va_put (D := (dC, dI)) (ci := 1) (v := .ref q1) (ty := .array .int) (C := RX1) (T := TX1) (N := 4) hx hb hts inX1_init_X1 tyX1 tyX1_ok nmX1 hown hK hP hD hS 0 rfl rfl 0 (by decide) (hts _ lkX1_init_f11) (fun _ h9 => h9) rfl (by decide +kernel) rfl rfl (Nat.le_of_ble_eq_true rfl) dX1_init_10 (fun H locs hP hD hS => ?_)
  have hP : va_P (dC, dI) vwCl [(h0, .inr (1, [.ref q1, .null, .int 0, .int 0]))] H := hP
  have hD : va_D A [(h0, .inr (1, [.ref q1, .null, .int 0, .int 0]))] := hD
  refine lv_aload_n hx hb dX1_init_13 rfl (lv_at hl 0 rfl) ?_
  refine lv_sipush (v := 10000) hx hb dX1_init_14 (by decide) ?_
  refine na_int (N' := 10000) hx hb (hts _ lkX1_init_aint) hK hP hD hS hA (by decide) (by decide) (by decide) (Nat.le_of_ble_eq_true rfl) (Nat.le_of_ble_eq_true rfl) dX1_init_17 (fun q2 H hP hD hS => ?_)
  have hP := hP.sub (ws' := [(h0, .inr (1, [.ref q1, .null, .int 0, .int 0]))]) [0] rfl
  have hD := hD.sub (ws' := [(h0, .inr (1, [.ref q1, .null, .int 0, .int 0]))]) [0] (by decide) rfl
  refine W.widen (k := 2) (n := 20000) (Nat.le_of_ble_eq_true rfl) (Nat.le_of_ble_eq_true rfl) ?_
  refine va_put (D := (dC, dI)) (ci := 1) (v := .ref q2) (ty := .array .int) (C := RX1) (T := TX1) (N := 4) hx hb hts inX1_init_X1 tyX1 tyX1_ok nmX1 hown hK hP hD hS 0 rfl rfl 1 (by decide) (hts _ lkX1_init_f15) (fun _ h9 => h9) rfl (by decide +kernel) rfl rfl (Nat.le_of_ble_eq_true rfl) dX1_init_19 (fun H locs hP hD hS => ?_)
  have hP : va_P (dC, dI) vwCl [(h0, .inr (1, [.ref q1, .ref q2, .int 0, .int 0]))] H := hP
  have hD : va_D A [(h0, .inr (1, [.ref q1, .ref q2, .int 0, .int 0]))] := hD
  refine lv_aload_n hx hb dX1_init_22 rfl (lv_at hl 0 rfl) ?_
  refine lv_sipush (v := 4000) hx hb dX1_init_23 (by decide) ?_
  refine va_put (D := (dC, dI)) (ci := 1) (v := .int 4000) (ty := .int) (C := RX1) (T := TX1) (N := 4) hx hb hts inX1_init_X1 tyX1 tyX1_ok nmX1 hown hK hP hD hS 0 rfl rfl 2 (by decide) (hts _ lkX1_init_f18) (fun _ h9 => h9) rfl (by decide +kernel) rfl rfl (Nat.le_of_ble_eq_true rfl) dX1_init_26 (fun H locs hP hD hS => ?_)
  have hP : va_P (dC, dI) vwCl [(h0, .inr (1, [.ref q1, .ref q2, .int 4000, .int 0]))] H := hP
  have hD : va_D A [(h0, .inr (1, [.ref q1, .ref q2, .int 4000, .int 0]))] := hD
  refine lv_aload_n hx hb dX1_init_29 rfl (lv_at hl 0 rfl) ?_
  refine lv_iconst (v := 0) hx hb dX1_init_30 (by decide) ?_
  refine va_put (D := (dC, dI)) (ci := 1) (v := .int 0) (ty := .int) (C := RX1) (T := TX1) (N := 4) hx hb hts inX1_init_X1 tyX1 tyX1_ok nmX1 hown hK hP hD hS 0 rfl rfl 3 (by decide) (hts _ lkX1_init_f22) (fun _ h9 => h9) rfl (by decide +kernel) rfl rfl (Nat.le_of_ble_eq_true rfl) dX1_init_31 (fun H locs hP hD hS => ?_)
  have hP : va_P (dC, dI) vwCl [(h0, .inr (1, [.ref q1, .ref q2, .int 4000, .int 0]))] H := hP
  have hD : va_D A [(h0, .inr (1, [.ref q1, .ref q2, .int 4000, .int 0]))] := hD
  refine W.widen (k := 2) (n := 20000) (Nat.le_of_ble_eq_true rfl) (Nat.le_of_ble_eq_true rfl) ?_
  have hP9 := hP.sub (ws' := [(h0, .inr (1, [.ref q1, .ref q2, .int 4000, .int 0]))]) [0] rfl
  have hD9 := hD.sub (ws' := [(h0, .inr (1, [.ref q1, .ref q2, .int 4000, .int 0]))]) [0] (by decide) rfl
  exact W.vret hx hb hr (fun t ht hW => ⟨⟨(), rfl, trivial, q1, q2, by rw [ht]; exact hP9, va_K.moved hW.alike hK, hD9⟩, hS.F ht⟩) hS.2.2 dX1_init_34

set_option maxHeartbeats 4000000 in
set_option maxRecDepth 100000 in
/-- Told() -/
theorem c_Told (l : Launch) (dC : Nat → ClassId) (dI : Nat → Nat → Nat) (cB cC cI cJ cZ : ClassId) (h0 : Nat)  (sz : Nat) : Met l yX10_init wsX10_init { frames := 1, cells := 2, slots := 8000, locals := 20 } (va_Pc [.ref h0] (fun U => U.heap.size = sz ∧ va_P (dC, dI) vwCl [(h0, .inr (10, [.null, .int 0, .null, .int 0, .int 0]))] U.heap ∧ va_K (dC, dI) vwCl (TY cB cC cI cJ cZ) U ∧ va_D (fun _ => True) [(h0, .inr (10, [.null, .int 0, .null, .int 0, .int 0]))])) (va_Qv (fun (_ : Unit) => True) (fun (_ : Unit) (t : State) => ∃ (q1 : Nat), ∃ (q2 : Nat), va_P (dC, dI) vwCl [(h0, .inr (10, [.ref q1, .int 0, .ref q2, .int 0, .int 32]))] t.heap ∧ va_K (dC, dI) vwCl (TY cB cC cI cJ cZ) t ∧ va_D (va_A [(h0, .inr (10, [.null, .int 0, .null, .int 0, .int 0]))] sz) [(h0, .inr (10, [.ref q1, .int 0, .ref q2, .int 0, .int 32]))]) (va_A [(h0, .inr (10, [.null, .int 0, .null, .int 0, .int 0]))] sz)) 2 8000 (va_A [(h0, .inr (10, [.null, .int 0, .null, .int 0, .int 0]))] sz) := by
  refine Met.ofW (cc := cX10_init) (maxL := 1) (ret := none) (by decide) rfl ?_
  intro p e s m args below meth c s₁ B hml hv
  obtain ⟨rfl, hsz, hP, hK, hD0⟩ := hv
  have hx := B.exec
  have hb := B.bytes
  have hr := B.returns
  have hts := atoms_spec (ws := wsX10_init) B.pre
  have hown : s.vm.findClass RX10 = some m.cls := findClass_of_methodNamed B.named
  have hlocks := B.notSynchronized
  have hin : meth.name = "<init>" := (name_of_methodNamed B.named B.method).1
  subst hsz
  have hD := hD0.self (sz := s.heap.size)
  generalize hAe : va_A [(h0, .inr (10, [.null, .int 0, .null, .int 0, .int 0]))] s.heap.size = A at hD ⊢
  have hA : ∀ q : Nat, s.heap.size ≤ q → A q := fun q h => by rw [← hAe]; exact Or.inr h
  have hS : va_S A s.heap s.heap [] := va_S.rf
  have hP : va_P (dC, dI) vwCl [(h0, .inr (10, [.null, .int 0, .null, .int 0, .int 0]))] s.heap := hP
  have hl := lv_entry ([.ref h0]) (n := 1) (Nat.le_of_ble_eq_true rfl)
  rw [lg_entry_eq]
  generalize (lg_sl ([.ref h0]) ++ List.replicate (1 - (lg_sl ([.ref h0])).length) Slot.unset).toArray = ls at hl ⊢
  have hl : lv_has ls 1 [(0, .ref h0)] := hl
  refine lv_aload_n hx hb dX10_init_0 rfl (lv_at hl 0 rfl) ?_
  refine W.objInit hx hb hown (hts _ lkX10_init_o3) (hts _ lkX10_init_oi) (hts _ lkX10_init_oc) rfl (by rw [hml]; exact hl.1) rfl dX10_init_1 (Nat.le_of_ble_eq_true rfl) (Nat.le_of_ble_eq_true rfl) ?_
  refine W.eq (g2 := F0 m 4 ls []) rfl ?_
  refine lv_aload_n hx hb dX10_init_4 rfl (lv_at hl 0 rfl) ?_
  refine lv_sipush (v := 4000) hx hb dX10_init_5 (by decide) ?_
  refine na_char (N' := 4000) hx hb (hts _ lkX10_init_achar) hK hP hD hS hA (by decide) (by decide) (by decide) (Nat.le_of_ble_eq_true rfl) (Nat.le_of_ble_eq_true rfl) dX10_init_8 (fun q1 H hP hD hS => ?_)
  have hP := hP.sub (ws' := [(h0, .inr (10, [.null, .int 0, .null, .int 0, .int 0]))]) [0] rfl
  have hD := hD.sub (ws' := [(h0, .inr (10, [.null, .int 0, .null, .int 0, .int 0]))]) [0] (by decide) rfl
  refine W.widen (k := 1) (n := 4000) (Nat.le_of_ble_eq_true rfl) (Nat.le_of_ble_eq_true rfl) ?_
  refine va_put (D := (dC, dI)) (ci := 10) (v := .ref q1) (ty := .array .char) (C := RX10) (T := TX10) (N := 5) hx hb hts inX10_init_X10 tyX10 tyX10_ok nmX10 hown hK hP hD hS 0 rfl rfl 0 (by decide) (hts _ lkX10_init_f9) (fun _ h9 => h9) rfl (by decide +kernel) rfl rfl (Nat.le_of_ble_eq_true rfl) dX10_init_10 (fun H locs hP hD hS => ?_)
  have hP : va_P (dC, dI) vwCl [(h0, .inr (10, [.ref q1, .int 0, .null, .int 0, .int 0]))] H := hP
  have hD : va_D A [(h0, .inr (10, [.ref q1, .int 0, .null, .int 0, .int 0]))] := hD
  refine lv_aload_n hx hb dX10_init_13 rfl (lv_at hl 0 rfl) ?_
  refine lv_iconst (v := 0) hx hb dX10_init_14 (by decide) ?_
  refine va_put (D := (dC, dI)) (ci := 10) (v := .int 0) (ty := .int) (C := RX10) (T := TX10) (N := 5) hx hb hts inX10_init_X10 tyX10 tyX10_ok nmX10 hown hK hP hD hS 0 rfl rfl 1 (by decide) (hts _ lkX10_init_f15) (fun _ h9 => h9) rfl (by decide +kernel) rfl rfl (Nat.le_of_ble_eq_true rfl) dX10_init_15 (fun H locs hP hD hS => ?_)
  have hP : va_P (dC, dI) vwCl [(h0, .inr (10, [.ref q1, .int 0, .null, .int 0, .int 0]))] H := hP
  have hD : va_D A [(h0, .inr (10, [.ref q1, .int 0, .null, .int 0, .int 0]))] := hD
  refine lv_aload_n hx hb dX10_init_18 rfl (lv_at hl 0 rfl) ?_
  refine lv_sipush (v := 4000) hx hb dX10_init_19 (by decide) ?_
  refine na_char (N' := 4000) hx hb (hts _ lkX10_init_achar) hK hP hD hS hA (by decide) (by decide) (by decide) (Nat.le_of_ble_eq_true rfl) (Nat.le_of_ble_eq_true rfl) dX10_init_22 (fun q2 H hP hD hS => ?_)
  have hP := hP.sub (ws' := [(h0, .inr (10, [.ref q1, .int 0, .null, .int 0, .int 0]))]) [0] rfl
  have hD := hD.sub (ws' := [(h0, .inr (10, [.ref q1, .int 0, .null, .int 0, .int 0]))]) [0] (by decide) rfl
  refine W.widen (k := 2) (n := 8000) (Nat.le_of_ble_eq_true rfl) (Nat.le_of_ble_eq_true rfl) ?_
  refine va_put (D := (dC, dI)) (ci := 10) (v := .ref q2) (ty := .array .char) (C := RX10) (T := TX10) (N := 5) hx hb hts inX10_init_X10 tyX10 tyX10_ok nmX10 hown hK hP hD hS 0 rfl rfl 2 (by decide) (hts _ lkX10_init_f19) (fun _ h9 => h9) rfl (by decide +kernel) rfl rfl (Nat.le_of_ble_eq_true rfl) dX10_init_24 (fun H locs hP hD hS => ?_)
  have hP : va_P (dC, dI) vwCl [(h0, .inr (10, [.ref q1, .int 0, .ref q2, .int 0, .int 0]))] H := hP
  have hD : va_D A [(h0, .inr (10, [.ref q1, .int 0, .ref q2, .int 0, .int 0]))] := hD
  refine lv_aload_n hx hb dX10_init_27 rfl (lv_at hl 0 rfl) ?_
  refine lv_iconst (v := 0) hx hb dX10_init_28 (by decide) ?_
  refine va_put (D := (dC, dI)) (ci := 10) (v := .int 0) (ty := .int) (C := RX10) (T := TX10) (N := 5) hx hb hts inX10_init_X10 tyX10 tyX10_ok nmX10 hown hK hP hD hS 0 rfl rfl 3 (by decide) (hts _ lkX10_init_f22) (fun _ h9 => h9) rfl (by decide +kernel) rfl rfl (Nat.le_of_ble_eq_true rfl) dX10_init_29 (fun H locs hP hD hS => ?_)
  have hP : va_P (dC, dI) vwCl [(h0, .inr (10, [.ref q1, .int 0, .ref q2, .int 0, .int 0]))] H := hP
  have hD : va_D A [(h0, .inr (10, [.ref q1, .int 0, .ref q2, .int 0, .int 0]))] := hD
  refine lv_aload_n hx hb dX10_init_32 rfl (lv_at hl 0 rfl) ?_
  refine lv_bipush (v := 32) hx hb dX10_init_33 (by decide) ?_
  refine va_put (D := (dC, dI)) (ci := 10) (v := .int 32) (ty := .char) (C := RX10) (T := TX10) (N := 5) hx hb hts inX10_init_X10 tyX10 tyX10_ok nmX10 hown hK hP hD hS 0 rfl rfl 4 (by decide) (hts _ lkX10_init_f25) (fun _ h9 => h9) rfl (by decide +kernel) rfl rfl (Nat.le_of_ble_eq_true rfl) dX10_init_35 (fun H locs hP hD hS => ?_)
  have hP : va_P (dC, dI) vwCl [(h0, .inr (10, [.ref q1, .int 0, .ref q2, .int 0, .int 32]))] H := hP
  have hD : va_D A [(h0, .inr (10, [.ref q1, .int 0, .ref q2, .int 0, .int 32]))] := hD
  refine W.widen (k := 2) (n := 8000) (Nat.le_of_ble_eq_true rfl) (Nat.le_of_ble_eq_true rfl) ?_
  have hP9 := hP.sub (ws' := [(h0, .inr (10, [.ref q1, .int 0, .ref q2, .int 0, .int 32]))]) [0] rfl
  have hD9 := hD.sub (ws' := [(h0, .inr (10, [.ref q1, .int 0, .ref q2, .int 0, .int 32]))]) [0] (by decide) rfl
  exact W.vret hx hb hr (fun t ht hW => ⟨⟨(), rfl, trivial, q1, q2, by rw [ht]; exact hP9, va_K.moved hW.alike hK, hD9⟩, hS.F ht⟩) hS.2.2 dX10_init_38

set_option maxHeartbeats 4000000 in
set_option maxRecDepth 100000 in
/-- Frames() -/
theorem c_Frames (l : Launch) (dC : Nat → ClassId) (dI : Nat → Nat → Nat) (cB cC cI cJ cZ : ClassId) (h0 : Nat)  (sz : Nat) : Met l yX2_init wsX2_init { frames := 1, cells := 6, slots := 606, locals := 20 } (va_Pc [.ref h0] (fun U => U.heap.size = sz ∧ va_P (dC, dI) vwCl [(h0, .inr (2, [.null, .null, .null, .null, .null, .null, .int 0]))] U.heap ∧ va_K (dC, dI) vwCl (TY cB cC cI cJ cZ) U ∧ va_D (fun _ => True) [(h0, .inr (2, [.null, .null, .null, .null, .null, .null, .int 0]))])) (va_Qv (fun (_ : Unit) => True) (fun (_ : Unit) (t : State) => ∃ (q1 : Nat), ∃ (q2 : Nat), ∃ (q3 : Nat), ∃ (q4 : Nat), ∃ (q5 : Nat), ∃ (q6 : Nat), va_P (dC, dI) vwCl [(h0, .inr (2, [.ref q1, .ref q2, .ref q3, .ref q4, .ref q5, .ref q6, .int 0]))] t.heap ∧ va_K (dC, dI) vwCl (TY cB cC cI cJ cZ) t ∧ va_D (va_A [(h0, .inr (2, [.null, .null, .null, .null, .null, .null, .int 0]))] sz) [(h0, .inr (2, [.ref q1, .ref q2, .ref q3, .ref q4, .ref q5, .ref q6, .int 0]))]) (va_A [(h0, .inr (2, [.null, .null, .null, .null, .null, .null, .int 0]))] sz)) 6 606 (va_A [(h0, .inr (2, [.null, .null, .null, .null, .null, .null, .int 0]))] sz) := by
  refine Met.ofW (cc := cX2_init) (maxL := 1) (ret := none) (by decide) rfl ?_
  intro p e s m args below meth c s₁ B hml hv
  obtain ⟨rfl, hsz, hP, hK, hD0⟩ := hv
  have hx := B.exec
  have hb := B.bytes
  have hr := B.returns
  have hts := atoms_spec (ws := wsX2_init) B.pre
  have hown : s.vm.findClass RX2 = some m.cls := findClass_of_methodNamed B.named
  have hlocks := B.notSynchronized
  have hin : meth.name = "<init>" := (name_of_methodNamed B.named B.method).1
  subst hsz
  have hD := hD0.self (sz := s.heap.size)
  generalize hAe : va_A [(h0, .inr (2, [.null, .null, .null, .null, .null, .null, .int 0]))] s.heap.size = A at hD ⊢
  have hA : ∀ q : Nat, s.heap.size ≤ q → A q := fun q h => by rw [← hAe]; exact Or.inr h
  have hS : va_S A s.heap s.heap [] := va_S.rf
  have hP : va_P (dC, dI) vwCl [(h0, .inr (2, [.null, .null, .null, .null, .null, .null, .int 0]))] s.heap := hP
  have hl := lv_entry ([.ref h0]) (n := 1) (Nat.le_of_ble_eq_true rfl)
  rw [lg_entry_eq]
  generalize (lg_sl ([.ref h0]) ++ List.replicate (1 - (lg_sl ([.ref h0])).length) Slot.unset).toArray = ls at hl ⊢
  have hl : lv_has ls 1 [(0, .ref h0)] := hl
  refine lv_aload_n hx hb dX2_init_0 rfl (lv_at hl 0 rfl) ?_
  refine W.objInit hx hb hown (hts _ lkX2_init_o3) (hts _ lkX2_init_oi) (hts _ lkX2_init_oc) rfl (by rw [hml]; exact hl.1) rfl dX2_init_1 (Nat.le_of_ble_eq_true rfl) (Nat.le_of_ble_eq_true rfl) ?_
  refine W.eq (g2 := F0 m 4 ls []) rfl ?_
  refine lv_aload_n hx hb dX2_init_4 rfl (lv_at hl 0 rfl) ?_
  refine lv_bipush (v := 101) hx hb dX2_init_5 (by decide) ?_
  refine na_int (N' := 101) hx hb (hts _ lkX2_init_aint) hK hP hD hS hA (by decide) (by decide) (by decide) (Nat.le_of_ble_eq_true rfl) (Nat.le_of_ble_eq_true rfl) dX2_init_7 (fun q1 H hP hD hS => ?_)
  have hP := hP.sub (ws' := [(h0, .inr (2, [.null, .null, .null, .null, .null, .null, .int 0]))]) [0] rfl
  have hD := hD.sub (ws' := [(h0, .inr (2, [.null, .null, .null, .null, .null, .null, .int 0]))]) [0] (by decide) rfl
  refine W.widen (k := 1) (n := 101) (Nat.le_of_ble_eq_true rfl) (Nat.le_of_ble_eq_true rfl) ?_
  refine va_putF (D := (dC, dI)) (ci := 2) (v := .ref q1) (ty := .array .int) (C := RX2) (T := TX2) (N := 7) hx hb hts inX2_init_X2 tyX2 tyX2_ok nmX2 hown hK hP hD hS 0 rfl rfl 0 (by decide) (hts _ lkX2_init_f11) (fun _ h9 => h9) rfl hin rfl (by decide +kernel) rfl rfl (Nat.le_of_ble_eq_true rfl) dX2_init_9 (fun H locs hP hD hS => ?_)
  have hP : va_P (dC, dI) vwCl [(h0, .inr (2, [.ref q1, .null, .null, .null, .null, .null, .int 0]))] H := hP
  have hD : va_D A [(h0, .inr (2, [.ref q1, .null, .null, .null, .null, .null, .int 0]))] := hD
  refine lv_aload_n hx hb dX2_init_12 rfl (lv_at hl 0 rfl) ?_
  refine lv_bipush (v := 101) hx hb dX2_init_13 (by decide) ?_
  refine na_int (N' := 101) hx hb (hts _ lkX2_init_aint) hK hP hD hS hA (by decide) (by decide) (by decide) (Nat.le_of_ble_eq_true rfl) (Nat.le_of_ble_eq_true rfl) dX2_init_15 (fun q2 H hP hD hS => ?_)
  have hP := hP.sub (ws' := [(h0, .inr (2, [.ref q1, .null, .null, .null, .null, .null, .int 0]))]) [0] rfl
  have hD := hD.sub (ws' := [(h0, .inr (2, [.ref q1, .null, .null, .null, .null, .null, .int 0]))]) [0] (by decide) rfl
  refine W.widen (k := 2) (n := 202) (Nat.le_of_ble_eq_true rfl) (Nat.le_of_ble_eq_true rfl) ?_
  refine va_putF (D := (dC, dI)) (ci := 2) (v := .ref q2) (ty := .array .int) (C := RX2) (T := TX2) (N := 7) hx hb hts inX2_init_X2 tyX2 tyX2_ok nmX2 hown hK hP hD hS 0 rfl rfl 1 (by decide) (hts _ lkX2_init_f15) (fun _ h9 => h9) rfl hin rfl (by decide +kernel) rfl rfl (Nat.le_of_ble_eq_true rfl) dX2_init_17 (fun H locs hP hD hS => ?_)
  have hP : va_P (dC, dI) vwCl [(h0, .inr (2, [.ref q1, .ref q2, .null, .null, .null, .null, .int 0]))] H := hP
  have hD : va_D A [(h0, .inr (2, [.ref q1, .ref q2, .null, .null, .null, .null, .int 0]))] := hD
  refine lv_aload_n hx hb dX2_init_20 rfl (lv_at hl 0 rfl) ?_
  refine lv_bipush (v := 101) hx hb dX2_init_21 (by decide) ?_
  refine na_boolean (N' := 101) hx hb (hts _ lkX2_init_aboolean) hK hP hD hS hA (by decide) (by decide) (by decide) (Nat.le_of_ble_eq_true rfl) (Nat.le_of_ble_eq_true rfl) dX2_init_23 (fun q3 H hP hD hS => ?_)
  have hP := hP.sub (ws' := [(h0, .inr (2, [.ref q1, .ref q2, .null, .null, .null, .null, .int 0]))]) [0] rfl
  have hD := hD.sub (ws' := [(h0, .inr (2, [.ref q1, .ref q2, .null, .null, .null, .null, .int 0]))]) [0] (by decide) rfl
  refine W.widen (k := 3) (n := 303) (Nat.le_of_ble_eq_true rfl) (Nat.le_of_ble_eq_true rfl) ?_
  refine va_putF (D := (dC, dI)) (ci := 2) (v := .ref q3) (ty := .array .boolean) (C := RX2) (T := TX2) (N := 7) hx hb hts inX2_init_X2 tyX2 tyX2_ok nmX2 hown hK hP hD hS 0 rfl rfl 2 (by decide) (hts _ lkX2_init_f18) (fun _ h9 => h9) rfl hin rfl (by decide +kernel) rfl rfl (Nat.le_of_ble_eq_true rfl) dX2_init_25 (fun H locs hP hD hS => ?_)
  have hP : va_P (dC, dI) vwCl [(h0, .inr (2, [.ref q1, .ref q2, .ref q3, .null, .null, .null, .int 0]))] H := hP
  have hD : va_D A [(h0, .inr (2, [.ref q1, .ref q2, .ref q3, .null, .null, .null, .int 0]))] := hD
  refine lv_aload_n hx hb dX2_init_28 rfl (lv_at hl 0 rfl) ?_
  refine lv_bipush (v := 101) hx hb dX2_init_29 (by decide) ?_
  refine na_int (N' := 101) hx hb (hts _ lkX2_init_aint) hK hP hD hS hA (by decide) (by decide) (by decide) (Nat.le_of_ble_eq_true rfl) (Nat.le_of_ble_eq_true rfl) dX2_init_31 (fun q4 H hP hD hS => ?_)
  have hP := hP.sub (ws' := [(h0, .inr (2, [.ref q1, .ref q2, .ref q3, .null, .null, .null, .int 0]))]) [0] rfl
  have hD := hD.sub (ws' := [(h0, .inr (2, [.ref q1, .ref q2, .ref q3, .null, .null, .null, .int 0]))]) [0] (by decide) rfl
  refine W.widen (k := 4) (n := 404) (Nat.le_of_ble_eq_true rfl) (Nat.le_of_ble_eq_true rfl) ?_
  refine va_putF (D := (dC, dI)) (ci := 2) (v := .ref q4) (ty := .array .int) (C := RX2) (T := TX2) (N := 7) hx hb hts inX2_init_X2 tyX2 tyX2_ok nmX2 hown hK hP hD hS 0 rfl rfl 3 (by decide) (hts _ lkX2_init_f22) (fun _ h9 => h9) rfl hin rfl (by decide +kernel) rfl rfl (Nat.le_of_ble_eq_true rfl) dX2_init_33 (fun H locs hP hD hS => ?_)
  have hP : va_P (dC, dI) vwCl [(h0, .inr (2, [.ref q1, .ref q2, .ref q3, .ref q4, .null, .null, .int 0]))] H := hP
  have hD : va_D A [(h0, .inr (2, [.ref q1, .ref q2, .ref q3, .ref q4, .null, .null, .int 0]))] := hD
  refine lv_aload_n hx hb dX2_init_36 rfl (lv_at hl 0 rfl) ?_
  refine lv_bipush (v := 101) hx hb dX2_init_37 (by decide) ?_
  refine na_int (N' := 101) hx hb (hts _ lkX2_init_aint) hK hP hD hS hA (by decide) (by decide) (by decide) (Nat.le_of_ble_eq_true rfl) (Nat.le_of_ble_eq_true rfl) dX2_init_39 (fun q5 H hP hD hS => ?_)
  have hP := hP.sub (ws' := [(h0, .inr (2, [.ref q1, .ref q2, .ref q3, .ref q4, .null, .null, .int 0]))]) [0] rfl
  have hD := hD.sub (ws' := [(h0, .inr (2, [.ref q1, .ref q2, .ref q3, .ref q4, .null, .null, .int 0]))]) [0] (by decide) rfl
  refine W.widen (k := 5) (n := 505) (Nat.le_of_ble_eq_true rfl) (Nat.le_of_ble_eq_true rfl) ?_
  refine va_putF (D := (dC, dI)) (ci := 2) (v := .ref q5) (ty := .array .int) (C := RX2) (T := TX2) (N := 7) hx hb hts inX2_init_X2 tyX2 tyX2_ok nmX2 hown hK hP hD hS 0 rfl rfl 4 (by decide) (hts _ lkX2_init_f25) (fun _ h9 => h9) rfl hin rfl (by decide +kernel) rfl rfl (Nat.le_of_ble_eq_true rfl) dX2_init_41 (fun H locs hP hD hS => ?_)
  have hP : va_P (dC, dI) vwCl [(h0, .inr (2, [.ref q1, .ref q2, .ref q3, .ref q4, .ref q5, .null, .int 0]))] H := hP
  have hD : va_D A [(h0, .inr (2, [.ref q1, .ref q2, .ref q3, .ref q4, .ref q5, .null, .int 0]))] := hD
  refine lv_aload_n hx hb dX2_init_44 rfl (lv_at hl 0 rfl) ?_
  refine lv_bipush (v := 101) hx hb dX2_init_45 (by decide) ?_
  refine na_int (N' := 101) hx hb (hts _ lkX2_init_aint) hK hP hD hS hA (by decide) (by decide) (by decide) (Nat.le_of_ble_eq_true rfl) (Nat.le_of_ble_eq_true rfl) dX2_init_47 (fun q6 H hP hD hS => ?_)
  have hP := hP.sub (ws' := [(h0, .inr (2, [.ref q1, .ref q2, .ref q3, .ref q4, .ref q5, .null, .int 0]))]) [0] rfl
  have hD := hD.sub (ws' := [(h0, .inr (2, [.ref q1, .ref q2, .ref q3, .ref q4, .ref q5, .null, .int 0]))]) [0] (by decide) rfl
  refine W.widen (k := 6) (n := 606) (Nat.le_of_ble_eq_true rfl) (Nat.le_of_ble_eq_true rfl) ?_
  refine va_putF (D := (dC, dI)) (ci := 2) (v := .ref q6) (ty := .array .int) (C := RX2) (T := TX2) (N := 7) hx hb hts inX2_init_X2 tyX2 tyX2_ok nmX2 hown hK hP hD hS 0 rfl rfl 5 (by decide) (hts _ lkX2_init_f28) (fun _ h9 => h9) rfl hin rfl (by decide +kernel) rfl rfl (Nat.le_of_ble_eq_true rfl) dX2_init_49 (fun H locs hP hD hS => ?_)
  have hP : va_P (dC, dI) vwCl [(h0, .inr (2, [.ref q1, .ref q2, .ref q3, .ref q4, .ref q5, .ref q6, .int 0]))] H := hP
  have hD : va_D A [(h0, .inr (2, [.ref q1, .ref q2, .ref q3, .ref q4, .ref q5, .ref q6, .int 0]))] := hD
  refine lv_aload_n hx hb dX2_init_52 rfl (lv_at hl 0 rfl) ?_
  refine lv_iconst (v := 0) hx hb dX2_init_53 (by decide) ?_
  refine va_put (D := (dC, dI)) (ci := 2) (v := .int 0) (ty := .int) (C := RX2) (T := TX2) (N := 7) hx hb hts inX2_init_X2 tyX2 tyX2_ok nmX2 hown hK hP hD hS 0 rfl rfl 6 (by decide) (hts _ lkX2_init_f31) (fun _ h9 => h9) rfl (by decide +kernel) rfl rfl (Nat.le_of_ble_eq_true rfl) dX2_init_54 (fun H locs hP hD hS => ?_)
  have hP : va_P (dC, dI) vwCl [(h0, .inr (2, [.ref q1, .ref q2, .ref q3, .ref q4, .ref q5, .ref q6, .int 0]))] H := hP
  have hD : va_D A [(h0, .inr (2, [.ref q1, .ref q2, .ref q3, .ref q4, .ref q5, .ref q6, .int 0]))] := hD
  refine W.widen (k := 6) (n := 606) (Nat.le_of_ble_eq_true rfl) (Nat.le_of_ble_eq_true rfl) ?_
  have hP9 := hP.sub (ws' := [(h0, .inr (2, [.ref q1, .ref q2, .ref q3, .ref q4, .ref q5, .ref q6, .int 0]))]) [0] rfl
  have hD9 := hD.sub (ws' := [(h0, .inr (2, [.ref q1, .ref q2, .ref q3, .ref q4, .ref q5, .ref q6, .int 0]))]) [0] (by decide) rfl
  exact W.vret hx hb hr (fun t ht hW => ⟨⟨(), rfl, trivial, q1, q2, q3, q4, q5, q6, by rw [ht]; exact hP9, va_K.moved hW.alike hK, hD9⟩, hS.F ht⟩) hS.2.2 dX2_init_57

set_option maxHeartbeats 4000000 in
set_option maxRecDepth 100000 in
/-- Matches() -/
theorem c_Matches (l : Launch) (dC : Nat → ClassId) (dI : Nat → Nat → Nat) (cB cC cI cJ cZ : ClassId) (h0 : Nat)  (sz : Nat) : Met l yX5_init wsX5_init { frames := 1, cells := 4, slots := 12000, locals := 20 } (va_Pc [.ref h0] (fun U => U.heap.size = sz ∧ va_P (dC, dI) vwCl [(h0, .inr (5, [.null, .null, .null, .null, .int 0, .int 0]))] U.heap ∧ va_K (dC, dI) vwCl (TY cB cC cI cJ cZ) U ∧ va_D (fun _ => True) [(h0, .inr (5, [.null, .null, .null, .null, .int 0, .int 0]))])) (va_Qv (fun (_ : Unit) => True) (fun (_ : Unit) (t : State) => ∃ (q1 : Nat), ∃ (q2 : Nat), ∃ (q3 : Nat), ∃ (q4 : Nat), va_P (dC, dI) vwCl [(h0, .inr (5, [.ref q1, .ref q2, .ref q3, .ref q4, .int 0, .int 0]))] t.heap ∧ va_K (dC, dI) vwCl (TY cB cC cI cJ cZ) t ∧ va_D (va_A [(h0, .inr (5, [.null, .null, .null, .null, .int 0, .int 0]))] sz) [(h0, .inr (5, [.ref q1, .ref q2, .ref q3, .ref q4, .int 0, .int 0]))]) (va_A [(h0, .inr (5, [.null, .null, .null, .null, .int 0, .int 0]))] sz)) 4 12000 (va_A [(h0, .inr (5, [.null, .null, .null, .null, .int 0, .int 0]))] sz) := by
  refine Met.ofW (cc := cX5_init) (maxL := 1) (ret := none) (by decide) rfl ?_
  intro p e s m args below meth c s₁ B hml hv
  obtain ⟨rfl, hsz, hP, hK, hD0⟩ := hv
  have hx := B.exec
  have hb := B.bytes
  have hr := B.returns
  have hts := atoms_spec (ws := wsX5_init) B.pre
  have hown : s.vm.findClass RX5 = some m.cls := findClass_of_methodNamed B.named
  have hlocks := B.notSynchronized
  have hin : meth.name = "<init>" := (name_of_methodNamed B.named B.method).1
  subst hsz
  have hD := hD0.self (sz := s.heap.size)
  generalize hAe : va_A [(h0, .inr (5, [.null, .null, .null, .null, .int 0, .int 0]))] s.heap.size = A at hD ⊢
  have hA : ∀ q : Nat, s.heap.size ≤ q → A q := fun q h => by rw [← hAe]; exact Or.inr h
  have hS : va_S A s.heap s.heap [] := va_S.rf
  have hP : va_P (dC, dI) vwCl [(h0, .inr (5, [.null, .null, .null, .null, .int 0, .int 0]))] s.heap := hP
  have hl := lv_entry ([.ref h0]) (n := 1) (Nat.le_of_ble_eq_true rfl)
  rw [lg_entry_eq]
  generalize (lg_sl ([.ref h0]) ++ List.replicate (1 - (lg_sl ([.ref h0])).length) Slot.unset).toArray = ls at hl ⊢
  have hl : lv_has ls 1 [(0, .ref h0)] := hl
  refine lv_aload_n hx hb dX5_init_0 rfl (lv_at hl 0 rfl) ?_
  refine W.objInit hx hb hown (hts _ lkX5_init_o3) (hts _ lkX5_init_oi) (hts _ lkX5_init_oc) rfl (by rw [hml]; exact hl.1) rfl dX5_init_1 (Nat.le_of_ble_eq_true rfl) (Nat.le_of_ble_eq_true rfl) ?_
  refine W.eq (g2 := F0 m 4 ls []) rfl ?_
  refine lv_aload_n hx hb dX5_init_4 rfl (lv_at hl 0 rfl) ?_
  refine lv_sipush (v := 3000) hx hb dX5_init_5 (by decide) ?_
  refine na_int (N' := 3000) hx hb (hts _ lkX5_init_aint) hK hP hD hS hA (by decide) (by decide) (by decide) (Nat.le_of_ble_eq_true rfl) (Nat.le_of_ble_eq_true rfl) dX5_init_8 (fun q1 H hP hD hS => ?_)
  have hP := hP.sub (ws' := [(h0, .inr (5, [.null, .null, .null, .null, .int 0, .int 0]))]) [0] rfl
  have hD := hD.sub (ws' := [(h0, .inr (5, [.null, .null, .null, .null, .int 0, .int 0]))]) [0] (by decide) rfl
  refine W.widen (k := 1) (n := 3000) (Nat.le_of_ble_eq_true rfl) (Nat.le_of_ble_eq_true rfl) ?_
  refine va_putF (D := (dC, dI)) (ci := 5) (v := .ref q1) (ty := .array .int) (C := RX5) (T := TX5) (N := 6) hx hb hts inX5_init_X5 tyX5 tyX5_ok nmX5 hown hK hP hD hS 0 rfl rfl 0 (by decide) (hts _ lkX5_init_f9) (fun _ h9 => h9) rfl hin rfl (by decide +kernel) rfl rfl (Nat.le_of_ble_eq_true rfl) dX5_init_10 (fun H locs hP hD hS => ?_)
  have hP : va_P (dC, dI) vwCl [(h0, .inr (5, [.ref q1, .null, .null, .null, .int 0, .int 0]))] H := hP
  have hD : va_D A [(h0, .inr (5, [.ref q1, .null, .null, .null, .int 0, .int 0]))] := hD
  refine lv_aload_n hx hb dX5_init_13 rfl (lv_at hl 0 rfl) ?_
  refine lv_sipush (v := 3000) hx hb dX5_init_14 (by decide) ?_
  refine na_int (N' := 3000) hx hb (hts _ lkX5_init_aint) hK hP hD hS hA (by decide) (by decide) (by decide) (Nat.le_of_ble_eq_true rfl) (Nat.le_of_ble_eq_true rfl) dX5_init_17 (fun q2 H hP hD hS => ?_)
  have hP := hP.sub (ws' := [(h0, .inr (5, [.ref q1, .null, .null, .null, .int 0, .int 0]))]) [0] rfl
  have hD := hD.sub (ws' := [(h0, .inr (5, [.ref q1, .null, .null, .null, .int 0, .int 0]))]) [0] (by decide) rfl
  refine W.widen (k := 2) (n := 6000) (Nat.le_of_ble_eq_true rfl) (Nat.le_of_ble_eq_true rfl) ?_
  refine va_putF (D := (dC, dI)) (ci := 5) (v := .ref q2) (ty := .array .int) (C := RX5) (T := TX5) (N := 6) hx hb hts inX5_init_X5 tyX5 tyX5_ok nmX5 hown hK hP hD hS 0 rfl rfl 1 (by decide) (hts _ lkX5_init_f15) (fun _ h9 => h9) rfl hin rfl (by decide +kernel) rfl rfl (Nat.le_of_ble_eq_true rfl) dX5_init_19 (fun H locs hP hD hS => ?_)
  have hP : va_P (dC, dI) vwCl [(h0, .inr (5, [.ref q1, .ref q2, .null, .null, .int 0, .int 0]))] H := hP
  have hD : va_D A [(h0, .inr (5, [.ref q1, .ref q2, .null, .null, .int 0, .int 0]))] := hD
  refine lv_aload_n hx hb dX5_init_22 rfl (lv_at hl 0 rfl) ?_
  refine lv_sipush (v := 3000) hx hb dX5_init_23 (by decide) ?_
  refine na_int (N' := 3000) hx hb (hts _ lkX5_init_aint) hK hP hD hS hA (by decide) (by decide) (by decide) (Nat.le_of_ble_eq_true rfl) (Nat.le_of_ble_eq_true rfl) dX5_init_26 (fun q3 H hP hD hS => ?_)
  have hP := hP.sub (ws' := [(h0, .inr (5, [.ref q1, .ref q2, .null, .null, .int 0, .int 0]))]) [0] rfl
  have hD := hD.sub (ws' := [(h0, .inr (5, [.ref q1, .ref q2, .null, .null, .int 0, .int 0]))]) [0] (by decide) rfl
  refine W.widen (k := 3) (n := 9000) (Nat.le_of_ble_eq_true rfl) (Nat.le_of_ble_eq_true rfl) ?_
  refine va_putF (D := (dC, dI)) (ci := 5) (v := .ref q3) (ty := .array .int) (C := RX5) (T := TX5) (N := 6) hx hb hts inX5_init_X5 tyX5 tyX5_ok nmX5 hown hK hP hD hS 0 rfl rfl 2 (by decide) (hts _ lkX5_init_f18) (fun _ h9 => h9) rfl hin rfl (by decide +kernel) rfl rfl (Nat.le_of_ble_eq_true rfl) dX5_init_28 (fun H locs hP hD hS => ?_)
  have hP : va_P (dC, dI) vwCl [(h0, .inr (5, [.ref q1, .ref q2, .ref q3, .null, .int 0, .int 0]))] H := hP
  have hD : va_D A [(h0, .inr (5, [.ref q1, .ref q2, .ref q3, .null, .int 0, .int 0]))] := hD
  refine lv_aload_n hx hb dX5_init_31 rfl (lv_at hl 0 rfl) ?_
  refine lv_sipush (v := 3000) hx hb dX5_init_32 (by decide) ?_
  refine na_int (N' := 3000) hx hb (hts _ lkX5_init_aint) hK hP hD hS hA (by decide) (by decide) (by decide) (Nat.le_of_ble_eq_true rfl) (Nat.le_of_ble_eq_true rfl) dX5_init_35 (fun q4 H hP hD hS => ?_)
  have hP := hP.sub (ws' := [(h0, .inr (5, [.ref q1, .ref q2, .ref q3, .null, .int 0, .int 0]))]) [0] rfl
  have hD := hD.sub (ws' := [(h0, .inr (5, [.ref q1, .ref q2, .ref q3, .null, .int 0, .int 0]))]) [0] (by decide) rfl
  refine W.widen (k := 4) (n := 12000) (Nat.le_of_ble_eq_true rfl) (Nat.le_of_ble_eq_true rfl) ?_
  refine va_putF (D := (dC, dI)) (ci := 5) (v := .ref q4) (ty := .array .int) (C := RX5) (T := TX5) (N := 6) hx hb hts inX5_init_X5 tyX5 tyX5_ok nmX5 hown hK hP hD hS 0 rfl rfl 3 (by decide) (hts _ lkX5_init_f21) (fun _ h9 => h9) rfl hin rfl (by decide +kernel) rfl rfl (Nat.le_of_ble_eq_true rfl) dX5_init_37 (fun H locs hP hD hS => ?_)
  have hP : va_P (dC, dI) vwCl [(h0, .inr (5, [.ref q1, .ref q2, .ref q3, .ref q4, .int 0, .int 0]))] H := hP
  have hD : va_D A [(h0, .inr (5, [.ref q1, .ref q2, .ref q3, .ref q4, .int 0, .int 0]))] := hD
  refine lv_aload_n hx hb dX5_init_40 rfl (lv_at hl 0 rfl) ?_
  refine lv_iconst (v := 0) hx hb dX5_init_41 (by decide) ?_
  refine va_put (D := (dC, dI)) (ci := 5) (v := .int 0) (ty := .int) (C := RX5) (T := TX5) (N := 6) hx hb hts inX5_init_X5 tyX5 tyX5_ok nmX5 hown hK hP hD hS 0 rfl rfl 4 (by decide) (hts _ lkX5_init_f24) (fun _ h9 => h9) rfl (by decide +kernel) rfl rfl (Nat.le_of_ble_eq_true rfl) dX5_init_42 (fun H locs hP hD hS => ?_)
  have hP : va_P (dC, dI) vwCl [(h0, .inr (5, [.ref q1, .ref q2, .ref q3, .ref q4, .int 0, .int 0]))] H := hP
  have hD : va_D A [(h0, .inr (5, [.ref q1, .ref q2, .ref q3, .ref q4, .int 0, .int 0]))] := hD
  refine lv_aload_n hx hb dX5_init_45 rfl (lv_at hl 0 rfl) ?_
  refine lv_iconst (v := 0) hx hb dX5_init_46 (by decide) ?_
  refine va_put (D := (dC, dI)) (ci := 5) (v := .int 0) (ty := .int) (C := RX5) (T := TX5) (N := 6) hx hb hts inX5_init_X5 tyX5 tyX5_ok nmX5 hown hK hP hD hS 0 rfl rfl 5 (by decide) (hts _ lkX5_init_f28) (fun _ h9 => h9) rfl (by decide +kernel) rfl rfl (Nat.le_of_ble_eq_true rfl) dX5_init_47 (fun H locs hP hD hS => ?_)
  have hP : va_P (dC, dI) vwCl [(h0, .inr (5, [.ref q1, .ref q2, .ref q3, .ref q4, .int 0, .int 0]))] H := hP
  have hD : va_D A [(h0, .inr (5, [.ref q1, .ref q2, .ref q3, .ref q4, .int 0, .int 0]))] := hD
  refine W.widen (k := 4) (n := 12000) (Nat.le_of_ble_eq_true rfl) (Nat.le_of_ble_eq_true rfl) ?_
  have hP9 := hP.sub (ws' := [(h0, .inr (5, [.ref q1, .ref q2, .ref q3, .ref q4, .int 0, .int 0]))]) [0] rfl
  have hD9 := hD.sub (ws' := [(h0, .inr (5, [.ref q1, .ref q2, .ref q3, .ref q4, .int 0, .int 0]))]) [0] (by decide) rfl
  exact W.vret hx hb hr (fun t ht hW => ⟨⟨(), rfl, trivial, q1, q2, q3, q4, by rw [ht]; exact hP9, va_K.moved hW.alike hK, hD9⟩, hS.F ht⟩) hS.2.2 dX5_init_50

set_option maxHeartbeats 4000000 in
set_option maxRecDepth 100000 in
/-- Scopes(names) -/
theorem c_Scopes (l : Launch) (dC : Nat → ClassId) (dI : Nat → Nat → Nat) (cB cC cI cJ cZ : ClassId) (h0 h1 : Nat)  (sz : Nat) : Met l yX9_init wsX9_init { frames := 1, cells := 4, slots := 2424, locals := 20 } (va_Pc [.ref h0, .ref h1] (fun U => U.heap.size = sz ∧ va_P (dC, dI) vwCl [(h0, .inr (9, [.null, .null, .null, .null, .null, .int 0]))] U.heap ∧ va_K (dC, dI) vwCl (TY cB cC cI cJ cZ) U ∧ va_D (fun _ => True) [(h0, .inr (9, [.null, .null, .null, .null, .null, .int 0]))])) (va_Qv (fun (_ : Unit) => True) (fun (_ : Unit) (t : State) => ∃ (q1 : Nat), ∃ (q2 : Nat), ∃ (q3 : Nat), ∃ (q4 : Nat), va_P (dC, dI) vwCl [(h0, .inr (9, [.ref h1, .ref q1, .ref q2, .ref q3, .ref q4, .int 0]))] t.heap ∧ va_K (dC, dI) vwCl (TY cB cC cI cJ cZ) t ∧ va_D (va_A [(h0, .inr (9, [.null, .null, .null, .null, .null, .int 0]))] sz) [(h0, .inr (9, [.ref h1, .ref q1, .ref q2, .ref q3, .ref q4, .int 0]))]) (va_A [(h0, .inr (9, [.null, .null, .null, .null, .null, .int 0]))] sz)) 4 2424 (va_A [(h0, .inr (9, [.null, .null, .null, .null, .null, .int 0]))] sz) := by
  refine Met.ofW (cc := cX9_init) (maxL := 2) (ret := none) (by decide) rfl ?_
  intro p e s m args below meth c s₁ B hml hv
  obtain ⟨rfl, hsz, hP, hK, hD0⟩ := hv
  have hx := B.exec
  have hb := B.bytes
  have hr := B.returns
  have hts := atoms_spec (ws := wsX9_init) B.pre
  have hown : s.vm.findClass RX9 = some m.cls := findClass_of_methodNamed B.named
  have hlocks := B.notSynchronized
  have hin : meth.name = "<init>" := (name_of_methodNamed B.named B.method).1
  subst hsz
  have hD := hD0.self (sz := s.heap.size)
  generalize hAe : va_A [(h0, .inr (9, [.null, .null, .null, .null, .null, .int 0]))] s.heap.size = A at hD ⊢
  have hA : ∀ q : Nat, s.heap.size ≤ q → A q := fun q h => by rw [← hAe]; exact Or.inr h
  have hS : va_S A s.heap s.heap [] := va_S.rf
  have hP : va_P (dC, dI) vwCl [(h0, .inr (9, [.null, .null, .null, .null, .null, .int 0]))] s.heap := hP
  have hl := lv_entry ([.ref h0, .ref h1]) (n := 2) (Nat.le_of_ble_eq_true rfl)
  rw [lg_entry_eq]
  generalize (lg_sl ([.ref h0, .ref h1]) ++ List.replicate (2 - (lg_sl ([.ref h0, .ref h1])).length) Slot.unset).toArray = ls at hl ⊢
  have hl : lv_has ls 2 [(0, .ref h0), (1, .ref h1)] := hl
  refine lv_aload_n hx hb dX9_init_0 rfl (lv_at hl 0 rfl) ?_
  refine W.objInit hx hb hown (hts _ lkX9_init_o3) (hts _ lkX9_init_oi) (hts _ lkX9_init_oc) rfl (by rw [hml]; exact hl.1) rfl dX9_init_1 (Nat.le_of_ble_eq_true rfl) (Nat.le_of_ble_eq_true rfl) ?_
  refine W.eq (g2 := F0 m 4 ls []) rfl ?_
  refine lv_aload_n hx hb dX9_init_4 rfl (lv_at hl 0 rfl) ?_
  refine lv_sipush (v := 606) hx hb dX9_init_5 (by decide) ?_
  refine na_int (N' := 606) hx hb (hts _ lkX9_init_aint) hK hP hD hS hA (by decide) (by decide) (by decide) (Nat.le_of_ble_eq_true rfl) (Nat.le_of_ble_eq_true rfl) dX9_init_8 (fun q1 H hP hD hS => ?_)
  have hP := hP.sub (ws' := [(h0, .inr (9, [.null, .null, .null, .null, .null, .int 0]))]) [0] rfl
  have hD := hD.sub (ws' := [(h0, .inr (9, [.null, .null, .null, .null, .null, .int 0]))]) [0] (by decide) rfl
  refine W.widen (k := 1) (n := 606) (Nat.le_of_ble_eq_true rfl) (Nat.le_of_ble_eq_true rfl) ?_
  refine va_putF (D := (dC, dI)) (ci := 9) (v := .ref q1) (ty := .array .int) (C := RX9) (T := TX9) (N := 6) hx hb hts inX9_init_X9 tyX9 tyX9_ok nmX9 hown hK hP hD hS 0 rfl rfl 1 (by decide) (hts _ lkX9_init_f11) (fun _ h9 => h9) rfl hin rfl (by decide +kernel) rfl rfl (Nat.le_of_ble_eq_true rfl) dX9_init_10 (fun H locs hP hD hS => ?_)
  have hP : va_P (dC, dI) vwCl [(h0, .inr (9, [.null, .ref q1, .null, .null, .null, .int 0]))] H := hP
  have hD : va_D A [(h0, .inr (9, [.null, .ref q1, .null, .null, .null, .int 0]))] := hD
  refine lv_aload_n hx hb dX9_init_13 rfl (lv_at hl 0 rfl) ?_
  refine lv_sipush (v := 606) hx hb dX9_init_14 (by decide) ?_
  refine na_int (N' := 606) hx hb (hts _ lkX9_init_aint) hK hP hD hS hA (by decide) (by decide) (by decide) (Nat.le_of_ble_eq_true rfl) (Nat.le_of_ble_eq_true rfl) dX9_init_17 (fun q2 H hP hD hS => ?_)
  have hP := hP.sub (ws' := [(h0, .inr (9, [.null, .ref q1, .null, .null, .null, .int 0]))]) [0] rfl
  have hD := hD.sub (ws' := [(h0, .inr (9, [.null, .ref q1, .null, .null, .null, .int 0]))]) [0] (by decide) rfl
  refine W.widen (k := 2) (n := 1212) (Nat.le_of_ble_eq_true rfl) (Nat.le_of_ble_eq_true rfl) ?_
  refine va_putF (D := (dC, dI)) (ci := 9) (v := .ref q2) (ty := .array .int) (C := RX9) (T := TX9) (N := 6) hx hb hts inX9_init_X9 tyX9 tyX9_ok nmX9 hown hK hP hD hS 0 rfl rfl 2 (by decide) (hts _ lkX9_init_f15) (fun _ h9 => h9) rfl hin rfl (by decide +kernel) rfl rfl (Nat.le_of_ble_eq_true rfl) dX9_init_19 (fun H locs hP hD hS => ?_)
  have hP : va_P (dC, dI) vwCl [(h0, .inr (9, [.null, .ref q1, .ref q2, .null, .null, .int 0]))] H := hP
  have hD : va_D A [(h0, .inr (9, [.null, .ref q1, .ref q2, .null, .null, .int 0]))] := hD
  refine lv_aload_n hx hb dX9_init_22 rfl (lv_at hl 0 rfl) ?_
  refine lv_sipush (v := 606) hx hb dX9_init_23 (by decide) ?_
  refine na_int (N' := 606) hx hb (hts _ lkX9_init_aint) hK hP hD hS hA (by decide) (by decide) (by decide) (Nat.le_of_ble_eq_true rfl) (Nat.le_of_ble_eq_true rfl) dX9_init_26 (fun q3 H hP hD hS => ?_)
  have hP := hP.sub (ws' := [(h0, .inr (9, [.null, .ref q1, .ref q2, .null, .null, .int 0]))]) [0] rfl
  have hD := hD.sub (ws' := [(h0, .inr (9, [.null, .ref q1, .ref q2, .null, .null, .int 0]))]) [0] (by decide) rfl
  refine W.widen (k := 3) (n := 1818) (Nat.le_of_ble_eq_true rfl) (Nat.le_of_ble_eq_true rfl) ?_
  refine va_putF (D := (dC, dI)) (ci := 9) (v := .ref q3) (ty := .array .int) (C := RX9) (T := TX9) (N := 6) hx hb hts inX9_init_X9 tyX9 tyX9_ok nmX9 hown hK hP hD hS 0 rfl rfl 3 (by decide) (hts _ lkX9_init_f18) (fun _ h9 => h9) rfl hin rfl (by decide +kernel) rfl rfl (Nat.le_of_ble_eq_true rfl) dX9_init_28 (fun H locs hP hD hS => ?_)
  have hP : va_P (dC, dI) vwCl [(h0, .inr (9, [.null, .ref q1, .ref q2, .ref q3, .null, .int 0]))] H := hP
  have hD : va_D A [(h0, .inr (9, [.null, .ref q1, .ref q2, .ref q3, .null, .int 0]))] := hD
  refine lv_aload_n hx hb dX9_init_31 rfl (lv_at hl 0 rfl) ?_
  refine lv_sipush (v := 606) hx hb dX9_init_32 (by decide) ?_
  refine na_int (N' := 606) hx hb (hts _ lkX9_init_aint) hK hP hD hS hA (by decide) (by decide) (by decide) (Nat.le_of_ble_eq_true rfl) (Nat.le_of_ble_eq_true rfl) dX9_init_35 (fun q4 H hP hD hS => ?_)
  have hP := hP.sub (ws' := [(h0, .inr (9, [.null, .ref q1, .ref q2, .ref q3, .null, .int 0]))]) [0] rfl
  have hD := hD.sub (ws' := [(h0, .inr (9, [.null, .ref q1, .ref q2, .ref q3, .null, .int 0]))]) [0] (by decide) rfl
  refine W.widen (k := 4) (n := 2424) (Nat.le_of_ble_eq_true rfl) (Nat.le_of_ble_eq_true rfl) ?_
  refine va_putF (D := (dC, dI)) (ci := 9) (v := .ref q4) (ty := .array .int) (C := RX9) (T := TX9) (N := 6) hx hb hts inX9_init_X9 tyX9 tyX9_ok nmX9 hown hK hP hD hS 0 rfl rfl 4 (by decide) (hts _ lkX9_init_f21) (fun _ h9 => h9) rfl hin rfl (by decide +kernel) rfl rfl (Nat.le_of_ble_eq_true rfl) dX9_init_37 (fun H locs hP hD hS => ?_)
  have hP : va_P (dC, dI) vwCl [(h0, .inr (9, [.null, .ref q1, .ref q2, .ref q3, .ref q4, .int 0]))] H := hP
  have hD : va_D A [(h0, .inr (9, [.null, .ref q1, .ref q2, .ref q3, .ref q4, .int 0]))] := hD
  refine lv_aload_n hx hb dX9_init_40 rfl (lv_at hl 0 rfl) ?_
  refine lv_iconst (v := 0) hx hb dX9_init_41 (by decide) ?_
  refine va_put (D := (dC, dI)) (ci := 9) (v := .int 0) (ty := .int) (C := RX9) (T := TX9) (N := 6) hx hb hts inX9_init_X9 tyX9 tyX9_ok nmX9 hown hK hP hD hS 0 rfl rfl 5 (by decide) (hts _ lkX9_init_f24) (fun _ h9 => h9) rfl (by decide +kernel) rfl rfl (Nat.le_of_ble_eq_true rfl) dX9_init_42 (fun H locs hP hD hS => ?_)
  have hP : va_P (dC, dI) vwCl [(h0, .inr (9, [.null, .ref q1, .ref q2, .ref q3, .ref q4, .int 0]))] H := hP
  have hD : va_D A [(h0, .inr (9, [.null, .ref q1, .ref q2, .ref q3, .ref q4, .int 0]))] := hD
  refine lv_aload_n hx hb dX9_init_45 rfl (lv_at hl 0 rfl) ?_
  refine lv_aload_n hx hb dX9_init_46 rfl (lv_at hl 1 rfl) ?_
  refine va_putF (D := (dC, dI)) (ci := 9) (v := .ref h1) (ty := .object "MacroScopes$Names") (C := RX9) (T := TX9) (N := 6) hx hb hts inX9_init_X9 tyX9 tyX9_ok nmX9 hown hK hP hD hS 0 rfl rfl 0 (by decide) (hts _ lkX9_init_f28) (fun _ h9 => h9) rfl hin rfl (by decide +kernel) rfl rfl (Nat.le_of_ble_eq_true rfl) dX9_init_47 (fun H locs hP hD hS => ?_)
  have hP : va_P (dC, dI) vwCl [(h0, .inr (9, [.ref h1, .ref q1, .ref q2, .ref q3, .ref q4, .int 0]))] H := hP
  have hD : va_D A [(h0, .inr (9, [.ref h1, .ref q1, .ref q2, .ref q3, .ref q4, .int 0]))] := hD
  refine W.widen (k := 4) (n := 2424) (Nat.le_of_ble_eq_true rfl) (Nat.le_of_ble_eq_true rfl) ?_
  have hP9 := hP.sub (ws' := [(h0, .inr (9, [.ref h1, .ref q1, .ref q2, .ref q3, .ref q4, .int 0]))]) [0] rfl
  have hD9 := hD.sub (ws' := [(h0, .inr (9, [.ref h1, .ref q1, .ref q2, .ref q3, .ref q4, .int 0]))]) [0] (by decide) rfl
  exact W.vret hx hb hr (fun t ht hW => ⟨⟨(), rfl, trivial, q1, q2, q3, q4, by rw [ht]; exact hP9, va_K.moved hW.alike hK, hD9⟩, hS.F ht⟩) hS.2.2 dX9_init_50

set_option maxHeartbeats 4000000 in
set_option maxRecDepth 100000 in
/-- RuleCheck(forms, names, scopes) -/
theorem c_RuleCheck (l : Launch) (dC : Nat → ClassId) (dI : Nat → Nat → Nat) (cB cC cI cJ cZ : ClassId) (h0 h1 h2 h3 : Nat)  (sz : Nat) : Met l yX8_init wsX8_init { frames := 1, cells := 0, slots := 0, locals := 20 } (va_Pc [.ref h0, .ref h1, .ref h2, .ref h3] (fun U => U.heap.size = sz ∧ va_P (dC, dI) vwCl [(h0, .inr (8, [.null, .null, .null, .int 0]))] U.heap ∧ va_K (dC, dI) vwCl (TY cB cC cI cJ cZ) U ∧ va_D (fun _ => True) [(h0, .inr (8, [.null, .null, .null, .int 0]))])) (va_Qv (fun (_ : Unit) => True) (fun (_ : Unit) (t : State) => va_P (dC, dI) vwCl [(h0, .inr (8, [.ref h1, .ref h2, .ref h3, .int (-1)]))] t.heap ∧ va_K (dC, dI) vwCl (TY cB cC cI cJ cZ) t ∧ va_D (va_A [(h0, .inr (8, [.null, .null, .null, .int 0]))] sz) [(h0, .inr (8, [.ref h1, .ref h2, .ref h3, .int (-1)]))]) (va_A [(h0, .inr (8, [.null, .null, .null, .int 0]))] sz)) 0 0 (va_A [(h0, .inr (8, [.null, .null, .null, .int 0]))] sz) := by
  refine Met.ofW (cc := cX8_init) (maxL := 4) (ret := none) (by decide) rfl ?_
  intro p e s m args below meth c s₁ B hml hv
  obtain ⟨rfl, hsz, hP, hK, hD0⟩ := hv
  have hx := B.exec
  have hb := B.bytes
  have hr := B.returns
  have hts := atoms_spec (ws := wsX8_init) B.pre
  have hown : s.vm.findClass RX8 = some m.cls := findClass_of_methodNamed B.named
  have hlocks := B.notSynchronized
  have hin : meth.name = "<init>" := (name_of_methodNamed B.named B.method).1
  subst hsz
  have hD := hD0.self (sz := s.heap.size)
  generalize hAe : va_A [(h0, .inr (8, [.null, .null, .null, .int 0]))] s.heap.size = A at hD ⊢
  have hA : ∀ q : Nat, s.heap.size ≤ q → A q := fun q h => by rw [← hAe]; exact Or.inr h
  have hS : va_S A s.heap s.heap [] := va_S.rf
  have hP : va_P (dC, dI) vwCl [(h0, .inr (8, [.null, .null, .null, .int 0]))] s.heap := hP
  have hl := lv_entry ([.ref h0, .ref h1, .ref h2, .ref h3]) (n := 4) (Nat.le_of_ble_eq_true rfl)
  rw [lg_entry_eq]
  generalize (lg_sl ([.ref h0, .ref h1, .ref h2, .ref h3]) ++ List.replicate (4 - (lg_sl ([.ref h0, .ref h1, .ref h2, .ref h3])).length) Slot.unset).toArray = ls at hl ⊢
  have hl : lv_has ls 4 [(0, .ref h0), (1, .ref h1), (2, .ref h2), (3, .ref h3)] := hl
  refine lv_aload_n hx hb dX8_init_0 rfl (lv_at hl 0 rfl) ?_
  refine W.objInit hx hb hown (hts _ lkX8_init_o3) (hts _ lkX8_init_oi) (hts _ lkX8_init_oc) rfl (by rw [hml]; exact hl.1) rfl dX8_init_1 (Nat.le_of_ble_eq_true rfl) (Nat.le_of_ble_eq_true rfl) ?_
  refine W.eq (g2 := F0 m 4 ls []) rfl ?_
  refine lv_aload_n hx hb dX8_init_4 rfl (lv_at hl 0 rfl) ?_
  refine lv_iconst (v := (-1)) hx hb dX8_init_5 (by decide) ?_
  refine va_put (D := (dC, dI)) (ci := 8) (v := .int (-1)) (ty := .int) (C := RX8) (T := TX8) (N := 4) hx hb hts inX8_init_X8 tyX8 tyX8_ok nmX8 hown hK hP hD hS 0 rfl rfl 3 (by decide) (hts _ lkX8_init_f9) (fun _ h9 => h9) rfl (by decide +kernel) rfl rfl (Nat.le_of_ble_eq_true rfl) dX8_init_6 (fun H locs hP hD hS => ?_)
  have hP : va_P (dC, dI) vwCl [(h0, .inr (8, [.null, .null, .null, .int (-1)]))] H := hP
  have hD : va_D A [(h0, .inr (8, [.null, .null, .null, .int (-1)]))] := hD
  refine lv_aload_n hx hb dX8_init_9 rfl (lv_at hl 0 rfl) ?_
  refine lv_aload_n hx hb dX8_init_10 rfl (lv_at hl 1 rfl) ?_
  refine va_putF (D := (dC, dI)) (ci := 8) (v := .ref h1) (ty := .object "MacroScopes$Forms") (C := RX8) (T := TX8) (N := 4) hx hb hts inX8_init_X8 tyX8 tyX8_ok nmX8 hown hK hP hD hS 0 rfl rfl 0 (by decide) (hts _ lkX8_init_f15) (fun _ h9 => h9) rfl hin rfl (by decide +kernel) rfl rfl (Nat.le_of_ble_eq_true rfl) dX8_init_11 (fun H locs hP hD hS => ?_)
  have hP : va_P (dC, dI) vwCl [(h0, .inr (8, [.ref h1, .null, .null, .int (-1)]))] H := hP
  have hD : va_D A [(h0, .inr (8, [.ref h1, .null, .null, .int (-1)]))] := hD
  refine lv_aload_n hx hb dX8_init_14 rfl (lv_at hl 0 rfl) ?_
  refine lv_aload_n hx hb dX8_init_15 rfl (lv_at hl 2 rfl) ?_
  refine va_putF (D := (dC, dI)) (ci := 8) (v := .ref h2) (ty := .object "MacroScopes$Names") (C := RX8) (T := TX8) (N := 4) hx hb hts inX8_init_X8 tyX8 tyX8_ok nmX8 hown hK hP hD hS 0 rfl rfl 1 (by decide) (hts _ lkX8_init_f19) (fun _ h9 => h9) rfl hin rfl (by decide +kernel) rfl rfl (Nat.le_of_ble_eq_true rfl) dX8_init_16 (fun H locs hP hD hS => ?_)
  have hP : va_P (dC, dI) vwCl [(h0, .inr (8, [.ref h1, .ref h2, .null, .int (-1)]))] H := hP
  have hD : va_D A [(h0, .inr (8, [.ref h1, .ref h2, .null, .int (-1)]))] := hD
  refine lv_aload_n hx hb dX8_init_19 rfl (lv_at hl 0 rfl) ?_
  refine lv_aload_n hx hb dX8_init_20 rfl (lv_at hl 3 rfl) ?_
  refine va_putF (D := (dC, dI)) (ci := 8) (v := .ref h3) (ty := .object "MacroScopes$Scopes") (C := RX8) (T := TX8) (N := 4) hx hb hts inX8_init_X8 tyX8 tyX8_ok nmX8 hown hK hP hD hS 0 rfl rfl 2 (by decide) (hts _ lkX8_init_f23) (fun _ h9 => h9) rfl hin rfl (by decide +kernel) rfl rfl (Nat.le_of_ble_eq_true rfl) dX8_init_21 (fun H locs hP hD hS => ?_)
  have hP : va_P (dC, dI) vwCl [(h0, .inr (8, [.ref h1, .ref h2, .ref h3, .int (-1)]))] H := hP
  have hD : va_D A [(h0, .inr (8, [.ref h1, .ref h2, .ref h3, .int (-1)]))] := hD
  refine W.widen (k := 0) (n := 0) (Nat.le_of_ble_eq_true rfl) (Nat.le_of_ble_eq_true rfl) ?_
  have hP9 := hP.sub (ws' := [(h0, .inr (8, [.ref h1, .ref h2, .ref h3, .int (-1)]))]) [0] rfl
  have hD9 := hD.sub (ws' := [(h0, .inr (8, [.ref h1, .ref h2, .ref h3, .int (-1)]))]) [0] (by decide) rfl
  exact W.vret hx hb hr (fun t ht hW => ⟨⟨(), rfl, trivial, by rw [ht]; exact hP9, va_K.moved hW.alike hK, hD9⟩, hS.F ht⟩) hS.2.2 dX8_init_24

set_option maxHeartbeats 4000000 in
set_option maxRecDepth 100000 in
/-- Matcher(forms, names, scopes, matches) -/
theorem c_Matcher (l : Launch) (dC : Nat → ClassId) (dI : Nat → Nat → Nat) (cB cC cI cJ cZ : ClassId) (h0 h1 h2 h3 h4 : Nat)  (sz : Nat) : Met l yX4_init wsX4_init { frames := 1, cells := 0, slots := 0, locals := 20 } (va_Pc [.ref h0, .ref h1, .ref h2, .ref h3, .ref h4] (fun U => U.heap.size = sz ∧ va_P (dC, dI) vwCl [(h0, .inr (4, [.null, .null, .null, .null, .int 0, .int 0]))] U.heap ∧ va_K (dC, dI) vwCl (TY cB cC cI cJ cZ) U ∧ va_D (fun _ => True) [(h0, .inr (4, [.null, .null, .null, .null, .int 0, .int 0]))])) (va_Qv (fun (_ : Unit) => True) (fun (_ : Unit) (t : State) => va_P (dC, dI) vwCl [(h0, .inr (4, [.ref h1, .ref h2, .ref h3, .ref h4, .int (-1), .int 0]))] t.heap ∧ va_K (dC, dI) vwCl (TY cB cC cI cJ cZ) t ∧ va_D (va_A [(h0, .inr (4, [.null, .null, .null, .null, .int 0, .int 0]))] sz) [(h0, .inr (4, [.ref h1, .ref h2, .ref h3, .ref h4, .int (-1), .int 0]))]) (va_A [(h0, .inr (4, [.null, .null, .null, .null, .int 0, .int 0]))] sz)) 0 0 (va_A [(h0, .inr (4, [.null, .null, .null, .null, .int 0, .int 0]))] sz) := by
  refine Met.ofW (cc := cX4_init) (maxL := 5) (ret := none) (by decide) rfl ?_
  intro p e s m args below meth c s₁ B hml hv
  obtain ⟨rfl, hsz, hP, hK, hD0⟩ := hv
  have hx := B.exec
  have hb := B.bytes
  have hr := B.returns
  have hts := atoms_spec (ws := wsX4_init) B.pre
  have hown : s.vm.findClass RX4 = some m.cls := findClass_of_methodNamed B.named
  have hlocks := B.notSynchronized
  have hin : meth.name = "<init>" := (name_of_methodNamed B.named B.method).1
  subst hsz
  have hD := hD0.self (sz := s.heap.size)
  generalize hAe : va_A [(h0, .inr (4, [.null, .null, .null, .null, .int 0, .int 0]))] s.heap.size = A at hD ⊢
  have hA : ∀ q : Nat, s.heap.size ≤ q → A q := fun q h => by rw [← hAe]; exact Or.inr h
  have hS : va_S A s.heap s.heap [] := va_S.rf
  have hP : va_P (dC, dI) vwCl [(h0, .inr (4, [.null, .null, .null, .null, .int 0, .int 0]))] s.heap := hP
  have hl := lv_entry ([.ref h0, .ref h1, .ref h2, .ref h3, .ref h4]) (n := 5) (Nat.le_of_ble_eq_true rfl)
  rw [lg_entry_eq]
  generalize (lg_sl ([.ref h0, .ref h1, .ref h2, .ref h3, .ref h4]) ++ List.replicate (5 - (lg_sl ([.ref h0, .ref h1, .ref h2, .ref h3, .ref h4])).length) Slot.unset).toArray = ls at hl ⊢
  have hl : lv_has ls 5 [(0, .ref h0), (1, .ref h1), (2, .ref h2), (3, .ref h3), (4, .ref h4)] := hl
  refine lv_aload_n hx hb dX4_init_0 rfl (lv_at hl 0 rfl) ?_
  refine W.objInit hx hb hown (hts _ lkX4_init_o3) (hts _ lkX4_init_oi) (hts _ lkX4_init_oc) rfl (by rw [hml]; exact hl.1) rfl dX4_init_1 (Nat.le_of_ble_eq_true rfl) (Nat.le_of_ble_eq_true rfl) ?_
  refine W.eq (g2 := F0 m 4 ls []) rfl ?_
  refine lv_aload_n hx hb dX4_init_4 rfl (lv_at hl 0 rfl) ?_
  refine lv_iconst (v := (-1)) hx hb dX4_init_5 (by decide) ?_
  refine va_put (D := (dC, dI)) (ci := 4) (v := .int (-1)) (ty := .int) (C := RX4) (T := TX4) (N := 6) hx hb hts inX4_init_X4 tyX4 tyX4_ok nmX4 hown hK hP hD hS 0 rfl rfl 4 (by decide) (hts _ lkX4_init_f9) (fun _ h9 => h9) rfl (by decide +kernel) rfl rfl (Nat.le_of_ble_eq_true rfl) dX4_init_6 (fun H locs hP hD hS => ?_)
  have hP : va_P (dC, dI) vwCl [(h0, .inr (4, [.null, .null, .null, .null, .int (-1), .int 0]))] H := hP
  have hD : va_D A [(h0, .inr (4, [.null, .null, .null, .null, .int (-1), .int 0]))] := hD
  refine lv_aload_n hx hb dX4_init_9 rfl (lv_at hl 0 rfl) ?_
  refine lv_iconst (v := 0) hx hb dX4_init_10 (by decide) ?_
  refine va_put (D := (dC, dI)) (ci := 4) (v := .int 0) (ty := .int) (C := RX4) (T := TX4) (N := 6) hx hb hts inX4_init_X4 tyX4 tyX4_ok nmX4 hown hK hP hD hS 0 rfl rfl 5 (by decide) (hts _ lkX4_init_f15) (fun _ h9 => h9) rfl (by decide +kernel) rfl rfl (Nat.le_of_ble_eq_true rfl) dX4_init_11 (fun H locs hP hD hS => ?_)
  have hP : va_P (dC, dI) vwCl [(h0, .inr (4, [.null, .null, .null, .null, .int (-1), .int 0]))] H := hP
  have hD : va_D A [(h0, .inr (4, [.null, .null, .null, .null, .int (-1), .int 0]))] := hD
  refine lv_aload_n hx hb dX4_init_14 rfl (lv_at hl 0 rfl) ?_
  refine lv_aload_n hx hb dX4_init_15 rfl (lv_at hl 1 rfl) ?_
  refine va_putF (D := (dC, dI)) (ci := 4) (v := .ref h1) (ty := .object "MacroScopes$Forms") (C := RX4) (T := TX4) (N := 6) hx hb hts inX4_init_X4 tyX4 tyX4_ok nmX4 hown hK hP hD hS 0 rfl rfl 0 (by decide) (hts _ lkX4_init_f18) (fun _ h9 => h9) rfl hin rfl (by decide +kernel) rfl rfl (Nat.le_of_ble_eq_true rfl) dX4_init_16 (fun H locs hP hD hS => ?_)
  have hP : va_P (dC, dI) vwCl [(h0, .inr (4, [.ref h1, .null, .null, .null, .int (-1), .int 0]))] H := hP
  have hD : va_D A [(h0, .inr (4, [.ref h1, .null, .null, .null, .int (-1), .int 0]))] := hD
  refine lv_aload_n hx hb dX4_init_19 rfl (lv_at hl 0 rfl) ?_
  refine lv_aload_n hx hb dX4_init_20 rfl (lv_at hl 2 rfl) ?_
  refine va_putF (D := (dC, dI)) (ci := 4) (v := .ref h2) (ty := .object "MacroScopes$Names") (C := RX4) (T := TX4) (N := 6) hx hb hts inX4_init_X4 tyX4 tyX4_ok nmX4 hown hK hP hD hS 0 rfl rfl 1 (by decide) (hts _ lkX4_init_f22) (fun _ h9 => h9) rfl hin rfl (by decide +kernel) rfl rfl (Nat.le_of_ble_eq_true rfl) dX4_init_21 (fun H locs hP hD hS => ?_)
  have hP : va_P (dC, dI) vwCl [(h0, .inr (4, [.ref h1, .ref h2, .null, .null, .int (-1), .int 0]))] H := hP
  have hD : va_D A [(h0, .inr (4, [.ref h1, .ref h2, .null, .null, .int (-1), .int 0]))] := hD
  refine lv_aload_n hx hb dX4_init_24 rfl (lv_at hl 0 rfl) ?_
  refine lv_aload_n hx hb dX4_init_25 rfl (lv_at hl 3 rfl) ?_
  refine va_putF (D := (dC, dI)) (ci := 4) (v := .ref h3) (ty := .object "MacroScopes$Scopes") (C := RX4) (T := TX4) (N := 6) hx hb hts inX4_init_X4 tyX4 tyX4_ok nmX4 hown hK hP hD hS 0 rfl rfl 2 (by decide) (hts _ lkX4_init_f26) (fun _ h9 => h9) rfl hin rfl (by decide +kernel) rfl rfl (Nat.le_of_ble_eq_true rfl) dX4_init_26 (fun H locs hP hD hS => ?_)
  have hP : va_P (dC, dI) vwCl [(h0, .inr (4, [.ref h1, .ref h2, .ref h3, .null, .int (-1), .int 0]))] H := hP
  have hD : va_D A [(h0, .inr (4, [.ref h1, .ref h2, .ref h3, .null, .int (-1), .int 0]))] := hD
  refine lv_aload_n hx hb dX4_init_29 rfl (lv_at hl 0 rfl) ?_
  refine lv_aload hx hb dX4_init_30 (lv_at hl 4 rfl) ?_
  refine va_putF (D := (dC, dI)) (ci := 4) (v := .ref h4) (ty := .object "MacroScopes$Matches") (C := RX4) (T := TX4) (N := 6) hx hb hts inX4_init_X4 tyX4 tyX4_ok nmX4 hown hK hP hD hS 0 rfl rfl 3 (by decide) (hts _ lkX4_init_f30) (fun _ h9 => h9) rfl hin rfl (by decide +kernel) rfl rfl (Nat.le_of_ble_eq_true rfl) dX4_init_32 (fun H locs hP hD hS => ?_)
  have hP : va_P (dC, dI) vwCl [(h0, .inr (4, [.ref h1, .ref h2, .ref h3, .ref h4, .int (-1), .int 0]))] H := hP
  have hD : va_D A [(h0, .inr (4, [.ref h1, .ref h2, .ref h3, .ref h4, .int (-1), .int 0]))] := hD
  refine W.widen (k := 0) (n := 0) (Nat.le_of_ble_eq_true rfl) (Nat.le_of_ble_eq_true rfl) ?_
  have hP9 := hP.sub (ws' := [(h0, .inr (4, [.ref h1, .ref h2, .ref h3, .ref h4, .int (-1), .int 0]))]) [0] rfl
  have hD9 := hD.sub (ws' := [(h0, .inr (4, [.ref h1, .ref h2, .ref h3, .ref h4, .int (-1), .int 0]))]) [0] (by decide) rfl
  exact W.vret hx hb hr (fun t ht hW => ⟨⟨(), rfl, trivial, by rw [ht]; exact hP9, va_K.moved hW.alike hK, hD9⟩, hS.F ht⟩) hS.2.2 dX4_init_35

set_option maxHeartbeats 4000000 in
set_option maxRecDepth 100000 in
/-- Maker(forms, names, matches) -/
theorem c_Maker (l : Launch) (dC : Nat → ClassId) (dI : Nat → Nat → Nat) (cB cC cI cJ cZ : ClassId) (h0 h1 h2 h3 : Nat)  (sz : Nat) : Met l yX3_init wsX3_init { frames := 1, cells := 0, slots := 0, locals := 20 } (va_Pc [.ref h0, .ref h1, .ref h2, .ref h3] (fun U => U.heap.size = sz ∧ va_P (dC, dI) vwCl [(h0, .inr (3, [.null, .null, .null, .int 0, .int 0, .int 0]))] U.heap ∧ va_K (dC, dI) vwCl (TY cB cC cI cJ cZ) U ∧ va_D (fun _ => True) [(h0, .inr (3, [.null, .null, .null, .int 0, .int 0, .int 0]))])) (va_Qv (fun (_ : Unit) => True) (fun (_ : Unit) (t : State) => va_P (dC, dI) vwCl [(h0, .inr (3, [.ref h1, .ref h2, .ref h3, .int 0, .int 0, .int 0]))] t.heap ∧ va_K (dC, dI) vwCl (TY cB cC cI cJ cZ) t ∧ va_D (va_A [(h0, .inr (3, [.null, .null, .null, .int 0, .int 0, .int 0]))] sz) [(h0, .inr (3, [.ref h1, .ref h2, .ref h3, .int 0, .int 0, .int 0]))]) (va_A [(h0, .inr (3, [.null, .null, .null, .int 0, .int 0, .int 0]))] sz)) 0 0 (va_A [(h0, .inr (3, [.null, .null, .null, .int 0, .int 0, .int 0]))] sz) := by
  refine Met.ofW (cc := cX3_init) (maxL := 4) (ret := none) (by decide) rfl ?_
  intro p e s m args below meth c s₁ B hml hv
  obtain ⟨rfl, hsz, hP, hK, hD0⟩ := hv
  have hx := B.exec
  have hb := B.bytes
  have hr := B.returns
  have hts := atoms_spec (ws := wsX3_init) B.pre
  have hown : s.vm.findClass RX3 = some m.cls := findClass_of_methodNamed B.named
  have hlocks := B.notSynchronized
  have hin : meth.name = "<init>" := (name_of_methodNamed B.named B.method).1
  subst hsz
  have hD := hD0.self (sz := s.heap.size)
  generalize hAe : va_A [(h0, .inr (3, [.null, .null, .null, .int 0, .int 0, .int 0]))] s.heap.size = A at hD ⊢
  have hA : ∀ q : Nat, s.heap.size ≤ q → A q := fun q h => by rw [← hAe]; exact Or.inr h
  have hS : va_S A s.heap s.heap [] := va_S.rf
  have hP : va_P (dC, dI) vwCl [(h0, .inr (3, [.null, .null, .null, .int 0, .int 0, .int 0]))] s.heap := hP
  have hl := lv_entry ([.ref h0, .ref h1, .ref h2, .ref h3]) (n := 4) (Nat.le_of_ble_eq_true rfl)
  rw [lg_entry_eq]
  generalize (lg_sl ([.ref h0, .ref h1, .ref h2, .ref h3]) ++ List.replicate (4 - (lg_sl ([.ref h0, .ref h1, .ref h2, .ref h3])).length) Slot.unset).toArray = ls at hl ⊢
  have hl : lv_has ls 4 [(0, .ref h0), (1, .ref h1), (2, .ref h2), (3, .ref h3)] := hl
  refine lv_aload_n hx hb dX3_init_0 rfl (lv_at hl 0 rfl) ?_
  refine W.objInit hx hb hown (hts _ lkX3_init_o3) (hts _ lkX3_init_oi) (hts _ lkX3_init_oc) rfl (by rw [hml]; exact hl.1) rfl dX3_init_1 (Nat.le_of_ble_eq_true rfl) (Nat.le_of_ble_eq_true rfl) ?_
  refine W.eq (g2 := F0 m 4 ls []) rfl ?_
  refine lv_aload_n hx hb dX3_init_4 rfl (lv_at hl 0 rfl) ?_
  refine lv_iconst (v := 0) hx hb dX3_init_5 (by decide) ?_
  refine va_put (D := (dC, dI)) (ci := 3) (v := .int 0) (ty := .int) (C := RX3) (T := TX3) (N := 6) hx hb hts inX3_init_X3 tyX3 tyX3_ok nmX3 hown hK hP hD hS 0 rfl rfl 3 (by decide) (hts _ lkX3_init_f9) (fun _ h9 => h9) rfl (by decide +kernel) rfl rfl (Nat.le_of_ble_eq_true rfl) dX3_init_6 (fun H locs hP hD hS => ?_)
  have hP : va_P (dC, dI) vwCl [(h0, .inr (3, [.null, .null, .null, .int 0, .int 0, .int 0]))] H := hP
  have hD : va_D A [(h0, .inr (3, [.null, .null, .null, .int 0, .int 0, .int 0]))] := hD
  refine lv_aload_n hx hb dX3_init_9 rfl (lv_at hl 0 rfl) ?_
  refine lv_iconst (v := 0) hx hb dX3_init_10 (by decide) ?_
  refine va_put (D := (dC, dI)) (ci := 3) (v := .int 0) (ty := .int) (C := RX3) (T := TX3) (N := 6) hx hb hts inX3_init_X3 tyX3 tyX3_ok nmX3 hown hK hP hD hS 0 rfl rfl 4 (by decide) (hts _ lkX3_init_f15) (fun _ h9 => h9) rfl (by decide +kernel) rfl rfl (Nat.le_of_ble_eq_true rfl) dX3_init_11 (fun H locs hP hD hS => ?_)
  have hP : va_P (dC, dI) vwCl [(h0, .inr (3, [.null, .null, .null, .int 0, .int 0, .int 0]))] H := hP
  have hD : va_D A [(h0, .inr (3, [.null, .null, .null, .int 0, .int 0, .int 0]))] := hD
  refine lv_aload_n hx hb dX3_init_14 rfl (lv_at hl 0 rfl) ?_
  refine lv_iconst (v := 0) hx hb dX3_init_15 (by decide) ?_
  refine va_put (D := (dC, dI)) (ci := 3) (v := .int 0) (ty := .boolean) (C := RX3) (T := TX3) (N := 6) hx hb hts inX3_init_X3 tyX3 tyX3_ok nmX3 hown hK hP hD hS 0 rfl rfl 5 (by decide) (hts _ lkX3_init_f18) (fun _ h9 => h9) rfl (by decide +kernel) rfl rfl (Nat.le_of_ble_eq_true rfl) dX3_init_16 (fun H locs hP hD hS => ?_)
  have hP : va_P (dC, dI) vwCl [(h0, .inr (3, [.null, .null, .null, .int 0, .int 0, .int 0]))] H := hP
  have hD : va_D A [(h0, .inr (3, [.null, .null, .null, .int 0, .int 0, .int 0]))] := hD
  refine lv_aload_n hx hb dX3_init_19 rfl (lv_at hl 0 rfl) ?_
  refine lv_aload_n hx hb dX3_init_20 rfl (lv_at hl 1 rfl) ?_
  refine va_putF (D := (dC, dI)) (ci := 3) (v := .ref h1) (ty := .object "MacroScopes$Forms") (C := RX3) (T := TX3) (N := 6) hx hb hts inX3_init_X3 tyX3 tyX3_ok nmX3 hown hK hP hD hS 0 rfl rfl 0 (by decide) (hts _ lkX3_init_f22) (fun _ h9 => h9) rfl hin rfl (by decide +kernel) rfl rfl (Nat.le_of_ble_eq_true rfl) dX3_init_21 (fun H locs hP hD hS => ?_)
  have hP : va_P (dC, dI) vwCl [(h0, .inr (3, [.ref h1, .null, .null, .int 0, .int 0, .int 0]))] H := hP
  have hD : va_D A [(h0, .inr (3, [.ref h1, .null, .null, .int 0, .int 0, .int 0]))] := hD
  refine lv_aload_n hx hb dX3_init_24 rfl (lv_at hl 0 rfl) ?_
  refine lv_aload_n hx hb dX3_init_25 rfl (lv_at hl 2 rfl) ?_
  refine va_putF (D := (dC, dI)) (ci := 3) (v := .ref h2) (ty := .object "MacroScopes$Names") (C := RX3) (T := TX3) (N := 6) hx hb hts inX3_init_X3 tyX3 tyX3_ok nmX3 hown hK hP hD hS 0 rfl rfl 1 (by decide) (hts _ lkX3_init_f26) (fun _ h9 => h9) rfl hin rfl (by decide +kernel) rfl rfl (Nat.le_of_ble_eq_true rfl) dX3_init_26 (fun H locs hP hD hS => ?_)
  have hP : va_P (dC, dI) vwCl [(h0, .inr (3, [.ref h1, .ref h2, .null, .int 0, .int 0, .int 0]))] H := hP
  have hD : va_D A [(h0, .inr (3, [.ref h1, .ref h2, .null, .int 0, .int 0, .int 0]))] := hD
  refine lv_aload_n hx hb dX3_init_29 rfl (lv_at hl 0 rfl) ?_
  refine lv_aload_n hx hb dX3_init_30 rfl (lv_at hl 3 rfl) ?_
  refine va_putF (D := (dC, dI)) (ci := 3) (v := .ref h3) (ty := .object "MacroScopes$Matches") (C := RX3) (T := TX3) (N := 6) hx hb hts inX3_init_X3 tyX3 tyX3_ok nmX3 hown hK hP hD hS 0 rfl rfl 2 (by decide) (hts _ lkX3_init_f30) (fun _ h9 => h9) rfl hin rfl (by decide +kernel) rfl rfl (Nat.le_of_ble_eq_true rfl) dX3_init_31 (fun H locs hP hD hS => ?_)
  have hP : va_P (dC, dI) vwCl [(h0, .inr (3, [.ref h1, .ref h2, .ref h3, .int 0, .int 0, .int 0]))] H := hP
  have hD : va_D A [(h0, .inr (3, [.ref h1, .ref h2, .ref h3, .int 0, .int 0, .int 0]))] := hD
  refine W.widen (k := 0) (n := 0) (Nat.le_of_ble_eq_true rfl) (Nat.le_of_ble_eq_true rfl) ?_
  have hP9 := hP.sub (ws' := [(h0, .inr (3, [.ref h1, .ref h2, .ref h3, .int 0, .int 0, .int 0]))]) [0] rfl
  have hD9 := hD.sub (ws' := [(h0, .inr (3, [.ref h1, .ref h2, .ref h3, .int 0, .int 0, .int 0]))]) [0] (by decide) rfl
  exact W.vret hx hb hr (fun t ht hW => ⟨⟨(), rfl, trivial, by rw [ht]; exact hP9, va_K.moved hW.alike hK, hD9⟩, hS.F ht⟩) hS.2.2 dX3_init_34

set_option maxHeartbeats 4000000 in
set_option maxRecDepth 100000 in
/-- Reader(forms, names) -/
theorem c_Reader (l : Launch) (dC : Nat → ClassId) (dI : Nat → Nat → Nat) (cB cC cI cJ cZ : ClassId) (h0 h1 h2 : Nat)  (sz : Nat) : Met l yX7_init wsX7_init { frames := 1, cells := 1, slots := 61, locals := 20 } (va_Pc [.ref h0, .ref h1, .ref h2] (fun U => U.heap.size = sz ∧ va_P (dC, dI) vwCl [(h0, .inr (7, [.null, .null, .null, .int 0]))] U.heap ∧ va_K (dC, dI) vwCl (TY cB cC cI cJ cZ) U ∧ va_D (fun _ => True) [(h0, .inr (7, [.null, .null, .null, .int 0]))])) (va_Qv (fun (_ : Unit) => True) (fun (_ : Unit) (t : State) => ∃ (q1 : Nat), va_P (dC, dI) vwCl [(h0, .inr (7, [.ref h1, .ref h2, .ref q1, .int 0]))] t.heap ∧ va_K (dC, dI) vwCl (TY cB cC cI cJ cZ) t ∧ va_D (va_A [(h0, .inr (7, [.null, .null, .null, .int 0]))] sz) [(h0, .inr (7, [.ref h1, .ref h2, .ref q1, .int 0]))]) (va_A [(h0, .inr (7, [.null, .null, .null, .int 0]))] sz)) 1 61 (va_A [(h0, .inr (7, [.null, .null, .null, .int 0]))] sz) := by
  refine Met.ofW (cc := cX7_init) (maxL := 3) (ret := none) (by decide) rfl ?_
  intro p e s m args below meth c s₁ B hml hv
  obtain ⟨rfl, hsz, hP, hK, hD0⟩ := hv
  have hx := B.exec
  have hb := B.bytes
  have hr := B.returns
  have hts := atoms_spec (ws := wsX7_init) B.pre
  have hown : s.vm.findClass RX7 = some m.cls := findClass_of_methodNamed B.named
  have hlocks := B.notSynchronized
  have hin : meth.name = "<init>" := (name_of_methodNamed B.named B.method).1
  subst hsz
  have hD := hD0.self (sz := s.heap.size)
  generalize hAe : va_A [(h0, .inr (7, [.null, .null, .null, .int 0]))] s.heap.size = A at hD ⊢
  have hA : ∀ q : Nat, s.heap.size ≤ q → A q := fun q h => by rw [← hAe]; exact Or.inr h
  have hS : va_S A s.heap s.heap [] := va_S.rf
  have hP : va_P (dC, dI) vwCl [(h0, .inr (7, [.null, .null, .null, .int 0]))] s.heap := hP
  have hl := lv_entry ([.ref h0, .ref h1, .ref h2]) (n := 3) (Nat.le_of_ble_eq_true rfl)
  rw [lg_entry_eq]
  generalize (lg_sl ([.ref h0, .ref h1, .ref h2]) ++ List.replicate (3 - (lg_sl ([.ref h0, .ref h1, .ref h2])).length) Slot.unset).toArray = ls at hl ⊢
  have hl : lv_has ls 3 [(0, .ref h0), (1, .ref h1), (2, .ref h2)] := hl
  refine lv_aload_n hx hb dX7_init_0 rfl (lv_at hl 0 rfl) ?_
  refine W.objInit hx hb hown (hts _ lkX7_init_o3) (hts _ lkX7_init_oi) (hts _ lkX7_init_oc) rfl (by rw [hml]; exact hl.1) rfl dX7_init_1 (Nat.le_of_ble_eq_true rfl) (Nat.le_of_ble_eq_true rfl) ?_
  refine W.eq (g2 := F0 m 4 ls []) rfl ?_
  refine lv_aload_n hx hb dX7_init_4 rfl (lv_at hl 0 rfl) ?_
  refine lv_bipush (v := 61) hx hb dX7_init_5 (by decide) ?_
  refine na_int (N' := 61) hx hb (hts _ lkX7_init_aint) hK hP hD hS hA (by decide) (by decide) (by decide) (Nat.le_of_ble_eq_true rfl) (Nat.le_of_ble_eq_true rfl) dX7_init_7 (fun q1 H hP hD hS => ?_)
  have hP := hP.sub (ws' := [(h0, .inr (7, [.null, .null, .null, .int 0]))]) [0] rfl
  have hD := hD.sub (ws' := [(h0, .inr (7, [.null, .null, .null, .int 0]))]) [0] (by decide) rfl
  refine W.widen (k := 1) (n := 61) (Nat.le_of_ble_eq_true rfl) (Nat.le_of_ble_eq_true rfl) ?_
  refine va_putF (D := (dC, dI)) (ci := 7) (v := .ref q1) (ty := .array .int) (C := RX7) (T := TX7) (N := 4) hx hb hts inX7_init_X7 tyX7 tyX7_ok nmX7 hown hK hP hD hS 0 rfl rfl 2 (by decide) (hts _ lkX7_init_f9) (fun _ h9 => h9) rfl hin rfl (by decide +kernel) rfl rfl (Nat.le_of_ble_eq_true rfl) dX7_init_9 (fun H locs hP hD hS => ?_)
  have hP : va_P (dC, dI) vwCl [(h0, .inr (7, [.null, .null, .ref q1, .int 0]))] H := hP
  have hD : va_D A [(h0, .inr (7, [.null, .null, .ref q1, .int 0]))] := hD
  refine lv_aload_n hx hb dX7_init_12 rfl (lv_at hl 0 rfl) ?_
  refine lv_iconst (v := 0) hx hb dX7_init_13 (by decide) ?_
  refine va_put (D := (dC, dI)) (ci := 7) (v := .int 0) (ty := .int) (C := RX7) (T := TX7) (N := 4) hx hb hts inX7_init_X7 tyX7 tyX7_ok nmX7 hown hK hP hD hS 0 rfl rfl 3 (by decide) (hts _ lkX7_init_f15) (fun _ h9 => h9) rfl (by decide +kernel) rfl rfl (Nat.le_of_ble_eq_true rfl) dX7_init_14 (fun H locs hP hD hS => ?_)
  have hP : va_P (dC, dI) vwCl [(h0, .inr (7, [.null, .null, .ref q1, .int 0]))] H := hP
  have hD : va_D A [(h0, .inr (7, [.null, .null, .ref q1, .int 0]))] := hD
  refine lv_aload_n hx hb dX7_init_17 rfl (lv_at hl 0 rfl) ?_
  refine lv_aload_n hx hb dX7_init_18 rfl (lv_at hl 1 rfl) ?_
  refine va_putF (D := (dC, dI)) (ci := 7) (v := .ref h1) (ty := .object "MacroScopes$Forms") (C := RX7) (T := TX7) (N := 4) hx hb hts inX7_init_X7 tyX7 tyX7_ok nmX7 hown hK hP hD hS 0 rfl rfl 0 (by decide) (hts _ lkX7_init_f19) (fun _ h9 => h9) rfl hin rfl (by decide +kernel) rfl rfl (Nat.le_of_ble_eq_true rfl) dX7_init_19 (fun H locs hP hD hS => ?_)
  have hP : va_P (dC, dI) vwCl [(h0, .inr (7, [.ref h1, .null, .ref q1, .int 0]))] H := hP
  have hD : va_D A [(h0, .inr (7, [.ref h1, .null, .ref q1, .int 0]))] := hD
  refine lv_aload_n hx hb dX7_init_22 rfl (lv_at hl 0 rfl) ?_
  refine lv_aload_n hx hb dX7_init_23 rfl (lv_at hl 2 rfl) ?_
  refine va_putF (D := (dC, dI)) (ci := 7) (v := .ref h2) (ty := .object "MacroScopes$Names") (C := RX7) (T := TX7) (N := 4) hx hb hts inX7_init_X7 tyX7 tyX7_ok nmX7 hown hK hP hD hS 0 rfl rfl 1 (by decide) (hts _ lkX7_init_f23) (fun _ h9 => h9) rfl hin rfl (by decide +kernel) rfl rfl (Nat.le_of_ble_eq_true rfl) dX7_init_24 (fun H locs hP hD hS => ?_)
  have hP : va_P (dC, dI) vwCl [(h0, .inr (7, [.ref h1, .ref h2, .ref q1, .int 0]))] H := hP
  have hD : va_D A [(h0, .inr (7, [.ref h1, .ref h2, .ref q1, .int 0]))] := hD
  refine W.widen (k := 1) (n := 61) (Nat.le_of_ble_eq_true rfl) (Nat.le_of_ble_eq_true rfl) ?_
  have hP9 := hP.sub (ws' := [(h0, .inr (7, [.ref h1, .ref h2, .ref q1, .int 0]))]) [0] rfl
  have hD9 := hD.sub (ws' := [(h0, .inr (7, [.ref h1, .ref h2, .ref q1, .int 0]))]) [0] (by decide) rfl
  exact W.vret hx hb hr (fun t ht hW => ⟨⟨(), rfl, trivial, q1, by rw [ht]; exact hP9, va_K.moved hW.alike hK, hD9⟩, hS.F ht⟩) hS.2.2 dX7_init_27
end
section
theorem lkJ1_toChars_9d188_achar : Cond.arrayClass .char ∈ wsJ1_toChars_9d188 := by decide +kernel
theorem lkJ0_isLatin1_aae02_f38 : Cond.fieldLink RJ0 38 "java/lang/String" "COMPACT_STRINGS" "Z" ∈ wsJ0_isLatin1_aae02 := by decide +kernel
theorem lkJ0_isLatin1_aae02_f15 : Cond.fieldLink RJ0 15 "java/lang/String" "coder" "B" ∈ wsJ0_isLatin1_aae02 := by decide +kernel
theorem lkJ0_toCharArray_70df3_f9 : Cond.fieldLink RJ0 9 "java/lang/String" "value" "[B" ∈ wsJ0_toCharArray_70df3 := by decide +kernel
set_option maxHeartbeats 4000000 in
set_option maxRecDepth 100000 in
theorem lp_inflate {p : Program} {l : Launch} {e : Env} {R : Room} {s : State} {m : MethodId} {args : Array Value} {below : List Frame} {meth : Method} {c : Code} {Q : State → Prop} {A : Nat → Prop} {dC : Nat → ClassId} {dI : Nat → Nat → Nat} {cB cC cI cJ cZ : ClassId} {cells slots : Nat} (hx : p.tables.exec = Jvm.exec) (hb : c.code = cJ1_inflate_03870) (hml : c.maxLocals = 6) (hown : s.vm.findClass RJ1 = some m.cls) (hts : ∀ w ∈ wsJ1_inflate_03870, w.before args s = true) (hK : va_K (dC, dI) vwCl (TY cB cC cI cJ cZ) s) (hA : ∀ q : Nat, s.heap.size ≤ q → A q) (v q n : Nat) (f : Nat → Int32) (hn : n ≤ 16) (hT : va_T .byte v n (fun j => .int (f j)) A s s.heap) (kk : ∀ (g1 : Nat → Int32) (H : Heap) (locs : List Loc), va_P (dC, dI) vwCl [(q, .inl (cC, n, .inl g1))] H → va_D A [(q, .inl (cC, n, .inl g1))] → va_S A s.heap H locs → ∀ (ls : Array Slot), lv_has ls 6 [] → W p l e R s m args below meth c H locs cells slots Q (F0 m 33 ls [])) : ∀ (k : Nat) (i : Nat) (g : Nat → Int32) (x1 x3 x5 : Int32), i ≤ n → n + 1 ≤ i + k → x1 = nI i → x3 = nI i → x5 = nI i → ∀ (H : Heap) (locs : List Loc), va_P (dC, dI) vwCl [(q, .inl (cC, n, .inl g))] H → va_D A [(q, .inl (cC, n, .inl g))] → va_S A s.heap H locs → ∀ (ls : Array Slot), lv_has ls 6 [(0, .ref v), (1, .int x1), (2, .ref q), (3, .int x3), (4, .int (nI n)), (5, .int x5)] → W p l e R s m args below meth c H locs cells slots Q (F0 m 3 ls []) := by
  intro k
  induction k with
  | zero =>
    intro i g x1 x3 x5 hi hk h1 h3 h5
    omega
  | succ k ih =>
    intro i g x1 x3 x5 hi hk h1 h3 h5 H locs hP hD hS ls hl
    refine lv_iload hx hb dJ1_inflate_03870_3 (lv_at hl 5 rfl) ?_
    refine lv_iload hx hb dJ1_inflate_03870_5 (lv_at hl 4 rfl) ?_
    refine lv_icmp_ge (tgt := 33) hx hb dJ1_inflate_03870_7 (by decide) (fun c1 => ?_) (fun c1 => ?_)
    · exact kk g H locs (hP.sub [0] rfl) (hD.sub [0] (by decide) rfl) hS ls (lv_sub hl [] rfl)
    · have hlt : i < n := by
        rcases Nat.lt_or_ge i n with q9 | q9
        · exact q9
        · exact absurd (by rw [h5]; exact nI_le q9 (by omega)) c1
      have hin1 : vp_in x1 n := by rw [h1]; exact vp_in_nI hlt (by omega)
      have hin3 : vp_in x3 n := by rw [h3]; exact vp_in_nI hlt (by omega)
      refine lv_aload_n hx hb dJ1_inflate_03870_10 rfl (lv_at hl 2 rfl) ?_
      refine lv_iload_n hx hb dJ1_inflate_03870_11 rfl (lv_at hl 3 rfl) ?_
      obtain ⟨x1, ex1⟩ : ∃ y : Int32, y = x3 + 1 := ⟨_, rfl⟩
      refine lv_iinc (v := x1) (lv' := [(3, .int x1), (0, .ref v), (1, .int x1), (2, .ref q), (4, .int (nI n)), (5, .int x5)]) hx hb dJ1_inflate_03870_12 hl (k := 3) rfl (by rw [ex1]; rfl) (by decide) rfl (fun ls hl => ?_)
      refine lv_aload_n hx hb dJ1_inflate_03870_15 rfl (lv_at hl 1 rfl) ?_
      refine lv_iload_n hx hb dJ1_inflate_03870_16 rfl (lv_at hl 2 rfl) ?_
      obtain ⟨x2, ex2⟩ : ∃ y : Int32, y = x1 + 1 := ⟨_, rfl⟩
      refine lv_iinc (v := x2) (lv' := [(1, .int x2), (3, .int x1), (0, .ref v), (2, .ref q), (4, .int (nI n)), (5, .int x5)]) hx hb dJ1_inflate_03870_17 hl (k := 2) rfl (by rw [ex2]; rfl) (by decide) rfl (fun ls hl => ?_)
      refine va_tb hx hb hT hS hin1 (v := .int (f x1.toNatClampNeg)) rfl dJ1_inflate_03870_20 ?_
      refine lv_sipush (v := 255) hx hb dJ1_inflate_03870_21 (by decide) ?_
      refine lv_iand hx hb dJ1_inflate_03870_24 ?_
      refine lv_i2c hx hb dJ1_inflate_03870_25 rfl ?_
      refine va_cast hx hb hK hP hD hS 0 1 rfl rfl (hin3) dJ1_inflate_03870_26 (fun H locs hP hD hS => ?_)
      have hP : va_P (dC, dI) vwCl [(q, .inl (cC, n, .inl (upd g x3.toNatClampNeg (vp_nar .char ((((f x1.toNatClampNeg) &&& 255).toUInt32 % 65536).toInt32)))))] H := hP
      have hD : va_D A [(q, .inl (cC, n, .inl (upd g x3.toNatClampNeg (vp_nar .char ((((f x1.toNatClampNeg) &&& 255).toUInt32 % 65536).toInt32)))))] := hD
      generalize eg2 : upd g x3.toNatClampNeg (vp_nar .char ((((f x1.toNatClampNeg) &&& 255).toUInt32 % 65536).toInt32)) = g2 at hP hD
      obtain ⟨x3, ex3⟩ : ∃ y : Int32, y = x5 + 1 := ⟨_, rfl⟩
      refine lv_iinc (v := x3) (lv' := [(5, .int x3), (1, .int x2), (3, .int x1), (0, .ref v), (2, .ref q), (4, .int (nI n))]) hx hb dJ1_inflate_03870_27 hl (k := 5) rfl (by rw [ex3]; rfl) (by decide) rfl (fun ls hl => ?_)
      refine lv_goto (tgt := 3) hx hb dJ1_inflate_03870_30 (by decide) ?_
      exact ih (i + 1) g2 x2 x1 x3 hlt (by omega) (by rw [ex2, h1]; exact nI_1 i) (by rw [ex1, h3]; exact nI_1 i) (by rw [ex3, h5]; exact nI_1 i) _ _ (hP.sub [0] rfl) (hD.sub [0] (by decide) rfl) hS ls (lv_sub hl [3, 1, 4, 2, 5, 0] rfl)

set_option maxHeartbeats 4000000 in
set_option maxRecDepth 100000 in
/-- inflate: the chars are written, whatever they are -/
theorem c_inflate (l : Launch) (dC : Nat → ClassId) (dI : Nat → Nat → Nat) (cB cC cI cJ cZ : ClassId) (v q n : Nat) (f g : Nat → Int32) (hn : n ≤ 16) (sz : Nat) : Met l yJ1_inflate_03870 wsJ1_inflate_03870 { frames := 0, cells := 0, slots := 0, locals := 0 } (va_Pc [.ref v, .int 0, .ref q, .int 0, .int (nI n)] (fun U => U.heap.size = sz ∧ va_P (dC, dI) vwCl [(q, .inl (cC, n, .inl g))] U.heap ∧ va_K (dC, dI) vwCl (TY cB cC cI cJ cZ) U ∧ va_D (fun _ => True) [(q, .inl (cC, n, .inl g))] ∧ va_T .byte v n (fun j => .int (f j)) (va_A [(q, .inl (cC, n, .inl g))] sz) U U.heap)) (va_Qv (fun (_ : Unit) => True) (fun (_ : Unit) (t : State) => ∃ (g1 : Nat → Int32), va_P (dC, dI) vwCl [(q, .inl (cC, n, .inl g1))] t.heap ∧ va_K (dC, dI) vwCl (TY cB cC cI cJ cZ) t ∧ va_D (va_A [(q, .inl (cC, n, .inl g))] sz) [(q, .inl (cC, n, .inl g1))]) (va_A [(q, .inl (cC, n, .inl g))] sz)) 0 0 (va_A [(q, .inl (cC, n, .inl g))] sz) := by
  refine Met.ofW (cc := cJ1_inflate_03870) (maxL := 6) (ret := none) (by decide) rfl ?_
  intro p e s m args below meth c s₁ B hml hv
  obtain ⟨rfl, hsz, hP, hK, hD0, hX⟩ := hv
  have hx := B.exec
  have hb := B.bytes
  have hr := B.returns
  have hts := atoms_spec (ws := wsJ1_inflate_03870) B.pre
  have hown : s.vm.findClass RJ1 = some m.cls := findClass_of_methodNamed B.named
  have hlocks := B.notSynchronized
  subst hsz
  have hD := hD0.self (sz := s.heap.size)
  generalize hAe : va_A [(q, .inl (cC, n, .inl g))] s.heap.size = A at hD hX ⊢
  have hA : ∀ q : Nat, s.heap.size ≤ q → A q := fun q h => by rw [← hAe]; exact Or.inr h
  have hS : va_S A s.heap s.heap [] := va_S.rf
  have hP : va_P (dC, dI) vwCl [(q, .inl (cC, n, .inl g))] s.heap := hP
  have hl := lv_entry ([.ref v, .int 0, .ref q, .int 0, .int (nI n)]) (n := 6) (Nat.le_of_ble_eq_true rfl)
  rw [lg_entry_eq]
  generalize (lg_sl ([.ref v, .int 0, .ref q, .int 0, .int (nI n)]) ++ List.replicate (6 - (lg_sl ([.ref v, .int 0, .ref q, .int 0, .int (nI n)])).length) Slot.unset).toArray = ls at hl ⊢
  have hl : lv_has ls 6 [(0, .ref v), (1, .int 0), (2, .ref q), (3, .int 0), (4, .int (nI n))] := hl
  have hT := hX
  refine lv_iconst (v := 0) hx hb dJ1_inflate_03870_0 (by decide) ?_
  refine lv_istore (lv' := [(5, .int 0), (0, .ref v), (1, .int 0), (2, .ref q), (3, .int 0), (4, .int (nI n))]) hx hb dJ1_inflate_03870_1 hl (by decide) rfl (fun ls hl => ?_)
  refine lp_inflate hx hb hml hown hts hK hA v q n f hn hT (fun g1 H locs hP hD hS ls hl => ?_) (n + 1) 0 g 0 0 0 (Nat.zero_le n) (by omega) nI_0.symm nI_0.symm nI_0.symm _ _ (hP.sub [0] rfl) (hD.sub [0] (by decide) rfl) hS ls (lv_sub hl [1, 2, 3, 4, 5, 0] rfl)
  refine W.widen (k := 0) (n := 0) (Nat.le_of_ble_eq_true rfl) (Nat.le_of_ble_eq_true rfl) ?_
  have hP9 := hP.sub (ws' := [(q, .inl (cC, n, .inl g1))]) [0] rfl
  have hD9 := hD.sub (ws' := [(q, .inl (cC, n, .inl g1))]) [0] (by decide) rfl
  exact W.vret hx hb hr (fun t ht hW => ⟨⟨(), rfl, trivial, g1, by rw [ht]; exact hP9, va_K.moved hW.alike hK, hD9⟩, hS.F ht⟩) hS.2.2 dJ1_inflate_03870_33

set_option maxHeartbeats 4000000 in
set_option maxRecDepth 100000 in
/-- StringLatin1.toChars: a new array of as many chars -/
theorem c_toChars (l : Launch) (dC : Nat → ClassId) (dI : Nat → Nat → Nat) (cB cC cI cJ cZ : ClassId) (v n : Nat) (f : Nat → Int32) (hn : n ≤ 16) (sz : Nat) : Met l yJ1_toChars_9d188 wsJ1_toChars_9d188 { frames := 1, cells := 1, slots := 16, locals := 25 } (va_Pc [.ref v] (fun U => U.heap.size = sz ∧ va_P (dC, dI) vwCl [] U.heap ∧ va_K (dC, dI) vwCl (TY cB cC cI cJ cZ) U ∧ va_D (fun _ => True) [] ∧ va_T .byte v n (fun j => .int (f j)) (va_A [] sz) U U.heap)) (va_Qr (fun (_ : Unit) => True) (fun (_ : Unit) (ra : Nat) (t : State) => ∃ (g : Nat → Int32), va_P (dC, dI) vwCl [(ra, .inl (cC, n, .inl g))] t.heap ∧ va_K (dC, dI) vwCl (TY cB cC cI cJ cZ) t ∧ va_D (va_A [] sz) [(ra, .inl (cC, n, .inl g))]) (va_A [] sz)) 1 16 (va_A [] sz) := by
  refine Met.ofW (cc := cJ1_toChars_9d188) (maxL := 2) (ret := (some (.array .char))) (by decide) rfl ?_
  intro p e s m args below meth c s₁ B hml hv
  obtain ⟨rfl, hsz, hP, hK, hD0, hX⟩ := hv
  have hx := B.exec
  have hb := B.bytes
  have hr := B.returns
  have hts := atoms_spec (ws := wsJ1_toChars_9d188) B.pre
  have hown : s.vm.findClass RJ1 = some m.cls := findClass_of_methodNamed B.named
  have hlocks := B.notSynchronized
  subst hsz
  have hD := hD0.self (sz := s.heap.size)
  generalize hAe : va_A [] s.heap.size = A at hD hX ⊢
  have hA : ∀ q : Nat, s.heap.size ≤ q → A q := fun q h => by rw [← hAe]; exact Or.inr h
  have hS : va_S A s.heap s.heap [] := va_S.rf
  have hP : va_P (dC, dI) vwCl [] s.heap := hP
  have hl := lv_entry ([.ref v]) (n := 2) (Nat.le_of_ble_eq_true rfl)
  rw [lg_entry_eq]
  generalize (lg_sl ([.ref v]) ++ List.replicate (2 - (lg_sl ([.ref v])).length) Slot.unset).toArray = ls at hl ⊢
  have hl : lv_has ls 2 [(0, .ref v)] := hl
  have hT := hX
  refine lv_aload_n hx hb dJ1_toChars_9d188_0 rfl (lv_at hl 0 rfl) ?_
  refine va_tlen hx hb hT hS (v := nI n) rfl dJ1_toChars_9d188_1 ?_
  refine na_char (N' := n) hx hb (hts _ lkJ1_toChars_9d188_achar) hK hP hD hS hA (nI_pos (by omega)) (nI_clamp (by omega)) (by show n * 2 ≤ 536870912; omega) (Nat.le_of_ble_eq_true rfl) (by show 0 + n ≤ 16; omega) dJ1_toChars_9d188_2 (fun q2 H hP hD hS => ?_)
  have hP : va_P (dC, dI) vwCl [(q2, .inl (cC, n, .inl (fun _ => 0)))] H := hP
  have hD : va_D A [(q2, .inl (cC, n, .inl (fun _ => 0)))] := hD
  refine W.widen (k := 1) (n := 16) (by omega) (by omega) ?_
  refine lv_astore_n (lv' := [(1, .ref q2), (0, .ref v)]) hx hb dJ1_toChars_9d188_4 rfl hl (by decide) rfl (fun ls hl => ?_)
  refine lv_aload_n hx hb dJ1_toChars_9d188_5 rfl (lv_at hl 1 rfl) ?_
  refine lv_iconst (v := 0) hx hb dJ1_toChars_9d188_6 (by decide) ?_
  refine lv_aload_n hx hb dJ1_toChars_9d188_7 rfl (lv_at hl 0 rfl) ?_
  refine lv_iconst (v := 0) hx hb dJ1_toChars_9d188_8 (by decide) ?_
  refine lv_aload_n hx hb dJ1_toChars_9d188_9 rfl (lv_at hl 1 rfl) ?_
  refine va_tlen hx hb hT hS (v := nI n) rfl dJ1_toChars_9d188_10 ?_
  have hPc := hP.sub (ws' := [(q2, .inl (cC, n, .inl (fun _ => 0)))]) [0] rfl
  have hDc := hD.sub (ws' := [(q2, .inl (cC, n, .inl (fun _ => 0)))]) [0] (by decide) rfl
  have hFc := va_free (wc := [(q2, .inl (cC, n, .inl (fun _ => 0)))]) hD hS hA [0] rfl
  refine va_callv (va_runS (As := [.ref v, .int 0, .ref q2, .int 0, .int (nI n)]) (rest := []) ⟨hx, hb, hml, hown, hts⟩ (c_inflate l dC dI cB cC cI cJ cZ v q2 n f (fun _ => 0) hn H.size) (va_cwS 5 hts gJ1_toChars_9d188_J1_inflate_03870 rfl rfl rfl (by decide +kernel) ⟨Nat.le_of_ble_eq_true rfl, Nat.le_of_ble_eq_true rfl⟩) ⟨fun a U g mk q => by obtain ⟨q0, q1, qP, qK, qD, qX⟩ := q; exact ⟨q0, q1, qP, va_K.moved (u := U) (U := U.calling g mk a) (Vm.Alike.refl U.vm) qK, qD, va_T.moved (u := U) (U := U.calling g mk a) (Vm.Alike.refl U.vm) qX⟩, fun U hU hW => ⟨rfl, by rw [hU], by rw [hU]; exact hPc, va_K.moved hW.alike hK, hDc.weaken (fun _ _ _ _ => trivial), by rw [hU]; exact va_T.moved hW.alike ((hT.kept hS.2.1).narrow hFc)⟩⟩ rfl rfl hl.1 rfl (lv_room (Nat.le_of_ble_eq_true rfl)) dJ1_toChars_9d188_11 ⟨Nat.le_of_ble_eq_true rfl, Nat.le_of_ble_eq_true rfl⟩) hS (fun q _ h => hFc q h) hFc (fun _u t H locs ht hvm hw hB hz1 hk1 hS => ?_)
  obtain ⟨g1, hP1, hK1, hD1⟩ := hB
  rw [ht] at hP1
  obtain ⟨hP, hD⟩ := va_join (wr := []) (w1 := [(q2, .inl (cC, n, .inl g1))]) hP hD [0] [] rfl rfl (by decide) (by decide) hk1 hFc hP1 hD1
  have hP : va_P (dC, dI) vwCl [(q2, .inl (cC, n, .inl g1))] H := hP
  have hD : va_D A [(q2, .inl (cC, n, .inl g1))] := hD
  refine W.widen (k := 1) (n := 16) (Nat.le_of_ble_eq_true rfl) (Nat.le_of_ble_eq_true rfl) ?_
  refine lv_aload_n hx hb dJ1_toChars_9d188_14 rfl (lv_at hl 0 rfl) ?_
  refine W.widen (k := 1) (n := 16) (Nat.le_of_ble_eq_true rfl) (Nat.le_of_ble_eq_true rfl) ?_
  have hP9 := hP.sub (ws' := [(q2, .inl (cC, n, .inl g1))]) [0] rfl
  have hD9 := hD.sub (ws' := [(q2, .inl (cC, n, .inl g1))]) [0] (by decide) rfl
  exact W.aret hx hb hr (Or.inr ⟨_, rfl⟩) (Or.inr ⟨_, rfl⟩) (fun t ht hW => ⟨⟨(), q2, rfl, trivial, g1, by rw [ht]; exact hP9, va_K.moved hW.alike hK, hD9⟩, hS.F ht⟩) hS.2.2 dJ1_toChars_9d188_15

set_option maxHeartbeats 4000000 in
set_option maxRecDepth 100000 in
/-- String.isLatin1 of such a constant -/
theorem c_isLatin1 (l : Launch) (dC : Nat → ClassId) (dI : Nat → Nat → Nat) (cB cC cI cJ cZ : ClassId) (a : Nat)  (sz : Nat) : Met l yJ0_isLatin1_aae02 wsJ0_isLatin1_aae02 { frames := 0, cells := 0, slots := 0, locals := 0 } (va_Pc [.ref a] (fun U => U.heap.size = sz ∧ va_P (dC, dI) vwCl [] U.heap ∧ va_K (dC, dI) vwCl (TY cB cC cI cJ cZ) U ∧ va_D (fun _ => True) [] ∧ StrOK a (va_A [] sz) U U.heap)) (va_Qi (fun (r : Int32) (_ : Unit) => r = 1) (fun (_ : Unit) (t : State) => va_P (dC, dI) vwCl [] t.heap ∧ va_K (dC, dI) vwCl (TY cB cC cI cJ cZ) t ∧ va_D (va_A [] sz) []) (va_A [] sz)) 0 0 (va_A [] sz) := by
  refine Met.ofW (cc := cJ0_isLatin1_aae02) (maxL := 1) (ret := (some .boolean)) (by decide) rfl ?_
  intro p e s m args below meth c s₁ B hml hv
  obtain ⟨rfl, hsz, hP, hK, hD0, hX⟩ := hv
  have hx := B.exec
  have hb := B.bytes
  have hr := B.returns
  have hts := atoms_spec (ws := wsJ0_isLatin1_aae02) B.pre
  have hown : s.vm.findClass RJ0 = some m.cls := findClass_of_methodNamed B.named
  have hlocks := B.notSynchronized
  subst hsz
  have hD := hD0.self (sz := s.heap.size)
  generalize hAe : va_A [] s.heap.size = A at hD hX ⊢
  have hA : ∀ q : Nat, s.heap.size ≤ q → A q := fun q h => by rw [← hAe]; exact Or.inr h
  have hS : va_S A s.heap s.heap [] := va_S.rf
  have hP : va_P (dC, dI) vwCl [] s.heap := hP
  have hl := lv_entry ([.ref a]) (n := 1) (Nat.le_of_ble_eq_true rfl)
  rw [lg_entry_eq]
  generalize (lg_sl ([.ref a]) ++ List.replicate (1 - (lg_sl ([.ref a])).length) Slot.unset).toArray = ls at hl ⊢
  have hl : lv_has ls 1 [(0, .ref a)] := hl
  obtain ⟨hz, ho, hc, v, n, f, hn, hv, hT⟩ := hX
  refine va_gets hx hb hz hS hown (hts _ lkJ0_isLatin1_aae02_f38) (fun _ h9 => h9) dJ0_isLatin1_aae02_0 ?_
  refine lv_if_eq (tgt := 17) hx hb dJ0_isLatin1_aae02_3 (by decide) (fun q9 => absurd q9 (by decide)) (fun _ => ?_)
  refine lv_aload_n hx hb dJ0_isLatin1_aae02_6 rfl (lv_at hl 0 rfl) ?_
  refine vk_getf hx hb hc hS hown (hts _ lkJ0_isLatin1_aae02_f15) (fun _ h9 => h9) dJ0_isLatin1_aae02_7 ?_
  refine lv_if_ne (tgt := 17) hx hb dJ0_isLatin1_aae02_10 (by decide) (fun q9 => absurd q9 (by decide)) (fun _ => ?_)
  refine lv_iconst (v := 1) hx hb dJ0_isLatin1_aae02_13 (by decide) ?_
  refine lv_goto (tgt := 18) hx hb dJ0_isLatin1_aae02_14 (by decide) ?_
  refine W.widen (k := 0) (n := 0) (Nat.le_of_ble_eq_true rfl) (Nat.le_of_ble_eq_true rfl) ?_
  have hP9 := hP.sub (ws' := []) [] rfl
  have hD9 := hD.sub (ws' := []) [] (by decide) rfl
  exact W.zret (v := 1) hx hb hr (by rfl) (fun t ht hW => ⟨⟨1, (), rfl, rfl, by rw [ht]; exact hP9, va_K.moved hW.alike hK, hD9⟩, hS.F ht⟩) hS.2.2 dJ0_isLatin1_aae02_18

set_option maxHeartbeats 4000000 in
set_option maxRecDepth 100000 in
/-- String.toCharArray of such a constant -/
theorem c_toCharArray (l : Launch) (dC : Nat → ClassId) (dI : Nat → Nat → Nat) (cB cC cI cJ cZ : ClassId) (a : Nat)  (sz : Nat) : Met l yJ0_toCharArray_70df3 wsJ0_toCharArray_70df3 { frames := 2, cells := 1, slots := 16, locals := 46 } (va_Pc [.ref a] (fun U => U.heap.size = sz ∧ va_P (dC, dI) vwCl [] U.heap ∧ va_K (dC, dI) vwCl (TY cB cC cI cJ cZ) U ∧ va_D (fun _ => True) [] ∧ StrOK a (va_A [] sz) U U.heap)) (va_Qr (fun (_ : Unit) => True) (fun (_ : Unit) (ra : Nat) (t : State) => ∃ (n : Nat), ∃ (g : Nat → Int32), n ≤ 16 ∧ va_P (dC, dI) vwCl [(ra, .inl (cC, n, .inl g))] t.heap ∧ va_K (dC, dI) vwCl (TY cB cC cI cJ cZ) t ∧ va_D (va_A [] sz) [(ra, .inl (cC, n, .inl g))]) (va_A [] sz)) 1 16 (va_A [] sz) := by
  refine Met.ofW (cc := cJ0_toCharArray_70df3) (maxL := 1) (ret := (some (.array .char))) (by decide) rfl ?_
  intro p e s m args below meth c s₁ B hml hv
  obtain ⟨rfl, hsz, hP, hK, hD0, hX⟩ := hv
  have hx := B.exec
  have hb := B.bytes
  have hr := B.returns
  have hts := atoms_spec (ws := wsJ0_toCharArray_70df3) B.pre
  have hown : s.vm.findClass RJ0 = some m.cls := findClass_of_methodNamed B.named
  have hlocks := B.notSynchronized
  subst hsz
  have hD := hD0.self (sz := s.heap.size)
  generalize hAe : va_A [] s.heap.size = A at hD hX ⊢
  have hA : ∀ q : Nat, s.heap.size ≤ q → A q := fun q h => by rw [← hAe]; exact Or.inr h
  have hS : va_S A s.heap s.heap [] := va_S.rf
  have hP : va_P (dC, dI) vwCl [] s.heap := hP
  have hl := lv_entry ([.ref a]) (n := 1) (Nat.le_of_ble_eq_true rfl)
  rw [lg_entry_eq]
  generalize (lg_sl ([.ref a]) ++ List.replicate (1 - (lg_sl ([.ref a])).length) Slot.unset).toArray = ls at hl ⊢
  have hl : lv_has ls 1 [(0, .ref a)] := hl
  obtain ⟨hz, ho, hc, v, n, f, hn, hv, hT⟩ := id hX
  refine lv_aload_n hx hb dJ0_toCharArray_70df3_0 rfl (lv_at hl 0 rfl) ?_
  have hPc : va_P (dC, dI) vwCl [] H := hP.sub (ws' := []) [] rfl
  have hDc : va_D A [] := hD.sub (ws' := []) [] (by decide) rfl
  have hFc := va_free (wc := []) hD hS hA [] rfl
  refine va_calli (va_runV (As := []) (rest := []) ⟨hx, hb, hml, hown, hts⟩ (c_isLatin1 l dC dI cB cC cI cJ cZ a  H.size) (cwV 0 hts gJ0_toCharArray_70df3_J0_isLatin1_aae02 rfl rfl rfl (by decide +kernel) ⟨Nat.le_of_ble_eq_true rfl, Nat.le_of_ble_eq_true rfl⟩) ⟨fun a U g mk q => by obtain ⟨q0, q1, qP, qK, qD, qX⟩ := q; exact ⟨q0, q1, qP, va_K.moved (u := U) (U := U.calling g mk a) (Vm.Alike.refl U.vm) qK, qD, qX.moved (u := U) (U := U.calling g mk a) (Vm.Alike.refl U.vm)⟩, (by obtain ⟨cell, q1, q2, q3, -⟩ := ho.kept hS.2.1; exact ⟨cell, q1, q2, q3⟩), fun U hU hW => ⟨rfl, by rw [hU], by rw [hU]; exact hPc, va_K.moved hW.alike hK, hDc.weaken (fun _ _ _ _ => trivial), by rw [hU]; exact (((hX.kept hS.2.1).narrow hFc).moved hW.alike)⟩⟩ rfl rfl hl.1 rfl (lv_room (Nat.le_of_ble_eq_true rfl)) dJ0_toCharArray_70df3_1 ⟨Nat.le_of_ble_eq_true rfl, Nat.le_of_ble_eq_true rfl⟩) hS (fun q _ h => hFc q h) hFc (fun r1 _u t H locs ht hvm hw hB hz1 hk1 hS => ?_)
  obtain ⟨hP1, hK1, hD1⟩ := hB
  rw [ht] at hP1
  obtain ⟨hP, hD⟩ := va_join (wr := []) (w1 := []) hP hD [] [] rfl rfl (by decide) (by decide) hk1 hFc hP1 hD1
  have hP : va_P (dC, dI) vwCl [] H := hP
  have hD : va_D A [] := hD
  refine W.widen (k := 0) (n := 0) (Nat.le_of_ble_eq_true rfl) (Nat.le_of_ble_eq_true rfl) ?_
  subst hw
  refine lv_if_eq (tgt := 17) hx hb dJ0_toCharArray_70df3_4 (by decide) (fun q9 => absurd q9 (by decide)) (fun _ => ?_)
  refine lv_aload_n hx hb dJ0_toCharArray_70df3_7 rfl (lv_at hl 0 rfl) ?_
  refine vk_getf hx hb hv hS hown (hts _ lkJ0_toCharArray_70df3_f9) (fun _ h9 => h9) dJ0_toCharArray_70df3_8 ?_
  have hPc : va_P (dC, dI) vwCl [] H := hP.sub (ws' := []) [] rfl
  have hDc : va_D A [] := hD.sub (ws' := []) [] (by decide) rfl
  have hFc := va_free (wc := []) hD hS hA [] rfl
  refine va_callr (va_runS (As := [.ref v]) (rest := []) ⟨hx, hb, hml, hown, hts⟩ (c_toChars l dC dI cB cC cI cJ cZ v n f hn H.size) (va_cwS 1 hts gJ0_toCharArray_70df3_J1_toChars_9d188 rfl rfl rfl (by decide +kernel) ⟨Nat.le_of_ble_eq_true rfl, Nat.le_of_ble_eq_true rfl⟩) ⟨fun a U g mk q => by obtain ⟨q0, q1, qP, qK, qD, qX⟩ := q; exact ⟨q0, q1, qP, va_K.moved (u := U) (U := U.calling g mk a) (Vm.Alike.refl U.vm) qK, qD, va_T.moved (u := U) (U := U.calling g mk a) (Vm.Alike.refl U.vm) qX⟩, fun U hU hW => ⟨rfl, by rw [hU], by rw [hU]; exact hPc, va_K.moved hW.alike hK, hDc.weaken (fun _ _ _ _ => trivial), by rw [hU]; exact va_T.moved hW.alike ((hT.kept hS.2.1).narrow hFc)⟩⟩ rfl rfl hl.1 rfl (lv_room (Nat.le_of_ble_eq_true rfl)) dJ0_toCharArray_70df3_11 ⟨Nat.le_of_ble_eq_true rfl, Nat.le_of_ble_eq_true rfl⟩) hS (fun q _ h => hFc q h) hFc (fun _u q2 t H locs ht hvm hw hB hz1 hk1 hS => ?_)
  obtain ⟨g3, hP1, hK1, hD1⟩ := hB
  rw [ht] at hP1
  obtain ⟨hP, hD⟩ := va_join (wr := []) (w1 := [(q2, .inl (cC, n, .inl g3))]) hP hD [] [] rfl rfl (by decide) (by decide) hk1 hFc hP1 hD1
  have hP : va_P (dC, dI) vwCl [(q2, .inl (cC, n, .inl g3))] H := hP
  have hD : va_D A [(q2, .inl (cC, n, .inl g3))] := hD
  refine W.widen (k := 1) (n := 16) (Nat.le_of_ble_eq_true rfl) (Nat.le_of_ble_eq_true rfl) ?_
  refine lv_goto (tgt := 24) hx hb dJ0_toCharArray_70df3_14 (by decide) ?_
  refine W.widen (k := 1) (n := 16) (Nat.le_of_ble_eq_true rfl) (Nat.le_of_ble_eq_true rfl) ?_
  have hP9 := hP.sub (ws' := [(q2, .inl (cC, n, .inl g3))]) [0] rfl
  have hD9 := hD.sub (ws' := [(q2, .inl (cC, n, .inl g3))]) [0] (by decide) rfl
  exact W.aret hx hb hr (Or.inr ⟨_, rfl⟩) (Or.inr ⟨_, rfl⟩) (fun t ht hW => ⟨⟨(), q2, rfl, trivial, n, g3, hn, by rw [ht]; exact hP9, va_K.moved hW.alike hK, hD9⟩, hS.F ht⟩) hS.2.2 dJ0_toCharArray_70df3_24
end
section
theorem lkX6_addName_f47 : Cond.fieldLink RX6 47 "MacroScopes$Names" "top" "I" ∈ wsX6_addName := by decide +kernel
theorem inX6_addName_X6 : ∀ w ∈ wsX60, w ∈ wsX6_addName := fun w h => List.mem_cons_of_mem _ (List.mem_append_right _ h)
theorem lkX6_addName_f32 : Cond.fieldLink RX6 32 "MacroScopes$Names" "original" "[I" ∈ wsX6_addName := by decide +kernel
theorem lkX6_addName_f35 : Cond.fieldLink RX6 35 "MacroScopes$Names" "home" "[I" ∈ wsX6_addName := by decide +kernel
theorem lkX6_addName_f38 : Cond.fieldLink RX6 38 "MacroScopes$Names" "binding" "[I" ∈ wsX6_addName := by decide +kernel
theorem lkX6_addName_f41 : Cond.fieldLink RX6 41 "MacroScopes$Names" "mark" "[I" ∈ wsX6_addName := by decide +kernel
theorem lkX6_addSymbol_f25 : Cond.fieldLink RX6 25 "MacroScopes$Names" "symbols" "I" ∈ wsX6_addSymbol := by decide +kernel
theorem inX6_addSymbol_X6 : ∀ w ∈ wsX60, w ∈ wsX6_addSymbol := fun w h => List.mem_cons_of_mem _ (List.mem_append_right _ h)
theorem lkX6_addSymbol_f9 : Cond.fieldLink RX6 9 "MacroScopes$Names" "firstHalf" "[J" ∈ wsX6_addSymbol := by decide +kernel
theorem lkX6_addSymbol_f15 : Cond.fieldLink RX6 15 "MacroScopes$Names" "secondHalf" "[J" ∈ wsX6_addSymbol := by decide +kernel
theorem lkX6_addSymbol_f18 : Cond.fieldLink RX6 18 "MacroScopes$Names" "rules" "[I" ∈ wsX6_addSymbol := by decide +kernel
theorem lkX6_init_o3 : Cond.methodLink RX6 3 objectInit ∈ wsX6_init := by decide +kernel
theorem lkX6_init_oi : Cond.instanceMethod objectInit ∈ wsX6_init := by decide +kernel
theorem lkX6_init_oc : Cond.code objectInit ⟨#[0xb1]⟩ 1 none ∈ wsX6_init := by decide +kernel
theorem lkX6_init_along : Cond.arrayClass .long ∈ wsX6_init := by decide +kernel
theorem lkX6_init_f9 : Cond.fieldLink RX6 9 "MacroScopes$Names" "firstHalf" "[J" ∈ wsX6_init := by decide +kernel
theorem inX6_init_X6 : ∀ w ∈ wsX60, w ∈ wsX6_init := fun w h => List.mem_cons_of_mem _ (List.mem_append_right _ h)
theorem lkX6_init_f15 : Cond.fieldLink RX6 15 "MacroScopes$Names" "secondHalf" "[J" ∈ wsX6_init := by decide +kernel
theorem lkX6_init_aint : Cond.arrayClass .int ∈ wsX6_init := by decide +kernel
theorem lkX6_init_f18 : Cond.fieldLink RX6 18 "MacroScopes$Names" "rules" "[I" ∈ wsX6_init := by decide +kernel
theorem lkX6_init_f22 : Cond.fieldLink RX6 22 "MacroScopes$Names" "rulesBefore" "[I" ∈ wsX6_init := by decide +kernel
theorem lkX6_init_f25 : Cond.fieldLink RX6 25 "MacroScopes$Names" "symbols" "I" ∈ wsX6_init := by decide +kernel
theorem lkX6_init_f29 : Cond.fieldLink RX6 29 "MacroScopes$Names" "symbolsBefore" "I" ∈ wsX6_init := by decide +kernel
theorem lkX6_init_f32 : Cond.fieldLink RX6 32 "MacroScopes$Names" "original" "[I" ∈ wsX6_init := by decide +kernel
theorem lkX6_init_f35 : Cond.fieldLink RX6 35 "MacroScopes$Names" "home" "[I" ∈ wsX6_init := by decide +kernel
theorem lkX6_init_f38 : Cond.fieldLink RX6 38 "MacroScopes$Names" "binding" "[I" ∈ wsX6_init := by decide +kernel
theorem lkX6_init_f41 : Cond.fieldLink RX6 41 "MacroScopes$Names" "mark" "[I" ∈ wsX6_init := by decide +kernel
theorem lkX6_init_f44 : Cond.fieldLink RX6 44 "MacroScopes$Names" "note" "[I" ∈ wsX6_init := by decide +kernel
theorem lkX6_init_f47 : Cond.fieldLink RX6 47 "MacroScopes$Names" "top" "I" ∈ wsX6_init := by decide +kernel
theorem lkX6_init_f50 : Cond.fieldLink RX6 50 "MacroScopes$Names" "latestMark" "I" ∈ wsX6_init := by decide +kernel
set_option maxHeartbeats 4000000 in
set_option maxRecDepth 100000 in
theorem lp_half {p : Program} {l : Launch} {e : Env} {R : Room} {s : State} {m : MethodId} {args : Array Value} {below : List Frame} {meth : Method} {c : Code} {Q : State → Prop} {A : Nat → Prop} {dC : Nat → ClassId} {dI : Nat → Nat → Nat} {cB cC cI cJ cZ : ClassId} {cells slots : Nat} (hx : p.tables.exec = Jvm.exec) (hb : c.code = cX6_half) (hml : c.maxLocals = 6) (hown : s.vm.findClass RX6 = some m.cls) (hts : ∀ w ∈ wsX6_half, w.before args s = true) (hK : va_K (dC, dI) vwCl (TY cB cC cI cJ cZ) s) (hA : ∀ q : Nat, s.heap.size ≤ q → A q) (h1 n : Nat) (f : Nat → Int32) (p1 p2 : Int32) (hn : n ≤ 16) (kk : ∀ (y : Int64) (H : Heap) (locs : List Loc), va_P (dC, dI) vwCl [(h1, .inl (cC, n, .inl f))] H → va_D A [(h1, .inl (cC, n, .inl f))] → va_S A s.heap H locs → ∀ (ls : Array Slot), lv_has ls 6 [(3, .long y)] → W p l e R s m args below meth c H locs cells slots Q (F0 m 49 ls [])) : ∀ (k : Nat) (x : Int32) (y : Int64), n - x.toNatClampNeg < k → ∀ (H : Heap) (locs : List Loc), va_P (dC, dI) vwCl [(h1, .inl (cC, n, .inl f))] H → va_D A [(h1, .inl (cC, n, .inl f))] → va_S A s.heap H locs → ∀ (ls : Array Slot), lv_has ls 6 [(0, .ref h1), (1, .int p1), (2, .int p2), (3, .long y), (5, .int x)] → W p l e R s m args below meth c H locs cells slots Q (F0 m 5 ls []) := by
  intro k
  induction k with
  | zero =>
    intro x y hk
    omega
  | succ k ih =>
    intro x y hk H locs hP hD hS ls hl
    refine lv_iload hx hb dX6_half_5 (lv_at hl 4 rfl) ?_
    refine lv_iload_n hx hb dX6_half_7 rfl (lv_at hl 2 rfl) ?_
    refine lv_icmp_ge (tgt := 49) hx hb dX6_half_8 (by decide) (fun c1 => ?_) (fun c1 => ?_)
    · exact kk y H locs (hP.sub [0] rfl) (hD.sub [0] (by decide) rfl) hS ls (lv_sub hl [3] rfl)
    · refine lv_iload hx hb dX6_half_11 (lv_at hl 4 rfl) ?_
      refine lv_iload_n hx hb dX6_half_13 rfl (lv_at hl 1 rfl) ?_
      refine lv_bipush (v := 8) hx hb dX6_half_14 (by decide) ?_
      refine lv_iadd hx hb dX6_half_16 ?_
      refine lv_icmp_ge (tgt := 49) hx hb dX6_half_17 (by decide) (fun c2 => ?_) (fun c2 => ?_)
      · exact kk y H locs (hP.sub [0] rfl) (hD.sub [0] (by decide) rfl) hS ls (lv_sub hl [3] rfl)
      · refine lv_iload hx hb dX6_half_20 (lv_at hl 4 rfl) ?_
        refine lv_if_lt (tgt := 49) hx hb dX6_half_22 (by decide) (fun c3 => ?_) (fun c3 => ?_)
        · exact kk y H locs (hP.sub [0] rfl) (hD.sub [0] (by decide) rfl) hS ls (lv_sub hl [3] rfl)
        · refine lv_iload hx hb dX6_half_25 (lv_at hl 4 rfl) ?_
          refine lv_aload_n hx hb dX6_half_27 rfl (lv_at hl 0 rfl) ?_
          refine va_alen hx hb hK hP 0 1 rfl rfl (v := nI n) rfl dX6_half_28 ?_
          refine lv_icmp_ge (tgt := 49) hx hb dX6_half_29 (by decide) (fun c4 => ?_) (fun c4 => ?_)
          · exact kk y H locs (hP.sub [0] rfl) (hD.sub [0] (by decide) rfl) hS ls (lv_sub hl [3] rfl)
          · obtain ⟨j, hj, ej, ej1, ecl, hm⟩ := pk_mu c3 c4 (by omega)
            have hin1 : vp_in x n := by rw [ej]; exact vp_in_nI hj (by omega)
            refine lv_lload_n hx hb dX6_half_32 rfl (lv_at hl 3 rfl) ?_
            refine lv_bipush (v := 8) hx hb dX6_half_33 (by decide) ?_
            refine lv_lshl hx hb dX6_half_35 rfl ?_
            refine lv_aload_n hx hb dX6_half_36 rfl (lv_at hl 0 rfl) ?_
            refine lv_iload hx hb dX6_half_37 (lv_at hl 4 rfl) ?_
            refine va_cald hx hb hK hP 0 1 rfl rfl (hin1) dX6_half_39 ?_
            refine lv_topi (fun x1 ex1 => ?_)
            refine lv_i2l hx hb dX6_half_40 rfl ?_
            refine lv_lor hx hb dX6_half_41 ?_
            refine lv_topl (fun x2 ex2 => ?_)
            refine lv_lstore_n (lv' := [(3, .long x2), (0, .ref h1), (1, .int p1), (2, .int p2), (5, .int x)]) hx hb dX6_half_42 rfl hl (by decide) rfl (fun ls hl => ?_)
            obtain ⟨x3, ex3⟩ : ∃ y : Int32, y = x + 1 := ⟨_, rfl⟩
            refine lv_iinc (v := x3) (lv' := [(5, .int x3), (3, .long x2), (0, .ref h1), (1, .int p1), (2, .int p2)]) hx hb dX6_half_43 hl (k := 4) rfl (by rw [ex3]; rfl) (by decide) rfl (fun ls hl => ?_)
            refine lv_goto (tgt := 5) hx hb dX6_half_46 (by decide) ?_
            exact ih x3 x2 (by rw [ex3]; omega) _ _ (hP.sub [0] rfl) (hD.sub [0] (by decide) rfl) hS ls (lv_sub hl [2, 3, 4, 1, 0] rfl)

set_option maxHeartbeats 4000000 in
set_option maxRecDepth 100000 in
/-- half: some number -/
theorem c_half (l : Launch) (dC : Nat → ClassId) (dI : Nat → Nat → Nat) (cB cC cI cJ cZ : ClassId) (h1 n : Nat) (f : Nat → Int32) (p1 p2 : Int32) (hn : n ≤ 16) (sz : Nat) : Met l yX6_half wsX6_half { frames := 0, cells := 0, slots := 0, locals := 0 } (va_Pc [.ref h1, .int p1, .int p2] (fun U => U.heap.size = sz ∧ va_P (dC, dI) vwCl [(h1, .inl (cC, n, .inl f))] U.heap ∧ va_K (dC, dI) vwCl (TY cB cC cI cJ cZ) U ∧ va_D (fun _ => True) [(h1, .inl (cC, n, .inl f))])) (va_Ql (fun (r : Int64) (_ : Unit) => True) (fun (_ : Unit) (t : State) => va_P (dC, dI) vwCl [(h1, .inl (cC, n, .inl f))] t.heap ∧ va_K (dC, dI) vwCl (TY cB cC cI cJ cZ) t ∧ va_D (va_A [(h1, .inl (cC, n, .inl f))] sz) [(h1, .inl (cC, n, .inl f))]) (va_A [(h1, .inl (cC, n, .inl f))] sz)) 0 0 (va_A [(h1, .inl (cC, n, .inl f))] sz) := by
  refine Met.ofW (cc := cX6_half) (maxL := 6) (ret := (some .long)) (by decide) rfl ?_
  intro p e s m args below meth c s₁ B hml hv
  obtain ⟨rfl, hsz, hP, hK, hD0⟩ := hv
  have hx := B.exec
  have hb := B.bytes
  have hr := B.returns
  have hts := atoms_spec (ws := wsX6_half) B.pre
  have hown : s.vm.findClass RX6 = some m.cls := findClass_of_methodNamed B.named
  have hlocks := B.notSynchronized
  subst hsz
  have hD := hD0.self (sz := s.heap.size)
  generalize hAe : va_A [(h1, .inl (cC, n, .inl f))] s.heap.size = A at hD ⊢
  have hA : ∀ q : Nat, s.heap.size ≤ q → A q := fun q h => by rw [← hAe]; exact Or.inr h
  have hS : va_S A s.heap s.heap [] := va_S.rf
  have hP : va_P (dC, dI) vwCl [(h1, .inl (cC, n, .inl f))] s.heap := hP
  have hl := lv_entry ([.ref h1, .int p1, .int p2]) (n := 6) (Nat.le_of_ble_eq_true rfl)
  rw [lg_entry_eq]
  generalize (lg_sl ([.ref h1, .int p1, .int p2]) ++ List.replicate (6 - (lg_sl ([.ref h1, .int p1, .int p2])).length) Slot.unset).toArray = ls at hl ⊢
  have hl : lv_has ls 6 [(0, .ref h1), (1, .int p1), (2, .int p2)] := hl
  refine lv_lconst (v := 0) hx hb dX6_half_0 (by decide) ?_
  refine lv_lstore_n (lv' := [(3, .long 0), (0, .ref h1), (1, .int p1), (2, .int p2)]) hx hb dX6_half_1 rfl hl (by decide) rfl (fun ls hl => ?_)
  refine lv_iload_n hx hb dX6_half_2 rfl (lv_at hl 2 rfl) ?_
  refine lv_istore (lv' := [(5, .int p1), (3, .long 0), (0, .ref h1), (1, .int p1), (2, .int p2)]) hx hb dX6_half_3 hl (by decide) rfl (fun ls hl => ?_)
  refine lp_half hx hb hml hown hts hK hA h1 n f p1 p2 hn (fun y H locs hP hD hS ls hl => ?_) (n - p1.toNatClampNeg + 1) p1 0 (Nat.lt_succ_self _) _ _ (hP.sub [0] rfl) (hD.sub [0] (by decide) rfl) hS ls (lv_sub hl [2, 3, 4, 1, 0] rfl)
  refine lv_lload_n hx hb dX6_half_49 rfl (lv_at hl 0 rfl) ?_
  refine W.widen (k := 0) (n := 0) (Nat.le_of_ble_eq_true rfl) (Nat.le_of_ble_eq_true rfl) ?_
  have hP9 := hP.sub (ws' := [(h1, .inl (cC, n, .inl f))]) [0] rfl
  have hD9 := hD.sub (ws' := [(h1, .inl (cC, n, .inl f))]) [0] (by decide) rfl
  exact W.lret (v := y) hx hb hr (fun t ht hW => ⟨⟨y, (), rfl, trivial, by rw [ht]; exact hP9, va_K.moved hW.alike hK, hD9⟩, hS.F ht⟩) hS.2.2 dX6_half_50

set_option maxHeartbeats 4000000 in
set_option maxRecDepth 100000 in
/-- addName: one name more -/
theorem c_addName (l : Launch) (dC : Nat → ClassId) (dI : Nat → Nat → Nat) (cB cC cI cJ cZ : ClassId) (h0 a0 a1 a2 a3 a6 a7 a8 a9 a10 : Nat) (sy sb tp lm : Int32) (f6 f7 f8 f9 : Nat → Int32) (p1 p2 : Int32) (kt : Nat) (hkt : kt < 3760) (htp : tp = nI kt) (sz : Nat) : Met l yX6_addName wsX6_addName { frames := 0, cells := 0, slots := 0, locals := 0 } (va_Pc [.ref h0, .int p1, .int p2] (fun U => U.heap.size = sz ∧ va_P (dC, dI) vwCl [(h0, .inr (6, [.ref a0, .ref a1, .ref a2, .ref a3, .int sy, .int sb, .ref a6, .ref a7, .ref a8, .ref a9, .ref a10, .int tp, .int lm])), (a6, .inl (cI, 3760, .inl f6)), (a7, .inl (cI, 3760, .inl f7)), (a8, .inl (cI, 3760, .inl f8)), (a9, .inl (cI, 3760, .inl f9))] U.heap ∧ va_K (dC, dI) vwCl (TY cB cC cI cJ cZ) U ∧ va_D (fun _ => True) [(h0, .inr (6, [.ref a0, .ref a1, .ref a2, .ref a3, .int sy, .int sb, .ref a6, .ref a7, .ref a8, .ref a9, .ref a10, .int tp, .int lm])), (a6, .inl (cI, 3760, .inl f6)), (a7, .inl (cI, 3760, .inl f7)), (a8, .inl (cI, 3760, .inl f8)), (a9, .inl (cI, 3760, .inl f9))])) (va_Qi (fun (r : Int32) (_ : Unit) => True) (fun (_ : Unit) (t : State) => ∃ (tp1 : Int32), ∃ (g6 : Nat → Int32), ∃ (g7 : Nat → Int32), ∃ (g8 : Nat → Int32), ∃ (g9 : Nat → Int32), tp1 = nI (kt + 1) ∧ va_P (dC, dI) vwCl [(h0, .inr (6, [.ref a0, .ref a1, .ref a2, .ref a3, .int sy, .int sb, .ref a6, .ref a7, .ref a8, .ref a9, .ref a10, .int tp1, .int lm])), (a6, .inl (cI, 3760, .inl g6)), (a7, .inl (cI, 3760, .inl g7)), (a8, .inl (cI, 3760, .inl g8)), (a9, .inl (cI, 3760, .inl g9))] t.heap ∧ va_K (dC, dI) vwCl (TY cB cC cI cJ cZ) t ∧ va_D (va_A [(h0, .inr (6, [.ref a0, .ref a1, .ref a2, .ref a3, .int sy, .int sb, .ref a6, .ref a7, .ref a8, .ref a9, .ref a10, .int tp, .int lm])), (a6, .inl (cI, 3760, .inl f6)), (a7, .inl (cI, 3760, .inl f7)), (a8, .inl (cI, 3760, .inl f8)), (a9, .inl (cI, 3760, .inl f9))] sz) [(h0, .inr (6, [.ref a0, .ref a1, .ref a2, .ref a3, .int sy, .int sb, .ref a6, .ref a7, .ref a8, .ref a9, .ref a10, .int tp1, .int lm])), (a6, .inl (cI, 3760, .inl g6)), (a7, .inl (cI, 3760, .inl g7)), (a8, .inl (cI, 3760, .inl g8)), (a9, .inl (cI, 3760, .inl g9))]) (va_A [(h0, .inr (6, [.ref a0, .ref a1, .ref a2, .ref a3, .int sy, .int sb, .ref a6, .ref a7, .ref a8, .ref a9, .ref a10, .int tp, .int lm])), (a6, .inl (cI, 3760, .inl f6)), (a7, .inl (cI, 3760, .inl f7)), (a8, .inl (cI, 3760, .inl f8)), (a9, .inl (cI, 3760, .inl f9))] sz)) 0 0 (va_A [(h0, .inr (6, [.ref a0, .ref a1, .ref a2, .ref a3, .int sy, .int sb, .ref a6, .ref a7, .ref a8, .ref a9, .ref a10, .int tp, .int lm])), (a6, .inl (cI, 3760, .inl f6)), (a7, .inl (cI, 3760, .inl f7)), (a8, .inl (cI, 3760, .inl f8)), (a9, .inl (cI, 3760, .inl f9))] sz) := by
  refine Met.ofW (cc := cX6_addName) (maxL := 3) (ret := (some .int)) (by decide) rfl ?_
  intro p e s m args below meth c s₁ B hml hv
  obtain ⟨rfl, hsz, hP, hK, hD0⟩ := hv
  have hx := B.exec
  have hb := B.bytes
  have hr := B.returns
  have hts := atoms_spec (ws := wsX6_addName) B.pre
  have hown : s.vm.findClass RX6 = some m.cls := findClass_of_methodNamed B.named
  have hlocks := B.notSynchronized
  subst hsz
  have hD := hD0.self (sz := s.heap.size)
  generalize hAe : va_A [(h0, .inr (6, [.ref a0, .ref a1, .ref a2, .ref a3, .int sy, .int sb, .ref a6, .ref a7, .ref a8, .ref a9, .ref a10, .int tp, .int lm])), (a6, .inl (cI, 3760, .inl f6)), (a7, .inl (cI, 3760, .inl f7)), (a8, .inl (cI, 3760, .inl f8)), (a9, .inl (cI, 3760, .inl f9))] s.heap.size = A at hD ⊢
  have hA : ∀ q : Nat, s.heap.size ≤ q → A q := fun q h => by rw [← hAe]; exact Or.inr h
  have hS : va_S A s.heap s.heap [] := va_S.rf
  have hP : va_P (dC, dI) vwCl [(h0, .inr (6, [.ref a0, .ref a1, .ref a2, .ref a3, .int sy, .int sb, .ref a6, .ref a7, .ref a8, .ref a9, .ref a10, .int tp, .int lm])), (a6, .inl (cI, 3760, .inl f6)), (a7, .inl (cI, 3760, .inl f7)), (a8, .inl (cI, 3760, .inl f8)), (a9, .inl (cI, 3760, .inl f9))] s.heap := hP
  have hl := lv_entry ([.ref h0, .int p1, .int p2]) (n := 3) (Nat.le_of_ble_eq_true rfl)
  rw [lg_entry_eq]
  generalize (lg_sl ([.ref h0, .int p1, .int p2]) ++ List.replicate (3 - (lg_sl ([.ref h0, .int p1, .int p2])).length) Slot.unset).toArray = ls at hl ⊢
  have hl : lv_has ls 3 [(0, .ref h0), (1, .int p1), (2, .int p2)] := hl
  have hin1 : vp_in tp 3760 := by rw [htp]; exact vp_in_nI hkt (by decide)
  refine lv_aload_n hx hb dX6_addName_0 rfl (lv_at hl 0 rfl) ?_
  refine va_get (D := (dC, dI)) (ci := 6) (v := .int tp) (C := RX6) (T := TX6) (N := 13) hx hb hts inX6_addName_X6 hown hK hP 0 rfl rfl 11 (by decide) (hts _ lkX6_addName_f47) (fun _ h9 => h9) rfl dX6_addName_1 ?_
  refine lv_aload_n hx hb dX6_addName_4 rfl (lv_at hl 0 rfl) ?_
  refine va_get (D := (dC, dI)) (ci := 6) (v := .ref a6) (C := RX6) (T := TX6) (N := 13) hx hb hts inX6_addName_X6 hown hK hP 0 rfl rfl 6 (by decide) (hts _ lkX6_addName_f32) (fun _ h9 => h9) rfl dX6_addName_5 ?_
  refine va_alen hx hb hK hP 1 2 rfl rfl (v := 3760) rfl dX6_addName_8 ?_
  refine lv_icmp_lt (tgt := 14) hx hb dX6_addName_9 (by decide) (fun _ => ?_) (fun q9 => absurd (by rw [htp]; exact nI_lt hkt (by decide)) q9)
  refine lv_aload_n hx hb dX6_addName_14 rfl (lv_at hl 0 rfl) ?_
  refine va_get (D := (dC, dI)) (ci := 6) (v := .ref a6) (C := RX6) (T := TX6) (N := 13) hx hb hts inX6_addName_X6 hown hK hP 0 rfl rfl 6 (by decide) (hts _ lkX6_addName_f32) (fun _ h9 => h9) rfl dX6_addName_15 ?_
  refine lv_aload_n hx hb dX6_addName_18 rfl (lv_at hl 0 rfl) ?_
  refine va_get (D := (dC, dI)) (ci := 6) (v := .int tp) (C := RX6) (T := TX6) (N := 13) hx hb hts inX6_addName_X6 hown hK hP 0 rfl rfl 11 (by decide) (hts _ lkX6_addName_f47) (fun _ h9 => h9) rfl dX6_addName_19 ?_
  refine lv_iload_n hx hb dX6_addName_22 rfl (lv_at hl 1 rfl) ?_
  refine va_iast hx hb hK hP hD hS 1 2 rfl rfl (hin1) dX6_addName_23 (fun H locs hP hD hS => ?_)
  have hP : va_P (dC, dI) vwCl [(h0, .inr (6, [.ref a0, .ref a1, .ref a2, .ref a3, .int sy, .int sb, .ref a6, .ref a7, .ref a8, .ref a9, .ref a10, .int tp, .int lm])), (a6, .inl (cI, 3760, .inl (upd f6 tp.toNatClampNeg p1))), (a7, .inl (cI, 3760, .inl f7)), (a8, .inl (cI, 3760, .inl f8)), (a9, .inl (cI, 3760, .inl f9))] H := hP
  have hD : va_D A [(h0, .inr (6, [.ref a0, .ref a1, .ref a2, .ref a3, .int sy, .int sb, .ref a6, .ref a7, .ref a8, .ref a9, .ref a10, .int tp, .int lm])), (a6, .inl (cI, 3760, .inl (upd f6 tp.toNatClampNeg p1))), (a7, .inl (cI, 3760, .inl f7)), (a8, .inl (cI, 3760, .inl f8)), (a9, .inl (cI, 3760, .inl f9))] := hD
  generalize ef1 : upd f6 tp.toNatClampNeg p1 = f1 at hP hD
  refine lv_aload_n hx hb dX6_addName_24 rfl (lv_at hl 0 rfl) ?_
  refine va_get (D := (dC, dI)) (ci := 6) (v := .ref a7) (C := RX6) (T := TX6) (N := 13) hx hb hts inX6_addName_X6 hown hK hP 0 rfl rfl 7 (by decide) (hts _ lkX6_addName_f35) (fun _ h9 => h9) rfl dX6_addName_25 ?_
  refine lv_aload_n hx hb dX6_addName_28 rfl (lv_at hl 0 rfl) ?_
  refine va_get (D := (dC, dI)) (ci := 6) (v := .int tp) (C := RX6) (T := TX6) (N := 13) hx hb hts inX6_addName_X6 hown hK hP 0 rfl rfl 11 (by decide) (hts _ lkX6_addName_f47) (fun _ h9 => h9) rfl dX6_addName_29 ?_
  refine lv_iload_n hx hb dX6_addName_32 rfl (lv_at hl 2 rfl) ?_
  refine va_iast hx hb hK hP hD hS 2 2 rfl rfl (hin1) dX6_addName_33 (fun H locs hP hD hS => ?_)
  have hP : va_P (dC, dI) vwCl [(h0, .inr (6, [.ref a0, .ref a1, .ref a2, .ref a3, .int sy, .int sb, .ref a6, .ref a7, .ref a8, .ref a9, .ref a10, .int tp, .int lm])), (a6, .inl (cI, 3760, .inl f1)), (a7, .inl (cI, 3760, .inl (upd f7 tp.toNatClampNeg p2))), (a8, .inl (cI, 3760, .inl f8)), (a9, .inl (cI, 3760, .inl f9))] H := hP
  have hD : va_D A [(h0, .inr (6, [.ref a0, .ref a1, .ref a2, .ref a3, .int sy, .int sb, .ref a6, .ref a7, .ref a8, .ref a9, .ref a10, .int tp, .int lm])), (a6, .inl (cI, 3760, .inl f1)), (a7, .inl (cI, 3760, .inl (upd f7 tp.toNatClampNeg p2))), (a8, .inl (cI, 3760, .inl f8)), (a9, .inl (cI, 3760, .inl f9))] := hD
  generalize ef2 : upd f7 tp.toNatClampNeg p2 = f2 at hP hD
  refine lv_aload_n hx hb dX6_addName_34 rfl (lv_at hl 0 rfl) ?_
  refine va_get (D := (dC, dI)) (ci := 6) (v := .ref a8) (C := RX6) (T := TX6) (N := 13) hx hb hts inX6_addName_X6 hown hK hP 0 rfl rfl 8 (by decide) (hts _ lkX6_addName_f38) (fun _ h9 => h9) rfl dX6_addName_35 ?_
  refine lv_aload_n hx hb dX6_addName_38 rfl (lv_at hl 0 rfl) ?_
  refine va_get (D := (dC, dI)) (ci := 6) (v := .int tp) (C := RX6) (T := TX6) (N := 13) hx hb hts inX6_addName_X6 hown hK hP 0 rfl rfl 11 (by decide) (hts _ lkX6_addName_f47) (fun _ h9 => h9) rfl dX6_addName_39 ?_
  refine lv_iconst (v := (-1)) hx hb dX6_addName_42 (by decide) ?_
  refine va_iast hx hb hK hP hD hS 3 2 rfl rfl (hin1) dX6_addName_43 (fun H locs hP hD hS => ?_)
  have hP : va_P (dC, dI) vwCl [(h0, .inr (6, [.ref a0, .ref a1, .ref a2, .ref a3, .int sy, .int sb, .ref a6, .ref a7, .ref a8, .ref a9, .ref a10, .int tp, .int lm])), (a6, .inl (cI, 3760, .inl f1)), (a7, .inl (cI, 3760, .inl f2)), (a8, .inl (cI, 3760, .inl (upd f8 tp.toNatClampNeg (-1)))), (a9, .inl (cI, 3760, .inl f9))] H := hP
  have hD : va_D A [(h0, .inr (6, [.ref a0, .ref a1, .ref a2, .ref a3, .int sy, .int sb, .ref a6, .ref a7, .ref a8, .ref a9, .ref a10, .int tp, .int lm])), (a6, .inl (cI, 3760, .inl f1)), (a7, .inl (cI, 3760, .inl f2)), (a8, .inl (cI, 3760, .inl (upd f8 tp.toNatClampNeg (-1)))), (a9, .inl (cI, 3760, .inl f9))] := hD
  generalize ef3 : upd f8 tp.toNatClampNeg (-1) = f3 at hP hD
  refine lv_aload_n hx hb dX6_addName_44 rfl (lv_at hl 0 rfl) ?_
  refine va_get (D := (dC, dI)) (ci := 6) (v := .ref a9) (C := RX6) (T := TX6) (N := 13) hx hb hts inX6_addName_X6 hown hK hP 0 rfl rfl 9 (by decide) (hts _ lkX6_addName_f41) (fun _ h9 => h9) rfl dX6_addName_45 ?_
  refine lv_aload_n hx hb dX6_addName_48 rfl (lv_at hl 0 rfl) ?_
  refine va_get (D := (dC, dI)) (ci := 6) (v := .int tp) (C := RX6) (T := TX6) (N := 13) hx hb hts inX6_addName_X6 hown hK hP 0 rfl rfl 11 (by decide) (hts _ lkX6_addName_f47) (fun _ h9 => h9) rfl dX6_addName_49 ?_
  refine lv_iconst (v := 0) hx hb dX6_addName_52 (by decide) ?_
  refine va_iast hx hb hK hP hD hS 4 2 rfl rfl (hin1) dX6_addName_53 (fun H locs hP hD hS => ?_)
  have hP : va_P (dC, dI) vwCl [(h0, .inr (6, [.ref a0, .ref a1, .ref a2, .ref a3, .int sy, .int sb, .ref a6, .ref a7, .ref a8, .ref a9, .ref a10, .int tp, .int lm])), (a6, .inl (cI, 3760, .inl f1)), (a7, .inl (cI, 3760, .inl f2)), (a8, .inl (cI, 3760, .inl f3)), (a9, .inl (cI, 3760, .inl (upd f9 tp.toNatClampNeg 0)))] H := hP
  have hD : va_D A [(h0, .inr (6, [.ref a0, .ref a1, .ref a2, .ref a3, .int sy, .int sb, .ref a6, .ref a7, .ref a8, .ref a9, .ref a10, .int tp, .int lm])), (a6, .inl (cI, 3760, .inl f1)), (a7, .inl (cI, 3760, .inl f2)), (a8, .inl (cI, 3760, .inl f3)), (a9, .inl (cI, 3760, .inl (upd f9 tp.toNatClampNeg 0)))] := hD
  generalize ef4 : upd f9 tp.toNatClampNeg 0 = f4 at hP hD
  refine lv_aload_n hx hb dX6_addName_54 rfl (lv_at hl 0 rfl) ?_
  refine lv_dup hx hb dX6_addName_55 rfl ?_
  refine va_get (D := (dC, dI)) (ci := 6) (v := .int tp) (C := RX6) (T := TX6) (N := 13) hx hb hts inX6_addName_X6 hown hK hP 0 rfl rfl 11 (by decide) (hts _ lkX6_addName_f47) (fun _ h9 => h9) rfl dX6_addName_56 ?_
  refine lv_iconst (v := 1) hx hb dX6_addName_59 (by decide) ?_
  refine lv_iadd hx hb dX6_addName_60 ?_
  refine lv_topi (fun x5 ex5 => ?_)
  refine va_put (D := (dC, dI)) (ci := 6) (v := .int x5) (ty := .int) (C := RX6) (T := TX6) (N := 13) hx hb hts inX6_addName_X6 tyX6 tyX6_ok nmX6 hown hK hP hD hS 0 rfl rfl 11 (by decide) (hts _ lkX6_addName_f47) (fun _ h9 => h9) rfl (by decide +kernel) rfl rfl (Nat.le_of_ble_eq_true rfl) dX6_addName_61 (fun H locs hP hD hS => ?_)
  have hP : va_P (dC, dI) vwCl [(h0, .inr (6, [.ref a0, .ref a1, .ref a2, .ref a3, .int sy, .int sb, .ref a6, .ref a7, .ref a8, .ref a9, .ref a10, .int x5, .int lm])), (a6, .inl (cI, 3760, .inl f1)), (a7, .inl (cI, 3760, .inl f2)), (a8, .inl (cI, 3760, .inl f3)), (a9, .inl (cI, 3760, .inl f4))] H := hP
  have hD : va_D A [(h0, .inr (6, [.ref a0, .ref a1, .ref a2, .ref a3, .int sy, .int sb, .ref a6, .ref a7, .ref a8, .ref a9, .ref a10, .int x5, .int lm])), (a6, .inl (cI, 3760, .inl f1)), (a7, .inl (cI, 3760, .inl f2)), (a8, .inl (cI, 3760, .inl f3)), (a9, .inl (cI, 3760, .inl f4))] := hD
  refine lv_aload_n hx hb dX6_addName_64 rfl (lv_at hl 0 rfl) ?_
  refine va_get (D := (dC, dI)) (ci := 6) (v := .int x5) (C := RX6) (T := TX6) (N := 13) hx hb hts inX6_addName_X6 hown hK hP 0 rfl rfl 11 (by decide) (hts _ lkX6_addName_f47) (fun _ h9 => h9) rfl dX6_addName_65 ?_
  refine lv_iconst (v := 1) hx hb dX6_addName_68 (by decide) ?_
  refine lv_isub hx hb dX6_addName_69 ?_
  refine W.widen (k := 0) (n := 0) (Nat.le_of_ble_eq_true rfl) (Nat.le_of_ble_eq_true rfl) ?_
  have hP9 := hP.sub (ws' := [(h0, .inr (6, [.ref a0, .ref a1, .ref a2, .ref a3, .int sy, .int sb, .ref a6, .ref a7, .ref a8, .ref a9, .ref a10, .int x5, .int lm])), (a6, .inl (cI, 3760, .inl f1)), (a7, .inl (cI, 3760, .inl f2)), (a8, .inl (cI, 3760, .inl f3)), (a9, .inl (cI, 3760, .inl f4))]) [0, 1, 2, 3, 4] rfl
  have hD9 := hD.sub (ws' := [(h0, .inr (6, [.ref a0, .ref a1, .ref a2, .ref a3, .int sy, .int sb, .ref a6, .ref a7, .ref a8, .ref a9, .ref a10, .int x5, .int lm])), (a6, .inl (cI, 3760, .inl f1)), (a7, .inl (cI, 3760, .inl f2)), (a8, .inl (cI, 3760, .inl f3)), (a9, .inl (cI, 3760, .inl f4))]) [0, 1, 2, 3, 4] (by decide) rfl
  exact W.iret (v := (x5 - 1)) hx hb hr (fun t ht hW => ⟨⟨(x5 - 1), (), rfl, trivial, x5, f1, f2, f3, f4, by rw [ex5, htp]; exact nI_1 kt, by rw [ht]; exact hP9, va_K.moved hW.alike hK, hD9⟩, hS.F ht⟩) hS.2.2 dX6_addName_70

set_option maxHeartbeats 4000000 in
set_option maxRecDepth 100000 in
/-- addSymbol: one symbol more, without rules -/
theorem c_addSymbol (l : Launch) (dC : Nat → ClassId) (dI : Nat → Nat → Nat) (cB cC cI cJ cZ : ClassId) (h0 a0 a1 a2 a3 a6 a7 a8 a9 a10 : Nat) (sy sb tp lm : Int32) (f6 f7 f8 f9 : Nat → Int32) (f0 f1 : Nat → Int64) (f2 : Nat → Int32) (p1 p3 : Int64) (kt : Nat) (hkt : kt < 100) (hsy : sy = nI kt) (htp : tp = nI kt) (hR : ∀ j, j < kt → f2 j = -1) (sz : Nat) : Met l yX6_addSymbol wsX6_addSymbol { frames := 1, cells := 0, slots := 0, locals := 22 } (va_Pc [.ref h0, .long p1, .long p3] (fun U => U.heap.size = sz ∧ va_P (dC, dI) vwCl [(h0, .inr (6, [.ref a0, .ref a1, .ref a2, .ref a3, .int sy, .int sb, .ref a6, .ref a7, .ref a8, .ref a9, .ref a10, .int tp, .int lm])), (a0, .inl (cJ, 2560, .inr (.inl f0))), (a1, .inl (cJ, 2560, .inr (.inl f1))), (a2, .inl (cI, 2560, .inl f2)), (a6, .inl (cI, 3760, .inl f6)), (a7, .inl (cI, 3760, .inl f7)), (a8, .inl (cI, 3760, .inl f8)), (a9, .inl (cI, 3760, .inl f9))] U.heap ∧ va_K (dC, dI) vwCl (TY cB cC cI cJ cZ) U ∧ va_D (fun _ => True) [(h0, .inr (6, [.ref a0, .ref a1, .ref a2, .ref a3, .int sy, .int sb, .ref a6, .ref a7, .ref a8, .ref a9, .ref a10, .int tp, .int lm])), (a0, .inl (cJ, 2560, .inr (.inl f0))), (a1, .inl (cJ, 2560, .inr (.inl f1))), (a2, .inl (cI, 2560, .inl f2)), (a6, .inl (cI, 3760, .inl f6)), (a7, .inl (cI, 3760, .inl f7)), (a8, .inl (cI, 3760, .inl f8)), (a9, .inl (cI, 3760, .inl f9))])) (va_Qi (fun (r : Int32) (_ : Unit) => True) (fun (_ : Unit) (t : State) => ∃ (sy1 : Int32), ∃ (tp1 : Int32), ∃ (g0 : Nat → Int64), ∃ (g1 : Nat → Int64), ∃ (g2 : Nat → Int32), ∃ (g6 : Nat → Int32), ∃ (g7 : Nat → Int32), ∃ (g8 : Nat → Int32), ∃ (g9 : Nat → Int32), sy1 = nI (kt + 1) ∧ tp1 = nI (kt + 1) ∧ ∀ j, j < kt + 1 → g2 j = -1 ∧ va_P (dC, dI) vwCl [(h0, .inr (6, [.ref a0, .ref a1, .ref a2, .ref a3, .int sy1, .int sb, .ref a6, .ref a7, .ref a8, .ref a9, .ref a10, .int tp1, .int lm])), (a0, .inl (cJ, 2560, .inr (.inl g0))), (a1, .inl (cJ, 2560, .inr (.inl g1))), (a2, .inl (cI, 2560, .inl g2)), (a6, .inl (cI, 3760, .inl g6)), (a7, .inl (cI, 3760, .inl g7)), (a8, .inl (cI, 3760, .inl g8)), (a9, .inl (cI, 3760, .inl g9))] t.heap ∧ va_K (dC, dI) vwCl (TY cB cC cI cJ cZ) t ∧ va_D (va_A [(h0, .inr (6, [.ref a0, .ref a1, .ref a2, .ref a3, .int sy, .int sb, .ref a6, .ref a7, .ref a8, .ref a9, .ref a10, .int tp, .int lm])), (a0, .inl (cJ, 2560, .inr (.inl f0))), (a1, .inl (cJ, 2560, .inr (.inl f1))), (a2, .inl (cI, 2560, .inl f2)), (a6, .inl (cI, 3760, .inl f6)), (a7, .inl (cI, 3760, .inl f7)), (a8, .inl (cI, 3760, .inl f8)), (a9, .inl (cI, 3760, .inl f9))] sz) [(h0, .inr (6, [.ref a0, .ref a1, .ref a2, .ref a3, .int sy1, .int sb, .ref a6, .ref a7, .ref a8, .ref a9, .ref a10, .int tp1, .int lm])), (a0, .inl (cJ, 2560, .inr (.inl g0))), (a1, .inl (cJ, 2560, .inr (.inl g1))), (a2, .inl (cI, 2560, .inl g2)), (a6, .inl (cI, 3760, .inl g6)), (a7, .inl (cI, 3760, .inl g7)), (a8, .inl (cI, 3760, .inl g8)), (a9, .inl (cI, 3760, .inl g9))]) (va_A [(h0, .inr (6, [.ref a0, .ref a1, .ref a2, .ref a3, .int sy, .int sb, .ref a6, .ref a7, .ref a8, .ref a9, .ref a10, .int tp, .int lm])), (a0, .inl (cJ, 2560, .inr (.inl f0))), (a1, .inl (cJ, 2560, .inr (.inl f1))), (a2, .inl (cI, 2560, .inl f2)), (a6, .inl (cI, 3760, .inl f6)), (a7, .inl (cI, 3760, .inl f7)), (a8, .inl (cI, 3760, .inl f8)), (a9, .inl (cI, 3760, .inl f9))] sz)) 0 0 (va_A [(h0, .inr (6, [.ref a0, .ref a1, .ref a2, .ref a3, .int sy, .int sb, .ref a6, .ref a7, .ref a8, .ref a9, .ref a10, .int tp, .int lm])), (a0, .inl (cJ, 2560, .inr (.inl f0))), (a1, .inl (cJ, 2560, .inr (.inl f1))), (a2, .inl (cI, 2560, .inl f2)), (a6, .inl (cI, 3760, .inl f6)), (a7, .inl (cI, 3760, .inl f7)), (a8, .inl (cI, 3760, .inl f8)), (a9, .inl (cI, 3760, .inl f9))] sz) := by
  refine Met.ofW (cc := cX6_addSymbol) (maxL := 5) (ret := (some .int)) (by decide) rfl ?_
  intro p e s m args below meth c s₁ B hml hv
  obtain ⟨rfl, hsz, hP, hK, hD0⟩ := hv
  have hx := B.exec
  have hb := B.bytes
  have hr := B.returns
  have hts := atoms_spec (ws := wsX6_addSymbol) B.pre
  have hown : s.vm.findClass RX6 = some m.cls := findClass_of_methodNamed B.named
  have hlocks := B.notSynchronized
  subst hsz
  have hD := hD0.self (sz := s.heap.size)
  generalize hAe : va_A [(h0, .inr (6, [.ref a0, .ref a1, .ref a2, .ref a3, .int sy, .int sb, .ref a6, .ref a7, .ref a8, .ref a9, .ref a10, .int tp, .int lm])), (a0, .inl (cJ, 2560, .inr (.inl f0))), (a1, .inl (cJ, 2560, .inr (.inl f1))), (a2, .inl (cI, 2560, .inl f2)), (a6, .inl (cI, 3760, .inl f6)), (a7, .inl (cI, 3760, .inl f7)), (a8, .inl (cI, 3760, .inl f8)), (a9, .inl (cI, 3760, .inl f9))] s.heap.size = A at hD ⊢
  have hA : ∀ q : Nat, s.heap.size ≤ q → A q := fun q h => by rw [← hAe]; exact Or.inr h
  have hS : va_S A s.heap s.heap [] := va_S.rf
  have hP : va_P (dC, dI) vwCl [(h0, .inr (6, [.ref a0, .ref a1, .ref a2, .ref a3, .int sy, .int sb, .ref a6, .ref a7, .ref a8, .ref a9, .ref a10, .int tp, .int lm])), (a0, .inl (cJ, 2560, .inr (.inl f0))), (a1, .inl (cJ, 2560, .inr (.inl f1))), (a2, .inl (cI, 2560, .inl f2)), (a6, .inl (cI, 3760, .inl f6)), (a7, .inl (cI, 3760, .inl f7)), (a8, .inl (cI, 3760, .inl f8)), (a9, .inl (cI, 3760, .inl f9))] s.heap := hP
  have hl := lv_entry ([.ref h0, .long p1, .long p3]) (n := 5) (Nat.le_of_ble_eq_true rfl)
  rw [lg_entry_eq]
  generalize (lg_sl ([.ref h0, .long p1, .long p3]) ++ List.replicate (5 - (lg_sl ([.ref h0, .long p1, .long p3])).length) Slot.unset).toArray = ls at hl ⊢
  have hl : lv_has ls 5 [(0, .ref h0), (1, .long p1), (3, .long p3)] := hl
  have hin1 : vp_in sy 2560 := by rw [hsy]; exact vp_in_nI (by omega) (by decide)
  refine lv_aload_n hx hb dX6_addSymbol_0 rfl (lv_at hl 0 rfl) ?_
  refine va_get (D := (dC, dI)) (ci := 6) (v := .int sy) (C := RX6) (T := TX6) (N := 13) hx hb hts inX6_addSymbol_X6 hown hK hP 0 rfl rfl 4 (by decide) (hts _ lkX6_addSymbol_f25) (fun _ h9 => h9) rfl dX6_addSymbol_1 ?_
  refine lv_sipush (v := 2560) hx hb dX6_addSymbol_4 (by decide) ?_
  refine lv_icmp_lt (tgt := 12) hx hb dX6_addSymbol_7 (by decide) (fun _ => ?_) (fun q9 => absurd (by rw [hsy]; exact nI_lt (b := 2560) (by omega) (by decide)) q9)
  refine lv_aload_n hx hb dX6_addSymbol_12 rfl (lv_at hl 0 rfl) ?_
  refine va_get (D := (dC, dI)) (ci := 6) (v := .ref a0) (C := RX6) (T := TX6) (N := 13) hx hb hts inX6_addSymbol_X6 hown hK hP 0 rfl rfl 0 (by decide) (hts _ lkX6_addSymbol_f9) (fun _ h9 => h9) rfl dX6_addSymbol_13 ?_
  refine lv_aload_n hx hb dX6_addSymbol_16 rfl (lv_at hl 0 rfl) ?_
  refine va_get (D := (dC, dI)) (ci := 6) (v := .int sy) (C := RX6) (T := TX6) (N := 13) hx hb hts inX6_addSymbol_X6 hown hK hP 0 rfl rfl 4 (by decide) (hts _ lkX6_addSymbol_f25) (fun _ h9 => h9) rfl dX6_addSymbol_17 ?_
  refine lv_lload_n hx hb dX6_addSymbol_20 rfl (lv_at hl 1 rfl) ?_
  refine va_last hx hb hK hP hD hS 1 3 rfl rfl (hin1) dX6_addSymbol_21 (fun H locs hP hD hS => ?_)
  have hP : va_P (dC, dI) vwCl [(h0, .inr (6, [.ref a0, .ref a1, .ref a2, .ref a3, .int sy, .int sb, .ref a6, .ref a7, .ref a8, .ref a9, .ref a10, .int tp, .int lm])), (a0, .inl (cJ, 2560, .inr (.inl (vp_updL f0 sy.toNatClampNeg p1)))), (a1, .inl (cJ, 2560, .inr (.inl f1))), (a2, .inl (cI, 2560, .inl f2)), (a6, .inl (cI, 3760, .inl f6)), (a7, .inl (cI, 3760, .inl f7)), (a8, .inl (cI, 3760, .inl f8)), (a9, .inl (cI, 3760, .inl f9))] H := hP
  have hD : va_D A [(h0, .inr (6, [.ref a0, .ref a1, .ref a2, .ref a3, .int sy, .int sb, .ref a6, .ref a7, .ref a8, .ref a9, .ref a10, .int tp, .int lm])), (a0, .inl (cJ, 2560, .inr (.inl (vp_updL f0 sy.toNatClampNeg p1)))), (a1, .inl (cJ, 2560, .inr (.inl f1))), (a2, .inl (cI, 2560, .inl f2)), (a6, .inl (cI, 3760, .inl f6)), (a7, .inl (cI, 3760, .inl f7)), (a8, .inl (cI, 3760, .inl f8)), (a9, .inl (cI, 3760, .inl f9))] := hD
  generalize ef1 : vp_updL f0 sy.toNatClampNeg p1 = f1 at hP hD
  refine lv_aload_n hx hb dX6_addSymbol_22 rfl (lv_at hl 0 rfl) ?_
  refine va_get (D := (dC, dI)) (ci := 6) (v := .ref a1) (C := RX6) (T := TX6) (N := 13) hx hb hts inX6_addSymbol_X6 hown hK hP 0 rfl rfl 1 (by decide) (hts _ lkX6_addSymbol_f15) (fun _ h9 => h9) rfl dX6_addSymbol_23 ?_
  refine lv_aload_n hx hb dX6_addSymbol_26 rfl (lv_at hl 0 rfl) ?_
  refine va_get (D := (dC, dI)) (ci := 6) (v := .int sy) (C := RX6) (T := TX6) (N := 13) hx hb hts inX6_addSymbol_X6 hown hK hP 0 rfl rfl 4 (by decide) (hts _ lkX6_addSymbol_f25) (fun _ h9 => h9) rfl dX6_addSymbol_27 ?_
  refine lv_lload_n hx hb dX6_addSymbol_30 rfl (lv_at hl 2 rfl) ?_
  refine va_last hx hb hK hP hD hS 2 3 rfl rfl (hin1) dX6_addSymbol_31 (fun H locs hP hD hS => ?_)
  have hP : va_P (dC, dI) vwCl [(h0, .inr (6, [.ref a0, .ref a1, .ref a2, .ref a3, .int sy, .int sb, .ref a6, .ref a7, .ref a8, .ref a9, .ref a10, .int tp, .int lm])), (a0, .inl (cJ, 2560, .inr (.inl f1))), (a1, .inl (cJ, 2560, .inr (.inl (vp_updL f1 sy.toNatClampNeg p3)))), (a2, .inl (cI, 2560, .inl f2)), (a6, .inl (cI, 3760, .inl f6)), (a7, .inl (cI, 3760, .inl f7)), (a8, .inl (cI, 3760, .inl f8)), (a9, .inl (cI, 3760, .inl f9))] H := hP
  have hD : va_D A [(h0, .inr (6, [.ref a0, .ref a1, .ref a2, .ref a3, .int sy, .int sb, .ref a6, .ref a7, .ref a8, .ref a9, .ref a10, .int tp, .int lm])), (a0, .inl (cJ, 2560, .inr (.inl f1))), (a1, .inl (cJ, 2560, .inr (.inl (vp_updL f1 sy.toNatClampNeg p3)))), (a2, .inl (cI, 2560, .inl f2)), (a6, .inl (cI, 3760, .inl f6)), (a7, .inl (cI, 3760, .inl f7)), (a8, .inl (cI, 3760, .inl f8)), (a9, .inl (cI, 3760, .inl f9))] := hD
  generalize ef2 : vp_updL f1 sy.toNatClampNeg p3 = f2 at hP hD
  refine lv_aload_n hx hb dX6_addSymbol_32 rfl (lv_at hl 0 rfl) ?_
  refine va_get (D := (dC, dI)) (ci := 6) (v := .ref a2) (C := RX6) (T := TX6) (N := 13) hx hb hts inX6_addSymbol_X6 hown hK hP 0 rfl rfl 2 (by decide) (hts _ lkX6_addSymbol_f18) (fun _ h9 => h9) rfl dX6_addSymbol_33 ?_
  refine lv_aload_n hx hb dX6_addSymbol_36 rfl (lv_at hl 0 rfl) ?_
  refine va_get (D := (dC, dI)) (ci := 6) (v := .int sy) (C := RX6) (T := TX6) (N := 13) hx hb hts inX6_addSymbol_X6 hown hK hP 0 rfl rfl 4 (by decide) (hts _ lkX6_addSymbol_f25) (fun _ h9 => h9) rfl dX6_addSymbol_37 ?_
  refine lv_iconst (v := (-1)) hx hb dX6_addSymbol_40 (by decide) ?_
  refine va_iast hx hb hK hP hD hS 3 2 rfl rfl (hin1) dX6_addSymbol_41 (fun H locs hP hD hS => ?_)
  have hP : va_P (dC, dI) vwCl [(h0, .inr (6, [.ref a0, .ref a1, .ref a2, .ref a3, .int sy, .int sb, .ref a6, .ref a7, .ref a8, .ref a9, .ref a10, .int tp, .int lm])), (a0, .inl (cJ, 2560, .inr (.inl f1))), (a1, .inl (cJ, 2560, .inr (.inl f2))), (a2, .inl (cI, 2560, .inl (upd f2 sy.toNatClampNeg (-1)))), (a6, .inl (cI, 3760, .inl f6)), (a7, .inl (cI, 3760, .inl f7)), (a8, .inl (cI, 3760, .inl f8)), (a9, .inl (cI, 3760, .inl f9))] H := hP
  have hD : va_D A [(h0, .inr (6, [.ref a0, .ref a1, .ref a2, .ref a3, .int sy, .int sb, .ref a6, .ref a7, .ref a8, .ref a9, .ref a10, .int tp, .int lm])), (a0, .inl (cJ, 2560, .inr (.inl f1))), (a1, .inl (cJ, 2560, .inr (.inl f2))), (a2, .inl (cI, 2560, .inl (upd f2 sy.toNatClampNeg (-1)))), (a6, .inl (cI, 3760, .inl f6)), (a7, .inl (cI, 3760, .inl f7)), (a8, .inl (cI, 3760, .inl f8)), (a9, .inl (cI, 3760, .inl f9))] := hD
  generalize eg2 : upd f2 sy.toNatClampNeg (-1) = g2 at hP hD
  refine lv_aload_n hx hb dX6_addSymbol_42 rfl (lv_at hl 0 rfl) ?_
  refine lv_dup hx hb dX6_addSymbol_43 rfl ?_
  refine va_get (D := (dC, dI)) (ci := 6) (v := .int sy) (C := RX6) (T := TX6) (N := 13) hx hb hts inX6_addSymbol_X6 hown hK hP 0 rfl rfl 4 (by decide) (hts _ lkX6_addSymbol_f25) (fun _ h9 => h9) rfl dX6_addSymbol_44 ?_
  refine lv_iconst (v := 1) hx hb dX6_addSymbol_47 (by decide) ?_
  refine lv_iadd hx hb dX6_addSymbol_48 ?_
  refine lv_topi (fun x3 ex3 => ?_)
  refine va_put (D := (dC, dI)) (ci := 6) (v := .int x3) (ty := .int) (C := RX6) (T := TX6) (N := 13) hx hb hts inX6_addSymbol_X6 tyX6 tyX6_ok nmX6 hown hK hP hD hS 0 rfl rfl 4 (by decide) (hts _ lkX6_addSymbol_f25) (fun _ h9 => h9) rfl (by decide +kernel) rfl rfl (Nat.le_of_ble_eq_true rfl) dX6_addSymbol_49 (fun H locs hP hD hS => ?_)
  have hP : va_P (dC, dI) vwCl [(h0, .inr (6, [.ref a0, .ref a1, .ref a2, .ref a3, .int x3, .int sb, .ref a6, .ref a7, .ref a8, .ref a9, .ref a10, .int tp, .int lm])), (a0, .inl (cJ, 2560, .inr (.inl f1))), (a1, .inl (cJ, 2560, .inr (.inl f2))), (a2, .inl (cI, 2560, .inl g2)), (a6, .inl (cI, 3760, .inl f6)), (a7, .inl (cI, 3760, .inl f7)), (a8, .inl (cI, 3760, .inl f8)), (a9, .inl (cI, 3760, .inl f9))] H := hP
  have hD : va_D A [(h0, .inr (6, [.ref a0, .ref a1, .ref a2, .ref a3, .int x3, .int sb, .ref a6, .ref a7, .ref a8, .ref a9, .ref a10, .int tp, .int lm])), (a0, .inl (cJ, 2560, .inr (.inl f1))), (a1, .inl (cJ, 2560, .inr (.inl f2))), (a2, .inl (cI, 2560, .inl g2)), (a6, .inl (cI, 3760, .inl f6)), (a7, .inl (cI, 3760, .inl f7)), (a8, .inl (cI, 3760, .inl f8)), (a9, .inl (cI, 3760, .inl f9))] := hD
  refine lv_aload_n hx hb dX6_addSymbol_52 rfl (lv_at hl 0 rfl) ?_
  refine lv_iconst (v := (-1)) hx hb dX6_addSymbol_53 (by decide) ?_
  refine lv_iconst (v := 0) hx hb dX6_addSymbol_54 (by decide) ?_
  have hPc := hP.sub (ws' := [(h0, .inr (6, [.ref a0, .ref a1, .ref a2, .ref a3, .int x3, .int sb, .ref a6, .ref a7, .ref a8, .ref a9, .ref a10, .int tp, .int lm])), (a6, .inl (cI, 3760, .inl f6)), (a7, .inl (cI, 3760, .inl f7)), (a8, .inl (cI, 3760, .inl f8)), (a9, .inl (cI, 3760, .inl f9))]) [0, 4, 5, 6, 7] rfl
  have hDc := hD.sub (ws' := [(h0, .inr (6, [.ref a0, .ref a1, .ref a2, .ref a3, .int x3, .int sb, .ref a6, .ref a7, .ref a8, .ref a9, .ref a10, .int tp, .int lm])), (a6, .inl (cI, 3760, .inl f6)), (a7, .inl (cI, 3760, .inl f7)), (a8, .inl (cI, 3760, .inl f8)), (a9, .inl (cI, 3760, .inl f9))]) [0, 4, 5, 6, 7] (by decide) rfl
  have hFc := va_free (wc := [(h0, .inr (6, [.ref a0, .ref a1, .ref a2, .ref a3, .int x3, .int sb, .ref a6, .ref a7, .ref a8, .ref a9, .ref a10, .int tp, .int lm])), (a6, .inl (cI, 3760, .inl f6)), (a7, .inl (cI, 3760, .inl f7)), (a8, .inl (cI, 3760, .inl f8)), (a9, .inl (cI, 3760, .inl f9))]) hD hS hA [0, 4, 5, 6, 7] rfl
  refine va_calli (va_runV (As := [.int (-1), .int 0]) (rest := []) ⟨hx, hb, hml, hown, hts⟩ (c_addName l dC dI cB cC cI cJ cZ h0 a0 a1 a2 a3 a6 a7 a8 a9 a10 x3 sb tp lm f6 f7 f8 f9 (-1) 0 kt (by omega) htp H.size) (cwV 2 hts gX6_addSymbol_X6_addName rfl rfl rfl (by decide +kernel) ⟨Nat.le_of_ble_eq_true rfl, Nat.le_of_ble_eq_true rfl⟩) ⟨fun a U g mk q => by obtain ⟨q0, q1, qP, qK, qD⟩ := q; exact ⟨q0, q1, qP, va_K.moved (u := U) (U := U.calling g mk a) (Vm.Alike.refl U.vm) qK, qD⟩, va_recv hK hPc (ci := 6) (q0 := 0) rfl rfl, fun U hU hW => ⟨rfl, by rw [hU], by rw [hU]; exact hPc, va_K.moved hW.alike hK, hDc.weaken (fun _ _ _ _ => trivial)⟩⟩ rfl rfl hl.1 rfl (lv_room (Nat.le_of_ble_eq_true rfl)) dX6_addSymbol_55 ⟨Nat.le_of_ble_eq_true rfl, Nat.le_of_ble_eq_true rfl⟩) hS (fun q _ h => hFc q h) hFc (fun r4 _u t H locs ht hvm hw hB hz1 hk1 hS => ?_)
  obtain ⟨tp5, g6, g7, g8, g9, htp10, hP1, hK1, hD1⟩ := hB
  rw [ht] at hP1
  obtain ⟨hP, hD⟩ := va_join (wr := [(a0, .inl (cJ, 2560, .inr (.inl f1))), (a1, .inl (cJ, 2560, .inr (.inl f2))), (a2, .inl (cI, 2560, .inl g2))]) (w1 := [(h0, .inr (6, [.ref a0, .ref a1, .ref a2, .ref a3, .int x3, .int sb, .ref a6, .ref a7, .ref a8, .ref a9, .ref a10, .int tp5, .int lm])), (a6, .inl (cI, 3760, .inl g6)), (a7, .inl (cI, 3760, .inl g7)), (a8, .inl (cI, 3760, .inl g8)), (a9, .inl (cI, 3760, .inl g9))]) hP hD [0, 4, 5, 6, 7] [1, 2, 3] rfl rfl (by decide) (by decide) hk1 hFc hP1 hD1
  have hP : va_P (dC, dI) vwCl [(a0, .inl (cJ, 2560, .inr (.inl f1))), (a1, .inl (cJ, 2560, .inr (.inl f2))), (a2, .inl (cI, 2560, .inl g2)), (h0, .inr (6, [.ref a0, .ref a1, .ref a2, .ref a3, .int x3, .int sb, .ref a6, .ref a7, .ref a8, .ref a9, .ref a10, .int tp5, .int lm])), (a6, .inl (cI, 3760, .inl g6)), (a7, .inl (cI, 3760, .inl g7)), (a8, .inl (cI, 3760, .inl g8)), (a9, .inl (cI, 3760, .inl g9))] H := hP
  have hD : va_D A [(a0, .inl (cJ, 2560, .inr (.inl f1))), (a1, .inl (cJ, 2560, .inr (.inl f2))), (a2, .inl (cI, 2560, .inl g2)), (h0, .inr (6, [.ref a0, .ref a1, .ref a2, .ref a3, .int x3, .int sb, .ref a6, .ref a7, .ref a8, .ref a9, .ref a10, .int tp5, .int lm])), (a6, .inl (cI, 3760, .inl g6)), (a7, .inl (cI, 3760, .inl g7)), (a8, .inl (cI, 3760, .inl g8)), (a9, .inl (cI, 3760, .inl g9))] := hD
  refine W.widen (k := 0) (n := 0) (Nat.le_of_ble_eq_true rfl) (Nat.le_of_ble_eq_true rfl) ?_
  have hR1 : ∀ j, j < kt + 1 → g2 j = -1 := by
    intro j hj
    rw [← eg2, hsy, nI_clamp (by omega)]
    by_cases h : j = kt
    · subst h; exact pk_us
    · rw [pk_un h]; exact hR j (by omega)
  refine W.widen (k := 0) (n := 0) (Nat.le_of_ble_eq_true rfl) (Nat.le_of_ble_eq_true rfl) ?_
  have hP9 := hP.sub (ws' := [(h0, .inr (6, [.ref a0, .ref a1, .ref a2, .ref a3, .int x3, .int sb, .ref a6, .ref a7, .ref a8, .ref a9, .ref a10, .int tp5, .int lm])), (a0, .inl (cJ, 2560, .inr (.inl f1))), (a1, .inl (cJ, 2560, .inr (.inl f2))), (a2, .inl (cI, 2560, .inl g2)), (a6, .inl (cI, 3760, .inl g6)), (a7, .inl (cI, 3760, .inl g7)), (a8, .inl (cI, 3760, .inl g8)), (a9, .inl (cI, 3760, .inl g9))]) [3, 0, 1, 2, 4, 5, 6, 7] rfl
  have hD9 := hD.sub (ws' := [(h0, .inr (6, [.ref a0, .ref a1, .ref a2, .ref a3, .int x3, .int sb, .ref a6, .ref a7, .ref a8, .ref a9, .ref a10, .int tp5, .int lm])), (a0, .inl (cJ, 2560, .inr (.inl f1))), (a1, .inl (cJ, 2560, .inr (.inl f2))), (a2, .inl (cI, 2560, .inl g2)), (a6, .inl (cI, 3760, .inl g6)), (a7, .inl (cI, 3760, .inl g7)), (a8, .inl (cI, 3760, .inl g8)), (a9, .inl (cI, 3760, .inl g9))]) [3, 0, 1, 2, 4, 5, 6, 7] (by decide) rfl
  exact W.iret (v := r4) hx hb hr (fun t ht hW => ⟨⟨r4, (), rfl, trivial, x3, tp5, f1, f2, g2, g6, g7, g8, g9, by rw [ex3, hsy]; exact nI_1 kt, htp10, hR1, by rw [ht]; exact hP9, va_K.moved hW.alike hK, hD9⟩, hS.F ht⟩) hS.2.2 dX6_addSymbol_58

set_option maxHeartbeats 4000000 in
set_option maxRecDepth 100000 in
/-- addGiven: one symbol more -/
theorem c_addGiven (l : Launch) (dC : Nat → ClassId) (dI : Nat → Nat → Nat) (cB cC cI cJ cZ : ClassId) (h0 a0 a1 a2 a3 a6 a7 a8 a9 a10 : Nat) (sy sb tp lm : Int32) (f6 f7 f8 f9 : Nat → Int32) (f0 f1 : Nat → Int64) (f2 : Nat → Int32) (a : Nat) (kt : Nat) (hkt : kt < 100) (hsy : sy = nI kt) (htp : tp = nI kt) (hR : ∀ j, j < kt → f2 j = -1) (sz : Nat) : Met l yX6_addGiven wsX6_addGiven { frames := 3, cells := 1, slots := 16, locals := 66 } (va_Pc [.ref h0, .ref a] (fun U => U.heap.size = sz ∧ va_P (dC, dI) vwCl [(h0, .inr (6, [.ref a0, .ref a1, .ref a2, .ref a3, .int sy, .int sb, .ref a6, .ref a7, .ref a8, .ref a9, .ref a10, .int tp, .int lm])), (a0, .inl (cJ, 2560, .inr (.inl f0))), (a1, .inl (cJ, 2560, .inr (.inl f1))), (a2, .inl (cI, 2560, .inl f2)), (a6, .inl (cI, 3760, .inl f6)), (a7, .inl (cI, 3760, .inl f7)), (a8, .inl (cI, 3760, .inl f8)), (a9, .inl (cI, 3760, .inl f9))] U.heap ∧ va_K (dC, dI) vwCl (TY cB cC cI cJ cZ) U ∧ va_D (fun _ => True) [(h0, .inr (6, [.ref a0, .ref a1, .ref a2, .ref a3, .int sy, .int sb, .ref a6, .ref a7, .ref a8, .ref a9, .ref a10, .int tp, .int lm])), (a0, .inl (cJ, 2560, .inr (.inl f0))), (a1, .inl (cJ, 2560, .inr (.inl f1))), (a2, .inl (cI, 2560, .inl f2)), (a6, .inl (cI, 3760, .inl f6)), (a7, .inl (cI, 3760, .inl f7)), (a8, .inl (cI, 3760, .inl f8)), (a9, .inl (cI, 3760, .inl f9))] ∧ StrOK a (va_A [(h0, .inr (6, [.ref a0, .ref a1, .ref a2, .ref a3, .int sy, .int sb, .ref a6, .ref a7, .ref a8, .ref a9, .ref a10, .int tp, .int lm])), (a0, .inl (cJ, 2560, .inr (.inl f0))), (a1, .inl (cJ, 2560, .inr (.inl f1))), (a2, .inl (cI, 2560, .inl f2)), (a6, .inl (cI, 3760, .inl f6)), (a7, .inl (cI, 3760, .inl f7)), (a8, .inl (cI, 3760, .inl f8)), (a9, .inl (cI, 3760, .inl f9))] sz) U U.heap)) (va_Qv (fun (_ : Unit) => True) (fun (_ : Unit) (t : State) => ∃ (sy1 : Int32), ∃ (tp1 : Int32), ∃ (g0 : Nat → Int64), ∃ (g1 : Nat → Int64), ∃ (g2 : Nat → Int32), ∃ (g6 : Nat → Int32), ∃ (g7 : Nat → Int32), ∃ (g8 : Nat → Int32), ∃ (g9 : Nat → Int32), sy1 = nI (kt + 1) ∧ tp1 = nI (kt + 1) ∧ ∀ j, j < kt + 1 → g2 j = -1 ∧ va_P (dC, dI) vwCl [(h0, .inr (6, [.ref a0, .ref a1, .ref a2, .ref a3, .int sy1, .int sb, .ref a6, .ref a7, .ref a8, .ref a9, .ref a10, .int tp1, .int lm])), (a0, .inl (cJ, 2560, .inr (.inl g0))), (a1, .inl (cJ, 2560, .inr (.inl g1))), (a2, .inl (cI, 2560, .inl g2)), (a6, .inl (cI, 3760, .inl g6)), (a7, .inl (cI, 3760, .inl g7)), (a8, .inl (cI, 3760, .inl g8)), (a9, .inl (cI, 3760, .inl g9))] t.heap ∧ va_K (dC, dI) vwCl (TY cB cC cI cJ cZ) t ∧ va_D (va_A [(h0, .inr (6, [.ref a0, .ref a1, .ref a2, .ref a3, .int sy, .int sb, .ref a6, .ref a7, .ref a8, .ref a9, .ref a10, .int tp, .int lm])), (a0, .inl (cJ, 2560, .inr (.inl f0))), (a1, .inl (cJ, 2560, .inr (.inl f1))), (a2, .inl (cI, 2560, .inl f2)), (a6, .inl (cI, 3760, .inl f6)), (a7, .inl (cI, 3760, .inl f7)), (a8, .inl (cI, 3760, .inl f8)), (a9, .inl (cI, 3760, .inl f9))] sz) [(h0, .inr (6, [.ref a0, .ref a1, .ref a2, .ref a3, .int sy1, .int sb, .ref a6, .ref a7, .ref a8, .ref a9, .ref a10, .int tp1, .int lm])), (a0, .inl (cJ, 2560, .inr (.inl g0))), (a1, .inl (cJ, 2560, .inr (.inl g1))), (a2, .inl (cI, 2560, .inl g2)), (a6, .inl (cI, 3760, .inl g6)), (a7, .inl (cI, 3760, .inl g7)), (a8, .inl (cI, 3760, .inl g8)), (a9, .inl (cI, 3760, .inl g9))]) (va_A [(h0, .inr (6, [.ref a0, .ref a1, .ref a2, .ref a3, .int sy, .int sb, .ref a6, .ref a7, .ref a8, .ref a9, .ref a10, .int tp, .int lm])), (a0, .inl (cJ, 2560, .inr (.inl f0))), (a1, .inl (cJ, 2560, .inr (.inl f1))), (a2, .inl (cI, 2560, .inl f2)), (a6, .inl (cI, 3760, .inl f6)), (a7, .inl (cI, 3760, .inl f7)), (a8, .inl (cI, 3760, .inl f8)), (a9, .inl (cI, 3760, .inl f9))] sz)) 1 16 (va_A [(h0, .inr (6, [.ref a0, .ref a1, .ref a2, .ref a3, .int sy, .int sb, .ref a6, .ref a7, .ref a8, .ref a9, .ref a10, .int tp, .int lm])), (a0, .inl (cJ, 2560, .inr (.inl f0))), (a1, .inl (cJ, 2560, .inr (.inl f1))), (a2, .inl (cI, 2560, .inl f2)), (a6, .inl (cI, 3760, .inl f6)), (a7, .inl (cI, 3760, .inl f7)), (a8, .inl (cI, 3760, .inl f8)), (a9, .inl (cI, 3760, .inl f9))] sz) := by
  refine Met.ofW (cc := cX6_addGiven) (maxL := 3) (ret := none) (by decide) rfl ?_
  intro p e s m args below meth c s₁ B hml hv
  obtain ⟨rfl, hsz, hP, hK, hD0, hX⟩ := hv
  have hx := B.exec
  have hb := B.bytes
  have hr := B.returns
  have hts := atoms_spec (ws := wsX6_addGiven) B.pre
  have hown : s.vm.findClass RX6 = some m.cls := findClass_of_methodNamed B.named
  have hlocks := B.notSynchronized
  subst hsz
  have hD := hD0.self (sz := s.heap.size)
  generalize hAe : va_A [(h0, .inr (6, [.ref a0, .ref a1, .ref a2, .ref a3, .int sy, .int sb, .ref a6, .ref a7, .ref a8, .ref a9, .ref a10, .int tp, .int lm])), (a0, .inl (cJ, 2560, .inr (.inl f0))), (a1, .inl (cJ, 2560, .inr (.inl f1))), (a2, .inl (cI, 2560, .inl f2)), (a6, .inl (cI, 3760, .inl f6)), (a7, .inl (cI, 3760, .inl f7)), (a8, .inl (cI, 3760, .inl f8)), (a9, .inl (cI, 3760, .inl f9))] s.heap.size = A at hD hX ⊢
  have hA : ∀ q : Nat, s.heap.size ≤ q → A q := fun q h => by rw [← hAe]; exact Or.inr h
  have hS : va_S A s.heap s.heap [] := va_S.rf
  have hP : va_P (dC, dI) vwCl [(h0, .inr (6, [.ref a0, .ref a1, .ref a2, .ref a3, .int sy, .int sb, .ref a6, .ref a7, .ref a8, .ref a9, .ref a10, .int tp, .int lm])), (a0, .inl (cJ, 2560, .inr (.inl f0))), (a1, .inl (cJ, 2560, .inr (.inl f1))), (a2, .inl (cI, 2560, .inl f2)), (a6, .inl (cI, 3760, .inl f6)), (a7, .inl (cI, 3760, .inl f7)), (a8, .inl (cI, 3760, .inl f8)), (a9, .inl (cI, 3760, .inl f9))] s.heap := hP
  have hl := lv_entry ([.ref h0, .ref a]) (n := 3) (Nat.le_of_ble_eq_true rfl)
  rw [lg_entry_eq]
  generalize (lg_sl ([.ref h0, .ref a]) ++ List.replicate (3 - (lg_sl ([.ref h0, .ref a])).length) Slot.unset).toArray = ls at hl ⊢
  have hl : lv_has ls 3 [(0, .ref h0), (1, .ref a)] := hl
  have ho := hX.2.1
  refine lv_aload_n hx hb dX6_addGiven_0 rfl (lv_at hl 1 rfl) ?_
  have hPc : va_P (dC, dI) vwCl [] H := hP.sub (ws' := []) [] rfl
  have hDc : va_D A [] := hD.sub (ws' := []) [] (by decide) rfl
  have hFc := va_free (wc := []) hD hS hA [] rfl
  refine va_callr (va_runV (As := []) (rest := []) ⟨hx, hb, hml, hown, hts⟩ (c_toCharArray l dC dI cB cC cI cJ cZ a  H.size) (cwV 0 hts gX6_addGiven_J0_toCharArray_70df3 rfl rfl rfl (by decide +kernel) ⟨Nat.le_of_ble_eq_true rfl, Nat.le_of_ble_eq_true rfl⟩) ⟨fun a U g mk q => by obtain ⟨q0, q1, qP, qK, qD, qX⟩ := q; exact ⟨q0, q1, qP, va_K.moved (u := U) (U := U.calling g mk a) (Vm.Alike.refl U.vm) qK, qD, qX.moved (u := U) (U := U.calling g mk a) (Vm.Alike.refl U.vm)⟩, (by obtain ⟨cell, q1, q2, q3, -⟩ := ho.kept hS.2.1; exact ⟨cell, q1, q2, q3⟩), fun U hU hW => ⟨rfl, by rw [hU], by rw [hU]; exact hPc, va_K.moved hW.alike hK, hDc.weaken (fun _ _ _ _ => trivial), by rw [hU]; exact (((hX.kept hS.2.1).narrow hFc).moved hW.alike)⟩⟩ rfl rfl hl.1 rfl (lv_room (Nat.le_of_ble_eq_true rfl)) dX6_addGiven_1 ⟨Nat.le_of_ble_eq_true rfl, Nat.le_of_ble_eq_true rfl⟩) hS (fun q _ h => hFc q h) hFc (fun _u q1 t H locs ht hvm hw hB hz1 hk1 hS => ?_)
  obtain ⟨n2, g3, hn4, hP1, hK1, hD1⟩ := hB
  rw [ht] at hP1
  obtain ⟨hP, hD⟩ := va_join (wr := [(h0, .inr (6, [.ref a0, .ref a1, .ref a2, .ref a3, .int sy, .int sb, .ref a6, .ref a7, .ref a8, .ref a9, .ref a10, .int tp, .int lm])), (a0, .inl (cJ, 2560, .inr (.inl f0))), (a1, .inl (cJ, 2560, .inr (.inl f1))), (a2, .inl (cI, 2560, .inl f2)), (a6, .inl (cI, 3760, .inl f6)), (a7, .inl (cI, 3760, .inl f7)), (a8, .inl (cI, 3760, .inl f8)), (a9, .inl (cI, 3760, .inl f9))]) (w1 := [(q1, .inl (cC, n2, .inl g3))]) hP hD [] [0, 1, 2, 3, 4, 5, 6, 7] rfl rfl (by decide) (by decide) hk1 hFc hP1 hD1
  have hP : va_P (dC, dI) vwCl [(h0, .inr (6, [.ref a0, .ref a1, .ref a2, .ref a3, .int sy, .int sb, .ref a6, .ref a7, .ref a8, .ref a9, .ref a10, .int tp, .int lm])), (a0, .inl (cJ, 2560, .inr (.inl f0))), (a1, .inl (cJ, 2560, .inr (.inl f1))), (a2, .inl (cI, 2560, .inl f2)), (a6, .inl (cI, 3760, .inl f6)), (a7, .inl (cI, 3760, .inl f7)), (a8, .inl (cI, 3760, .inl f8)), (a9, .inl (cI, 3760, .inl f9)), (q1, .inl (cC, n2, .inl g3))] H := hP
  have hD : va_D A [(h0, .inr (6, [.ref a0, .ref a1, .ref a2, .ref a3, .int sy, .int sb, .ref a6, .ref a7, .ref a8, .ref a9, .ref a10, .int tp, .int lm])), (a0, .inl (cJ, 2560, .inr (.inl f0))), (a1, .inl (cJ, 2560, .inr (.inl f1))), (a2, .inl (cI, 2560, .inl f2)), (a6, .inl (cI, 3760, .inl f6)), (a7, .inl (cI, 3760, .inl f7)), (a8, .inl (cI, 3760, .inl f8)), (a9, .inl (cI, 3760, .inl f9)), (q1, .inl (cC, n2, .inl g3))] := hD
  refine W.widen (k := 1) (n := 16) (Nat.le_of_ble_eq_true rfl) (Nat.le_of_ble_eq_true rfl) ?_
  refine lv_astore_n (lv' := [(2, .ref q1), (0, .ref h0), (1, .ref a)]) hx hb dX6_addGiven_4 rfl hl (by decide) rfl (fun ls hl => ?_)
  refine lv_aload_n hx hb dX6_addGiven_5 rfl (lv_at hl 1 rfl) ?_
  refine lv_aload_n hx hb dX6_addGiven_6 rfl (lv_at hl 0 rfl) ?_
  refine lv_iconst (v := 0) hx hb dX6_addGiven_7 (by decide) ?_
  refine lv_aload_n hx hb dX6_addGiven_8 rfl (lv_at hl 0 rfl) ?_
  refine va_alen hx hb hK hP 8 1 rfl rfl (v := nI n2) rfl dX6_addGiven_9 ?_
  have hPc := hP.sub (ws' := [(q1, .inl (cC, n2, .inl g3))]) [8] rfl
  have hDc := hD.sub (ws' := [(q1, .inl (cC, n2, .inl g3))]) [8] (by decide) rfl
  have hFc := va_free (wc := [(q1, .inl (cC, n2, .inl g3))]) hD hS hA [8] rfl
  refine va_calll (va_runS (As := [.ref q1, .int 0, .int (nI n2)]) (rest := [.ref h0]) ⟨hx, hb, hml, hown, hts⟩ (c_half l dC dI cB cC cI cJ cZ q1 n2 g3 0 (nI n2) hn4 H.size) (va_cwS 3 hts gX6_addGiven_X6_half rfl rfl rfl (by decide +kernel) ⟨Nat.le_of_ble_eq_true rfl, Nat.le_of_ble_eq_true rfl⟩) ⟨fun a U g mk q => by obtain ⟨q0, q1, qP, qK, qD⟩ := q; exact ⟨q0, q1, qP, va_K.moved (u := U) (U := U.calling g mk a) (Vm.Alike.refl U.vm) qK, qD⟩, fun U hU hW => ⟨rfl, by rw [hU], by rw [hU]; exact hPc, va_K.moved hW.alike hK, hDc.weaken (fun _ _ _ _ => trivial)⟩⟩ rfl rfl hl.1 rfl (lv_room (Nat.le_of_ble_eq_true rfl)) dX6_addGiven_10 ⟨Nat.le_of_ble_eq_true rfl, Nat.le_of_ble_eq_true rfl⟩) hS (fun q _ h => hFc q h) hFc (fun r5 _u t H locs ht hvm hw hB hz1 hk1 hS => ?_)
  obtain ⟨hP1, hK1, hD1⟩ := hB
  rw [ht] at hP1
  obtain ⟨hP, hD⟩ := va_join (wr := [(h0, .inr (6, [.ref a0, .ref a1, .ref a2, .ref a3, .int sy, .int sb, .ref a6, .ref a7, .ref a8, .ref a9, .ref a10, .int tp, .int lm])), (a0, .inl (cJ, 2560, .inr (.inl f0))), (a1, .inl (cJ, 2560, .inr (.inl f1))), (a2, .inl (cI, 2560, .inl f2)), (a6, .inl (cI, 3760, .inl f6)), (a7, .inl (cI, 3760, .inl f7)), (a8, .inl (cI, 3760, .inl f8)), (a9, .inl (cI, 3760, .inl f9))]) (w1 := [(q1, .inl (cC, n2, .inl g3))]) hP hD [8] [0, 1, 2, 3, 4, 5, 6, 7] rfl rfl (by decide) (by decide) hk1 hFc hP1 hD1
  have hP : va_P (dC, dI) vwCl [(h0, .inr (6, [.ref a0, .ref a1, .ref a2, .ref a3, .int sy, .int sb, .ref a6, .ref a7, .ref a8, .ref a9, .ref a10, .int tp, .int lm])), (a0, .inl (cJ, 2560, .inr (.inl f0))), (a1, .inl (cJ, 2560, .inr (.inl f1))), (a2, .inl (cI, 2560, .inl f2)), (a6, .inl (cI, 3760, .inl f6)), (a7, .inl (cI, 3760, .inl f7)), (a8, .inl (cI, 3760, .inl f8)), (a9, .inl (cI, 3760, .inl f9)), (q1, .inl (cC, n2, .inl g3))] H := hP
  have hD : va_D A [(h0, .inr (6, [.ref a0, .ref a1, .ref a2, .ref a3, .int sy, .int sb, .ref a6, .ref a7, .ref a8, .ref a9, .ref a10, .int tp, .int lm])), (a0, .inl (cJ, 2560, .inr (.inl f0))), (a1, .inl (cJ, 2560, .inr (.inl f1))), (a2, .inl (cI, 2560, .inl f2)), (a6, .inl (cI, 3760, .inl f6)), (a7, .inl (cI, 3760, .inl f7)), (a8, .inl (cI, 3760, .inl f8)), (a9, .inl (cI, 3760, .inl f9)), (q1, .inl (cC, n2, .inl g3))] := hD
  refine W.widen (k := 1) (n := 16) (Nat.le_of_ble_eq_true rfl) (Nat.le_of_ble_eq_true rfl) ?_
  refine lv_aload_n hx hb dX6_addGiven_13 rfl (lv_at hl 0 rfl) ?_
  refine lv_bipush (v := 8) hx hb dX6_addGiven_14 (by decide) ?_
  refine lv_aload_n hx hb dX6_addGiven_16 rfl (lv_at hl 0 rfl) ?_
  refine va_alen hx hb hK hP 8 1 rfl rfl (v := nI n2) rfl dX6_addGiven_17 ?_
  have hPc := hP.sub (ws' := [(q1, .inl (cC, n2, .inl g3))]) [8] rfl
  have hDc := hD.sub (ws' := [(q1, .inl (cC, n2, .inl g3))]) [8] (by decide) rfl
  have hFc := va_free (wc := [(q1, .inl (cC, n2, .inl g3))]) hD hS hA [8] rfl
  refine va_calll (va_runS (As := [.ref q1, .int 8, .int (nI n2)]) (rest := [.long r5, .ref h0]) ⟨hx, hb, hml, hown, hts⟩ (c_half l dC dI cB cC cI cJ cZ q1 n2 g3 8 (nI n2) hn4 H.size) (va_cwS 3 hts gX6_addGiven_X6_half rfl rfl rfl (by decide +kernel) ⟨Nat.le_of_ble_eq_true rfl, Nat.le_of_ble_eq_true rfl⟩) ⟨fun a U g mk q => by obtain ⟨q0, q1, qP, qK, qD⟩ := q; exact ⟨q0, q1, qP, va_K.moved (u := U) (U := U.calling g mk a) (Vm.Alike.refl U.vm) qK, qD⟩, fun U hU hW => ⟨rfl, by rw [hU], by rw [hU]; exact hPc, va_K.moved hW.alike hK, hDc.weaken (fun _ _ _ _ => trivial)⟩⟩ rfl rfl hl.1 rfl (lv_room (Nat.le_of_ble_eq_true rfl)) dX6_addGiven_18 ⟨Nat.le_of_ble_eq_true rfl, Nat.le_of_ble_eq_true rfl⟩) hS (fun q _ h => hFc q h) hFc (fun r6 _u t H locs ht hvm hw hB hz1 hk1 hS => ?_)
  obtain ⟨hP1, hK1, hD1⟩ := hB
  rw [ht] at hP1
  obtain ⟨hP, hD⟩ := va_join (wr := [(h0, .inr (6, [.ref a0, .ref a1, .ref a2, .ref a3, .int sy, .int sb, .ref a6, .ref a7, .ref a8, .ref a9, .ref a10, .int tp, .int lm])), (a0, .inl (cJ, 2560, .inr (.inl f0))), (a1, .inl (cJ, 2560, .inr (.inl f1))), (a2, .inl (cI, 2560, .inl f2)), (a6, .inl (cI, 3760, .inl f6)), (a7, .inl (cI, 3760, .inl f7)), (a8, .inl (cI, 3760, .inl f8)), (a9, .inl (cI, 3760, .inl f9))]) (w1 := [(q1, .inl (cC, n2, .inl g3))]) hP hD [8] [0, 1, 2, 3, 4, 5, 6, 7] rfl rfl (by decide) (by decide) hk1 hFc hP1 hD1
  have hP : va_P (dC, dI) vwCl [(h0, .inr (6, [.ref a0, .ref a1, .ref a2, .ref a3, .int sy, .int sb, .ref a6, .ref a7, .ref a8, .ref a9, .ref a10, .int tp, .int lm])), (a0, .inl (cJ, 2560, .inr (.inl f0))), (a1, .inl (cJ, 2560, .inr (.inl f1))), (a2, .inl (cI, 2560, .inl f2)), (a6, .inl (cI, 3760, .inl f6)), (a7, .inl (cI, 3760, .inl f7)), (a8, .inl (cI, 3760, .inl f8)), (a9, .inl (cI, 3760, .inl f9)), (q1, .inl (cC, n2, .inl g3))] H := hP
  have hD : va_D A [(h0, .inr (6, [.ref a0, .ref a1, .ref a2, .ref a3, .int sy, .int sb, .ref a6, .ref a7, .ref a8, .ref a9, .ref a10, .int tp, .int lm])), (a0, .inl (cJ, 2560, .inr (.inl f0))), (a1, .inl (cJ, 2560, .inr (.inl f1))), (a2, .inl (cI, 2560, .inl f2)), (a6, .inl (cI, 3760, .inl f6)), (a7, .inl (cI, 3760, .inl f7)), (a8, .inl (cI, 3760, .inl f8)), (a9, .inl (cI, 3760, .inl f9)), (q1, .inl (cC, n2, .inl g3))] := hD
  refine W.widen (k := 1) (n := 16) (Nat.le_of_ble_eq_true rfl) (Nat.le_of_ble_eq_true rfl) ?_
  have hPc := hP.sub (ws' := [(h0, .inr (6, [.ref a0, .ref a1, .ref a2, .ref a3, .int sy, .int sb, .ref a6, .ref a7, .ref a8, .ref a9, .ref a10, .int tp, .int lm])), (a0, .inl (cJ, 2560, .inr (.inl f0))), (a1, .inl (cJ, 2560, .inr (.inl f1))), (a2, .inl (cI, 2560, .inl f2)), (a6, .inl (cI, 3760, .inl f6)), (a7, .inl (cI, 3760, .inl f7)), (a8, .inl (cI, 3760, .inl f8)), (a9, .inl (cI, 3760, .inl f9))]) [0, 1, 2, 3, 4, 5, 6, 7] rfl
  have hDc := hD.sub (ws' := [(h0, .inr (6, [.ref a0, .ref a1, .ref a2, .ref a3, .int sy, .int sb, .ref a6, .ref a7, .ref a8, .ref a9, .ref a10, .int tp, .int lm])), (a0, .inl (cJ, 2560, .inr (.inl f0))), (a1, .inl (cJ, 2560, .inr (.inl f1))), (a2, .inl (cI, 2560, .inl f2)), (a6, .inl (cI, 3760, .inl f6)), (a7, .inl (cI, 3760, .inl f7)), (a8, .inl (cI, 3760, .inl f8)), (a9, .inl (cI, 3760, .inl f9))]) [0, 1, 2, 3, 4, 5, 6, 7] (by decide) rfl
  have hFc := va_free (wc := [(h0, .inr (6, [.ref a0, .ref a1, .ref a2, .ref a3, .int sy, .int sb, .ref a6, .ref a7, .ref a8, .ref a9, .ref a10, .int tp, .int lm])), (a0, .inl (cJ, 2560, .inr (.inl f0))), (a1, .inl (cJ, 2560, .inr (.inl f1))), (a2, .inl (cI, 2560, .inl f2)), (a6, .inl (cI, 3760, .inl f6)), (a7, .inl (cI, 3760, .inl f7)), (a8, .inl (cI, 3760, .inl f8)), (a9, .inl (cI, 3760, .inl f9))]) hD hS hA [0, 1, 2, 3, 4, 5, 6, 7] rfl
  refine va_calli (va_runV (As := [.long r5, .long r6]) (rest := []) ⟨hx, hb, hml, hown, hts⟩ (c_addSymbol l dC dI cB cC cI cJ cZ h0 a0 a1 a2 a3 a6 a7 a8 a9 a10 sy sb tp lm f6 f7 f8 f9 f0 f1 f2 r5 r6 kt hkt hsy htp hR H.size) (cwV 2 hts gX6_addGiven_X6_addSymbol rfl rfl rfl (by decide +kernel) ⟨Nat.le_of_ble_eq_true rfl, Nat.le_of_ble_eq_true rfl⟩) ⟨fun a U g mk q => by obtain ⟨q0, q1, qP, qK, qD⟩ := q; exact ⟨q0, q1, qP, va_K.moved (u := U) (U := U.calling g mk a) (Vm.Alike.refl U.vm) qK, qD⟩, va_recv hK hPc (ci := 6) (q0 := 0) rfl rfl, fun U hU hW => ⟨rfl, by rw [hU], by rw [hU]; exact hPc, va_K.moved hW.alike hK, hDc.weaken (fun _ _ _ _ => trivial)⟩⟩ rfl rfl hl.1 rfl (lv_room (Nat.le_of_ble_eq_true rfl)) dX6_addGiven_21 ⟨Nat.le_of_ble_eq_true rfl, Nat.le_of_ble_eq_true rfl⟩) hS (fun q _ h => hFc q h) hFc (fun r7 _u t H locs ht hvm hw hB hz1 hk1 hS => ?_)
  obtain ⟨sy8, tp9, g10, g11, g12, g13, g14, g15, g16, hsy17, htp18, hR19, hP1, hK1, hD1⟩ := hB
  rw [ht] at hP1
  obtain ⟨hP, hD⟩ := va_join (wr := [(q1, .inl (cC, n2, .inl g3))]) (w1 := [(h0, .inr (6, [.ref a0, .ref a1, .ref a2, .ref a3, .int sy8, .int sb, .ref a6, .ref a7, .ref a8, .ref a9, .ref a10, .int tp9, .int lm])), (a0, .inl (cJ, 2560, .inr (.inl g10))), (a1, .inl (cJ, 2560, .inr (.inl g11))), (a2, .inl (cI, 2560, .inl g12)), (a6, .inl (cI, 3760, .inl g13)), (a7, .inl (cI, 3760, .inl g14)), (a8, .inl (cI, 3760, .inl g15)), (a9, .inl (cI, 3760, .inl g16))]) hP hD [0, 1, 2, 3, 4, 5, 6, 7] [8] rfl rfl (by decide) (by decide) hk1 hFc hP1 hD1
  have hP : va_P (dC, dI) vwCl [(q1, .inl (cC, n2, .inl g3)), (h0, .inr (6, [.ref a0, .ref a1, .ref a2, .ref a3, .int sy8, .int sb, .ref a6, .ref a7, .ref a8, .ref a9, .ref a10, .int tp9, .int lm])), (a0, .inl (cJ, 2560, .inr (.inl g10))), (a1, .inl (cJ, 2560, .inr (.inl g11))), (a2, .inl (cI, 2560, .inl g12)), (a6, .inl (cI, 3760, .inl g13)), (a7, .inl (cI, 3760, .inl g14)), (a8, .inl (cI, 3760, .inl g15)), (a9, .inl (cI, 3760, .inl g16))] H := hP
  have hD : va_D A [(q1, .inl (cC, n2, .inl g3)), (h0, .inr (6, [.ref a0, .ref a1, .ref a2, .ref a3, .int sy8, .int sb, .ref a6, .ref a7, .ref a8, .ref a9, .ref a10, .int tp9, .int lm])), (a0, .inl (cJ, 2560, .inr (.inl g10))), (a1, .inl (cJ, 2560, .inr (.inl g11))), (a2, .inl (cI, 2560, .inl g12)), (a6, .inl (cI, 3760, .inl g13)), (a7, .inl (cI, 3760, .inl g14)), (a8, .inl (cI, 3760, .inl g15)), (a9, .inl (cI, 3760, .inl g16))] := hD
  refine W.widen (k := 1) (n := 16) (Nat.le_of_ble_eq_true rfl) (Nat.le_of_ble_eq_true rfl) ?_
  refine lv_pop hx hb dX6_addGiven_24 rfl ?_
  refine W.widen (k := 1) (n := 16) (Nat.le_of_ble_eq_true rfl) (Nat.le_of_ble_eq_true rfl) ?_
  have hP9 := hP.sub (ws' := [(h0, .inr (6, [.ref a0, .ref a1, .ref a2, .ref a3, .int sy8, .int sb, .ref a6, .ref a7, .ref a8, .ref a9, .ref a10, .int tp9, .int lm])), (a0, .inl (cJ, 2560, .inr (.inl g10))), (a1, .inl (cJ, 2560, .inr (.inl g11))), (a2, .inl (cI, 2560, .inl g12)), (a6, .inl (cI, 3760, .inl g13)), (a7, .inl (cI, 3760, .inl g14)), (a8, .inl (cI, 3760, .inl g15)), (a9, .inl (cI, 3760, .inl g16))]) [1, 2, 3, 4, 5, 6, 7, 8] rfl
  have hD9 := hD.sub (ws' := [(h0, .inr (6, [.ref a0, .ref a1, .ref a2, .ref a3, .int sy8, .int sb, .ref a6, .ref a7, .ref a8, .ref a9, .ref a10, .int tp9, .int lm])), (a0, .inl (cJ, 2560, .inr (.inl g10))), (a1, .inl (cJ, 2560, .inr (.inl g11))), (a2, .inl (cI, 2560, .inl g12)), (a6, .inl (cI, 3760, .inl g13)), (a7, .inl (cI, 3760, .inl g14)), (a8, .inl (cI, 3760, .inl g15)), (a9, .inl (cI, 3760, .inl g16))]) [1, 2, 3, 4, 5, 6, 7, 8] (by decide) rfl
  exact W.vret hx hb hr (fun t ht hW => ⟨⟨(), rfl, trivial, sy8, tp9, g10, g11, g12, g13, g14, g15, g16, hsy17, htp18, hR19, by rw [ht]; exact hP9, va_K.moved hW.alike hK, hD9⟩, hS.F ht⟩) hS.2.2 dX6_addGiven_25

/-- the nine String constants -/
def SA (ad : Nat → Nat) (A : Nat → Prop) (U : State) (H : Heap) : Prop := (vk_R RX6 53 "lambda" (ad 0) U ∧ vk_R RX6 59 "if" (ad 1) U ∧ vk_R RX6 61 "quote" (ad 2) U ∧ vk_R RX6 63 "let-syntax" (ad 3) U ∧ vk_R RX6 65 "syntax-rules" (ad 4) U ∧ vk_R RX6 67 "define" (ad 5) U ∧ vk_R RX6 69 "define-syntax" (ad 6) U ∧ vk_R RX6 71 "..." (ad 7) U ∧ vk_R RX6 73 "_" (ad 8) U) ∧ ∀ i, i < 9 → StrOK (ad i) A U H
theorem SA.warm {ad : Nat → Nat} {A : Nat → Prop} {s U : State} {H : Heap} (h : SA ad A s H) (hW : s.WarmedH U.vm) : SA ad A U H := ⟨⟨vk_R.warm hW h.1.1, vk_R.warm hW h.1.2.1, vk_R.warm hW h.1.2.2.1, vk_R.warm hW h.1.2.2.2.1, vk_R.warm hW h.1.2.2.2.2.1, vk_R.warm hW h.1.2.2.2.2.2.1, vk_R.warm hW h.1.2.2.2.2.2.2.1, vk_R.warm hW h.1.2.2.2.2.2.2.2.1, vk_R.warm hW h.1.2.2.2.2.2.2.2.2⟩, fun i hi => (h.2 i hi).moved hW.alike⟩
theorem SA.same {ad : Nat → Nat} {A : Nat → Prop} {s U : State} {H : Heap} (h : SA ad A s H) (hv : U.vm = s.vm) (hal : s.vm.Alike U.vm) : SA ad A U H := ⟨⟨vk_R.same hv h.1.1, vk_R.same hv h.1.2.1, vk_R.same hv h.1.2.2.1, vk_R.same hv h.1.2.2.2.1, vk_R.same hv h.1.2.2.2.2.1, vk_R.same hv h.1.2.2.2.2.2.1, vk_R.same hv h.1.2.2.2.2.2.2.1, vk_R.same hv h.1.2.2.2.2.2.2.2.1, vk_R.same hv h.1.2.2.2.2.2.2.2.2⟩, fun i hi => (h.2 i hi).moved hal⟩
theorem SA.kept {ad : Nat → Nat} {A : Nat → Prop} {U : State} {H H1 : Heap} (h : SA ad A U H) (hq : ∀ a : Nat, a < H.size → ¬ A a → H1[a]? = H[a]?) : SA ad A U H1 := ⟨h.1, fun i hi => (h.2 i hi).kept hq⟩
theorem SA.narrow {ad : Nat → Nat} {A B : Nat → Prop} {U : State} {H : Heap} (h : SA ad A U H) (hAB : ∀ q, B q → A q) : SA ad B U H := ⟨h.1, fun i hi => (h.2 i hi).narrow hAB⟩
set_option maxHeartbeats 4000000 in
set_option maxRecDepth 100000 in
/-- Names(): nine symbols, none of them a macro -/
theorem c_Names (l : Launch) (dC : Nat → ClassId) (dI : Nat → Nat → Nat) (cB cC cI cJ cZ : ClassId) (h0 : Nat) (ad : Nat → Nat)  (sz : Nat) : Met l yX6_init wsX6_init { frames := 4, cells := 18, slots := 29184, locals := 88 } (va_Pc [.ref h0] (fun U => U.heap.size = sz ∧ va_P (dC, dI) vwCl [(h0, .inr (6, [.null, .null, .null, .null, .int 0, .int 0, .null, .null, .null, .null, .null, .int 0, .int 0]))] U.heap ∧ va_K (dC, dI) vwCl (TY cB cC cI cJ cZ) U ∧ va_D (fun _ => True) [(h0, .inr (6, [.null, .null, .null, .null, .int 0, .int 0, .null, .null, .null, .null, .null, .int 0, .int 0]))] ∧ SA ad (va_A [(h0, .inr (6, [.null, .null, .null, .null, .int 0, .int 0, .null, .null, .null, .null, .null, .int 0, .int 0]))] sz) U U.heap)) (va_Qv (fun (_ : Unit) => True) (fun (_ : Unit) (t : State) => ∃ (a0 : Nat), ∃ (a1 : Nat), ∃ (a2 : Nat), ∃ (a3 : Nat), ∃ (a6 : Nat), ∃ (a7 : Nat), ∃ (a8 : Nat), ∃ (a9 : Nat), ∃ (a10 : Nat), ∃ (sy : Int32), ∃ (tp : Int32), ∃ (f2 : Nat → Int32), sy = nI 9 ∧ ∀ j, j < 9 → f2 j = -1 ∧ va_P (dC, dI) vwCl [(h0, .inr (6, [.ref a0, .ref a1, .ref a2, .ref a3, .int sy, .int 0, .ref a6, .ref a7, .ref a8, .ref a9, .ref a10, .int tp, .int 0])), (a2, .inl (cI, 2560, .inl f2)), (a3, .inl (cI, 2560, .inl (fun _ => 0)))] t.heap ∧ va_K (dC, dI) vwCl (TY cB cC cI cJ cZ) t ∧ va_D (va_A [(h0, .inr (6, [.null, .null, .null, .null, .int 0, .int 0, .null, .null, .null, .null, .null, .int 0, .int 0]))] sz) [(h0, .inr (6, [.ref a0, .ref a1, .ref a2, .ref a3, .int sy, .int 0, .ref a6, .ref a7, .ref a8, .ref a9, .ref a10, .int tp, .int 0])), (a2, .inl (cI, 2560, .inl f2)), (a3, .inl (cI, 2560, .inl (fun _ => 0)))]) (va_A [(h0, .inr (6, [.null, .null, .null, .null, .int 0, .int 0, .null, .null, .null, .null, .null, .int 0, .int 0]))] sz)) 18 29184 (va_A [(h0, .inr (6, [.null, .null, .null, .null, .int 0, .int 0, .null, .null, .null, .null, .null, .int 0, .int 0]))] sz) := by
  refine Met.ofW (cc := cX6_init) (maxL := 1) (ret := none) (by decide) rfl ?_
  intro p e s m args below meth c s₁ B hml hv
  obtain ⟨rfl, hsz, hP, hK, hD0, hX⟩ := hv
  have hx := B.exec
  have hb := B.bytes
  have hr := B.returns
  have hts := atoms_spec (ws := wsX6_init) B.pre
  have hown : s.vm.findClass RX6 = some m.cls := findClass_of_methodNamed B.named
  have hlocks := B.notSynchronized
  have hin : meth.name = "<init>" := (name_of_methodNamed B.named B.method).1
  subst hsz
  have hD := hD0.self (sz := s.heap.size)
  generalize hAe : va_A [(h0, .inr (6, [.null, .null, .null, .null, .int 0, .int 0, .null, .null, .null, .null, .null, .int 0, .int 0]))] s.heap.size = A at hD hX ⊢
  have hA : ∀ q : Nat, s.heap.size ≤ q → A q := fun q h => by rw [← hAe]; exact Or.inr h
  have hS : va_S A s.heap s.heap [] := va_S.rf
  have hP : va_P (dC, dI) vwCl [(h0, .inr (6, [.null, .null, .null, .null, .int 0, .int 0, .null, .null, .null, .null, .null, .int 0, .int 0]))] s.heap := hP
  have hl := lv_entry ([.ref h0]) (n := 1) (Nat.le_of_ble_eq_true rfl)
  rw [lg_entry_eq]
  generalize (lg_sl ([.ref h0]) ++ List.replicate (1 - (lg_sl ([.ref h0])).length) Slot.unset).toArray = ls at hl ⊢
  have hl : lv_has ls 1 [(0, .ref h0)] := hl
  refine lv_aload_n hx hb dX6_init_0 rfl (lv_at hl 0 rfl) ?_
  refine W.objInit hx hb hown (hts _ lkX6_init_o3) (hts _ lkX6_init_oi) (hts _ lkX6_init_oc) rfl (by rw [hml]; exact hl.1) rfl dX6_init_1 (Nat.le_of_ble_eq_true rfl) (Nat.le_of_ble_eq_true rfl) ?_
  refine W.eq (g2 := F0 m 4 ls []) rfl ?_
  refine lv_aload_n hx hb dX6_init_4 rfl (lv_at hl 0 rfl) ?_
  refine lv_sipush (v := 2560) hx hb dX6_init_5 (by decide) ?_
  refine na_long (N' := 2560) hx hb (hts _ lkX6_init_along) hK hP hD hS hA (by decide) (by decide) (by decide) (Nat.le_of_ble_eq_true rfl) (Nat.le_of_ble_eq_true rfl) dX6_init_8 (fun q1 H hP hD hS => ?_)
  have hP : va_P (dC, dI) vwCl [(h0, .inr (6, [.null, .null, .null, .null, .int 0, .int 0, .null, .null, .null, .null, .null, .int 0, .int 0])), (q1, .inl (cJ, 2560, .inr (.inl (fun _ => 0))))] H := hP
  have hD : va_D A [(h0, .inr (6, [.null, .null, .null, .null, .int 0, .int 0, .null, .null, .null, .null, .null, .int 0, .int 0])), (q1, .inl (cJ, 2560, .inr (.inl (fun _ => 0))))] := hD
  refine W.widen (k := 1) (n := 2560) (Nat.le_of_ble_eq_true rfl) (Nat.le_of_ble_eq_true rfl) ?_
  refine va_putF (D := (dC, dI)) (ci := 6) (v := .ref q1) (ty := .array .long) (C := RX6) (T := TX6) (N := 13) hx hb hts inX6_init_X6 tyX6 tyX6_ok nmX6 hown hK hP hD hS 0 rfl rfl 0 (by decide) (hts _ lkX6_init_f9) (fun _ h9 => h9) rfl hin rfl (by decide +kernel) rfl rfl (Nat.le_of_ble_eq_true rfl) dX6_init_10 (fun H locs hP hD hS => ?_)
  have hP : va_P (dC, dI) vwCl [(h0, .inr (6, [.ref q1, .null, .null, .null, .int 0, .int 0, .null, .null, .null, .null, .null, .int 0, .int 0])), (q1, .inl (cJ, 2560, .inr (.inl (fun _ => 0))))] H := hP
  have hD : va_D A [(h0, .inr (6, [.ref q1, .null, .null, .null, .int 0, .int 0, .null, .null, .null, .null, .null, .int 0, .int 0])), (q1, .inl (cJ, 2560, .inr (.inl (fun _ => 0))))] := hD
  refine lv_aload_n hx hb dX6_init_13 rfl (lv_at hl 0 rfl) ?_
  refine lv_sipush (v := 2560) hx hb dX6_init_14 (by decide) ?_
  refine na_long (N' := 2560) hx hb (hts _ lkX6_init_along) hK hP hD hS hA (by decide) (by decide) (by decide) (Nat.le_of_ble_eq_true rfl) (Nat.le_of_ble_eq_true rfl) dX6_init_17 (fun q2 H hP hD hS => ?_)
  have hP : va_P (dC, dI) vwCl [(h0, .inr (6, [.ref q1, .null, .null, .null, .int 0, .int 0, .null, .null, .null, .null, .null, .int 0, .int 0])), (q1, .inl (cJ, 2560, .inr (.inl (fun _ => 0)))), (q2, .inl (cJ, 2560, .inr (.inl (fun _ => 0))))] H := hP
  have hD : va_D A [(h0, .inr (6, [.ref q1, .null, .null, .null, .int 0, .int 0, .null, .null, .null, .null, .null, .int 0, .int 0])), (q1, .inl (cJ, 2560, .inr (.inl (fun _ => 0)))), (q2, .inl (cJ, 2560, .inr (.inl (fun _ => 0))))] := hD
  refine W.widen (k := 2) (n := 5120) (Nat.le_of_ble_eq_true rfl) (Nat.le_of_ble_eq_true rfl) ?_
  refine va_putF (D := (dC, dI)) (ci := 6) (v := .ref q2) (ty := .array .long) (C := RX6) (T := TX6) (N := 13) hx hb hts inX6_init_X6 tyX6 tyX6_ok nmX6 hown hK hP hD hS 0 rfl rfl 1 (by decide) (hts _ lkX6_init_f15) (fun _ h9 => h9) rfl hin rfl (by decide +kernel) rfl rfl (Nat.le_of_ble_eq_true rfl) dX6_init_19 (fun H locs hP hD hS => ?_)
  have hP : va_P (dC, dI) vwCl [(h0, .inr (6, [.ref q1, .ref q2, .null, .null, .int 0, .int 0, .null, .null, .null, .null, .null, .int 0, .int 0])), (q1, .inl (cJ, 2560, .inr (.inl (fun _ => 0)))), (q2, .inl (cJ, 2560, .inr (.inl (fun _ => 0))))] H := hP
  have hD : va_D A [(h0, .inr (6, [.ref q1, .ref q2, .null, .null, .int 0, .int 0, .null, .null, .null, .null, .null, .int 0, .int 0])), (q1, .inl (cJ, 2560, .inr (.inl (fun _ => 0)))), (q2, .inl (cJ, 2560, .inr (.inl (fun _ => 0))))] := hD
  refine lv_aload_n hx hb dX6_init_22 rfl (lv_at hl 0 rfl) ?_
  refine lv_sipush (v := 2560) hx hb dX6_init_23 (by decide) ?_
  refine na_int (N' := 2560) hx hb (hts _ lkX6_init_aint) hK hP hD hS hA (by decide) (by decide) (by decide) (Nat.le_of_ble_eq_true rfl) (Nat.le_of_ble_eq_true rfl) dX6_init_26 (fun q3 H hP hD hS => ?_)
  have hP : va_P (dC, dI) vwCl [(h0, .inr (6, [.ref q1, .ref q2, .null, .null, .int 0, .int 0, .null, .null, .null, .null, .null, .int 0, .int 0])), (q1, .inl (cJ, 2560, .inr (.inl (fun _ => 0)))), (q2, .inl (cJ, 2560, .inr (.inl (fun _ => 0)))), (q3, .inl (cI, 2560, .inl (fun _ => 0)))] H := hP
  have hD : va_D A [(h0, .inr (6, [.ref q1, .ref q2, .null, .null, .int 0, .int 0, .null, .null, .null, .null, .null, .int 0, .int 0])), (q1, .inl (cJ, 2560, .inr (.inl (fun _ => 0)))), (q2, .inl (cJ, 2560, .inr (.inl (fun _ => 0)))), (q3, .inl (cI, 2560, .inl (fun _ => 0)))] := hD
  refine W.widen (k := 3) (n := 7680) (Nat.le_of_ble_eq_true rfl) (Nat.le_of_ble_eq_true rfl) ?_
  refine va_putF (D := (dC, dI)) (ci := 6) (v := .ref q3) (ty := .array .int) (C := RX6) (T := TX6) (N := 13) hx hb hts inX6_init_X6 tyX6 tyX6_ok nmX6 hown hK hP hD hS 0 rfl rfl 2 (by decide) (hts _ lkX6_init_f18) (fun _ h9 => h9) rfl hin rfl (by decide +kernel) rfl rfl (Nat.le_of_ble_eq_true rfl) dX6_init_28 (fun H locs hP hD hS => ?_)
  have hP : va_P (dC, dI) vwCl [(h0, .inr (6, [.ref q1, .ref q2, .ref q3, .null, .int 0, .int 0, .null, .null, .null, .null, .null, .int 0, .int 0])), (q1, .inl (cJ, 2560, .inr (.inl (fun _ => 0)))), (q2, .inl (cJ, 2560, .inr (.inl (fun _ => 0)))), (q3, .inl (cI, 2560, .inl (fun _ => 0)))] H := hP
  have hD : va_D A [(h0, .inr (6, [.ref q1, .ref q2, .ref q3, .null, .int 0, .int 0, .null, .null, .null, .null, .null, .int 0, .int 0])), (q1, .inl (cJ, 2560, .inr (.inl (fun _ => 0)))), (q2, .inl (cJ, 2560, .inr (.inl (fun _ => 0)))), (q3, .inl (cI, 2560, .inl (fun _ => 0)))] := hD
  refine lv_aload_n hx hb dX6_init_31 rfl (lv_at hl 0 rfl) ?_
  refine lv_sipush (v := 2560) hx hb dX6_init_32 (by decide) ?_
  refine na_int (N' := 2560) hx hb (hts _ lkX6_init_aint) hK hP hD hS hA (by decide) (by decide) (by decide) (Nat.le_of_ble_eq_true rfl) (Nat.le_of_ble_eq_true rfl) dX6_init_35 (fun q4 H hP hD hS => ?_)
  have hP : va_P (dC, dI) vwCl [(h0, .inr (6, [.ref q1, .ref q2, .ref q3, .null, .int 0, .int 0, .null, .null, .null, .null, .null, .int 0, .int 0])), (q1, .inl (cJ, 2560, .inr (.inl (fun _ => 0)))), (q2, .inl (cJ, 2560, .inr (.inl (fun _ => 0)))), (q3, .inl (cI, 2560, .inl (fun _ => 0))), (q4, .inl (cI, 2560, .inl (fun _ => 0)))] H := hP
  have hD : va_D A [(h0, .inr (6, [.ref q1, .ref q2, .ref q3, .null, .int 0, .int 0, .null, .null, .null, .null, .null, .int 0, .int 0])), (q1, .inl (cJ, 2560, .inr (.inl (fun _ => 0)))), (q2, .inl (cJ, 2560, .inr (.inl (fun _ => 0)))), (q3, .inl (cI, 2560, .inl (fun _ => 0))), (q4, .inl (cI, 2560, .inl (fun _ => 0)))] := hD
  refine W.widen (k := 4) (n := 10240) (Nat.le_of_ble_eq_true rfl) (Nat.le_of_ble_eq_true rfl) ?_
  refine va_putF (D := (dC, dI)) (ci := 6) (v := .ref q4) (ty := .array .int) (C := RX6) (T := TX6) (N := 13) hx hb hts inX6_init_X6 tyX6 tyX6_ok nmX6 hown hK hP hD hS 0 rfl rfl 3 (by decide) (hts _ lkX6_init_f22) (fun _ h9 => h9) rfl hin rfl (by decide +kernel) rfl rfl (Nat.le_of_ble_eq_true rfl) dX6_init_37 (fun H locs hP hD hS => ?_)
  have hP : va_P (dC, dI) vwCl [(h0, .inr (6, [.ref q1, .ref q2, .ref q3, .ref q4, .int 0, .int 0, .null, .null, .null, .null, .null, .int 0, .int 0])), (q1, .inl (cJ, 2560, .inr (.inl (fun _ => 0)))), (q2, .inl (cJ, 2560, .inr (.inl (fun _ => 0)))), (q3, .inl (cI, 2560, .inl (fun _ => 0))), (q4, .inl (cI, 2560, .inl (fun _ => 0)))] H := hP
  have hD : va_D A [(h0, .inr (6, [.ref q1, .ref q2, .ref q3, .ref q4, .int 0, .int 0, .null, .null, .null, .null, .null, .int 0, .int 0])), (q1, .inl (cJ, 2560, .inr (.inl (fun _ => 0)))), (q2, .inl (cJ, 2560, .inr (.inl (fun _ => 0)))), (q3, .inl (cI, 2560, .inl (fun _ => 0))), (q4, .inl (cI, 2560, .inl (fun _ => 0)))] := hD
  refine lv_aload_n hx hb dX6_init_40 rfl (lv_at hl 0 rfl) ?_
  refine lv_iconst (v := 0) hx hb dX6_init_41 (by decide) ?_
  refine va_put (D := (dC, dI)) (ci := 6) (v := .int 0) (ty := .int) (C := RX6) (T := TX6) (N := 13) hx hb hts inX6_init_X6 tyX6 tyX6_ok nmX6 hown hK hP hD hS 0 rfl rfl 4 (by decide) (hts _ lkX6_init_f25) (fun _ h9 => h9) rfl (by decide +kernel) rfl rfl (Nat.le_of_ble_eq_true rfl) dX6_init_42 (fun H locs hP hD hS => ?_)
  have hP : va_P (dC, dI) vwCl [(h0, .inr (6, [.ref q1, .ref q2, .ref q3, .ref q4, .int 0, .int 0, .null, .null, .null, .null, .null, .int 0, .int 0])), (q1, .inl (cJ, 2560, .inr (.inl (fun _ => 0)))), (q2, .inl (cJ, 2560, .inr (.inl (fun _ => 0)))), (q3, .inl (cI, 2560, .inl (fun _ => 0))), (q4, .inl (cI, 2560, .inl (fun _ => 0)))] H := hP
  have hD : va_D A [(h0, .inr (6, [.ref q1, .ref q2, .ref q3, .ref q4, .int 0, .int 0, .null, .null, .null, .null, .null, .int 0, .int 0])), (q1, .inl (cJ, 2560, .inr (.inl (fun _ => 0)))), (q2, .inl (cJ, 2560, .inr (.inl (fun _ => 0)))), (q3, .inl (cI, 2560, .inl (fun _ => 0))), (q4, .inl (cI, 2560, .inl (fun _ => 0)))] := hD
  refine lv_aload_n hx hb dX6_init_45 rfl (lv_at hl 0 rfl) ?_
  refine lv_iconst (v := 0) hx hb dX6_init_46 (by decide) ?_
  refine va_put (D := (dC, dI)) (ci := 6) (v := .int 0) (ty := .int) (C := RX6) (T := TX6) (N := 13) hx hb hts inX6_init_X6 tyX6 tyX6_ok nmX6 hown hK hP hD hS 0 rfl rfl 5 (by decide) (hts _ lkX6_init_f29) (fun _ h9 => h9) rfl (by decide +kernel) rfl rfl (Nat.le_of_ble_eq_true rfl) dX6_init_47 (fun H locs hP hD hS => ?_)
  have hP : va_P (dC, dI) vwCl [(h0, .inr (6, [.ref q1, .ref q2, .ref q3, .ref q4, .int 0, .int 0, .null, .null, .null, .null, .null, .int 0, .int 0])), (q1, .inl (cJ, 2560, .inr (.inl (fun _ => 0)))), (q2, .inl (cJ, 2560, .inr (.inl (fun _ => 0)))), (q3, .inl (cI, 2560, .inl (fun _ => 0))), (q4, .inl (cI, 2560, .inl (fun _ => 0)))] H := hP
  have hD : va_D A [(h0, .inr (6, [.ref q1, .ref q2, .ref q3, .ref q4, .int 0, .int 0, .null, .null, .null, .null, .null, .int 0, .int 0])), (q1, .inl (cJ, 2560, .inr (.inl (fun _ => 0)))), (q2, .inl (cJ, 2560, .inr (.inl (fun _ => 0)))), (q3, .inl (cI, 2560, .inl (fun _ => 0))), (q4, .inl (cI, 2560, .inl (fun _ => 0)))] := hD
  refine lv_aload_n hx hb dX6_init_50 rfl (lv_at hl 0 rfl) ?_
  refine lv_sipush (v := 3760) hx hb dX6_init_51 (by decide) ?_
  refine na_int (N' := 3760) hx hb (hts _ lkX6_init_aint) hK hP hD hS hA (by decide) (by decide) (by decide) (Nat.le_of_ble_eq_true rfl) (Nat.le_of_ble_eq_true rfl) dX6_init_54 (fun q5 H hP hD hS => ?_)
  have hP : va_P (dC, dI) vwCl [(h0, .inr (6, [.ref q1, .ref q2, .ref q3, .ref q4, .int 0, .int 0, .null, .null, .null, .null, .null, .int 0, .int 0])), (q1, .inl (cJ, 2560, .inr (.inl (fun _ => 0)))), (q2, .inl (cJ, 2560, .inr (.inl (fun _ => 0)))), (q3, .inl (cI, 2560, .inl (fun _ => 0))), (q4, .inl (cI, 2560, .inl (fun _ => 0))), (q5, .inl (cI, 3760, .inl (fun _ => 0)))] H := hP
  have hD : va_D A [(h0, .inr (6, [.ref q1, .ref q2, .ref q3, .ref q4, .int 0, .int 0, .null, .null, .null, .null, .null, .int 0, .int 0])), (q1, .inl (cJ, 2560, .inr (.inl (fun _ => 0)))), (q2, .inl (cJ, 2560, .inr (.inl (fun _ => 0)))), (q3, .inl (cI, 2560, .inl (fun _ => 0))), (q4, .inl (cI, 2560, .inl (fun _ => 0))), (q5, .inl (cI, 3760, .inl (fun _ => 0)))] := hD
  refine W.widen (k := 5) (n := 14000) (Nat.le_of_ble_eq_true rfl) (Nat.le_of_ble_eq_true rfl) ?_
  refine va_put (D := (dC, dI)) (ci := 6) (v := .ref q5) (ty := .array .int) (C := RX6) (T := TX6) (N := 13) hx hb hts inX6_init_X6 tyX6 tyX6_ok nmX6 hown hK hP hD hS 0 rfl rfl 6 (by decide) (hts _ lkX6_init_f32) (fun _ h9 => h9) rfl (by decide +kernel) rfl rfl (Nat.le_of_ble_eq_true rfl) dX6_init_56 (fun H locs hP hD hS => ?_)
  have hP : va_P (dC, dI) vwCl [(h0, .inr (6, [.ref q1, .ref q2, .ref q3, .ref q4, .int 0, .int 0, .ref q5, .null, .null, .null, .null, .int 0, .int 0])), (q1, .inl (cJ, 2560, .inr (.inl (fun _ => 0)))), (q2, .inl (cJ, 2560, .inr (.inl (fun _ => 0)))), (q3, .inl (cI, 2560, .inl (fun _ => 0))), (q4, .inl (cI, 2560, .inl (fun _ => 0))), (q5, .inl (cI, 3760, .inl (fun _ => 0)))] H := hP
  have hD : va_D A [(h0, .inr (6, [.ref q1, .ref q2, .ref q3, .ref q4, .int 0, .int 0, .ref q5, .null, .null, .null, .null, .int 0, .int 0])), (q1, .inl (cJ, 2560, .inr (.inl (fun _ => 0)))), (q2, .inl (cJ, 2560, .inr (.inl (fun _ => 0)))), (q3, .inl (cI, 2560, .inl (fun _ => 0))), (q4, .inl (cI, 2560, .inl (fun _ => 0))), (q5, .inl (cI, 3760, .inl (fun _ => 0)))] := hD
  refine lv_aload_n hx hb dX6_init_59 rfl (lv_at hl 0 rfl) ?_
  refine lv_sipush (v := 3760) hx hb dX6_init_60 (by decide) ?_
  refine na_int (N' := 3760) hx hb (hts _ lkX6_init_aint) hK hP hD hS hA (by decide) (by decide) (by decide) (Nat.le_of_ble_eq_true rfl) (Nat.le_of_ble_eq_true rfl) dX6_init_63 (fun q6 H hP hD hS => ?_)
  have hP : va_P (dC, dI) vwCl [(h0, .inr (6, [.ref q1, .ref q2, .ref q3, .ref q4, .int 0, .int 0, .ref q5, .null, .null, .null, .null, .int 0, .int 0])), (q1, .inl (cJ, 2560, .inr (.inl (fun _ => 0)))), (q2, .inl (cJ, 2560, .inr (.inl (fun _ => 0)))), (q3, .inl (cI, 2560, .inl (fun _ => 0))), (q4, .inl (cI, 2560, .inl (fun _ => 0))), (q5, .inl (cI, 3760, .inl (fun _ => 0))), (q6, .inl (cI, 3760, .inl (fun _ => 0)))] H := hP
  have hD : va_D A [(h0, .inr (6, [.ref q1, .ref q2, .ref q3, .ref q4, .int 0, .int 0, .ref q5, .null, .null, .null, .null, .int 0, .int 0])), (q1, .inl (cJ, 2560, .inr (.inl (fun _ => 0)))), (q2, .inl (cJ, 2560, .inr (.inl (fun _ => 0)))), (q3, .inl (cI, 2560, .inl (fun _ => 0))), (q4, .inl (cI, 2560, .inl (fun _ => 0))), (q5, .inl (cI, 3760, .inl (fun _ => 0))), (q6, .inl (cI, 3760, .inl (fun _ => 0)))] := hD
  refine W.widen (k := 6) (n := 17760) (Nat.le_of_ble_eq_true rfl) (Nat.le_of_ble_eq_true rfl) ?_
  refine va_put (D := (dC, dI)) (ci := 6) (v := .ref q6) (ty := .array .int) (C := RX6) (T := TX6) (N := 13) hx hb hts inX6_init_X6 tyX6 tyX6_ok nmX6 hown hK hP hD hS 0 rfl rfl 7 (by decide) (hts _ lkX6_init_f35) (fun _ h9 => h9) rfl (by decide +kernel) rfl rfl (Nat.le_of_ble_eq_true rfl) dX6_init_65 (fun H locs hP hD hS => ?_)
  have hP : va_P (dC, dI) vwCl [(h0, .inr (6, [.ref q1, .ref q2, .ref q3, .ref q4, .int 0, .int 0, .ref q5, .ref q6, .null, .null, .null, .int 0, .int 0])), (q1, .inl (cJ, 2560, .inr (.inl (fun _ => 0)))), (q2, .inl (cJ, 2560, .inr (.inl (fun _ => 0)))), (q3, .inl (cI, 2560, .inl (fun _ => 0))), (q4, .inl (cI, 2560, .inl (fun _ => 0))), (q5, .inl (cI, 3760, .inl (fun _ => 0))), (q6, .inl (cI, 3760, .inl (fun _ => 0)))] H := hP
  have hD : va_D A [(h0, .inr (6, [.ref q1, .ref q2, .ref q3, .ref q4, .int 0, .int 0, .ref q5, .ref q6, .null, .null, .null, .int 0, .int 0])), (q1, .inl (cJ, 2560, .inr (.inl (fun _ => 0)))), (q2, .inl (cJ, 2560, .inr (.inl (fun _ => 0)))), (q3, .inl (cI, 2560, .inl (fun _ => 0))), (q4, .inl (cI, 2560, .inl (fun _ => 0))), (q5, .inl (cI, 3760, .inl (fun _ => 0))), (q6, .inl (cI, 3760, .inl (fun _ => 0)))] := hD
  refine lv_aload_n hx hb dX6_init_68 rfl (lv_at hl 0 rfl) ?_
  refine lv_sipush (v := 3760) hx hb dX6_init_69 (by decide) ?_
  refine na_int (N' := 3760) hx hb (hts _ lkX6_init_aint) hK hP hD hS hA (by decide) (by decide) (by decide) (Nat.le_of_ble_eq_true rfl) (Nat.le_of_ble_eq_true rfl) dX6_init_72 (fun q7 H hP hD hS => ?_)
  have hP : va_P (dC, dI) vwCl [(h0, .inr (6, [.ref q1, .ref q2, .ref q3, .ref q4, .int 0, .int 0, .ref q5, .ref q6, .null, .null, .null, .int 0, .int 0])), (q1, .inl (cJ, 2560, .inr (.inl (fun _ => 0)))), (q2, .inl (cJ, 2560, .inr (.inl (fun _ => 0)))), (q3, .inl (cI, 2560, .inl (fun _ => 0))), (q4, .inl (cI, 2560, .inl (fun _ => 0))), (q5, .inl (cI, 3760, .inl (fun _ => 0))), (q6, .inl (cI, 3760, .inl (fun _ => 0))), (q7, .inl (cI, 3760, .inl (fun _ => 0)))] H := hP
  have hD : va_D A [(h0, .inr (6, [.ref q1, .ref q2, .ref q3, .ref q4, .int 0, .int 0, .ref q5, .ref q6, .null, .null, .null, .int 0, .int 0])), (q1, .inl (cJ, 2560, .inr (.inl (fun _ => 0)))), (q2, .inl (cJ, 2560, .inr (.inl (fun _ => 0)))), (q3, .inl (cI, 2560, .inl (fun _ => 0))), (q4, .inl (cI, 2560, .inl (fun _ => 0))), (q5, .inl (cI, 3760, .inl (fun _ => 0))), (q6, .inl (cI, 3760, .inl (fun _ => 0))), (q7, .inl (cI, 3760, .inl (fun _ => 0)))] := hD
  refine W.widen (k := 7) (n := 21520) (Nat.le_of_ble_eq_true rfl) (Nat.le_of_ble_eq_true rfl) ?_
  refine va_put (D := (dC, dI)) (ci := 6) (v := .ref q7) (ty := .array .int) (C := RX6) (T := TX6) (N := 13) hx hb hts inX6_init_X6 tyX6 tyX6_ok nmX6 hown hK hP hD hS 0 rfl rfl 8 (by decide) (hts _ lkX6_init_f38) (fun _ h9 => h9) rfl (by decide +kernel) rfl rfl (Nat.le_of_ble_eq_true rfl) dX6_init_74 (fun H locs hP hD hS => ?_)
  have hP : va_P (dC, dI) vwCl [(h0, .inr (6, [.ref q1, .ref q2, .ref q3, .ref q4, .int 0, .int 0, .ref q5, .ref q6, .ref q7, .null, .null, .int 0, .int 0])), (q1, .inl (cJ, 2560, .inr (.inl (fun _ => 0)))), (q2, .inl (cJ, 2560, .inr (.inl (fun _ => 0)))), (q3, .inl (cI, 2560, .inl (fun _ => 0))), (q4, .inl (cI, 2560, .inl (fun _ => 0))), (q5, .inl (cI, 3760, .inl (fun _ => 0))), (q6, .inl (cI, 3760, .inl (fun _ => 0))), (q7, .inl (cI, 3760, .inl (fun _ => 0)))] H := hP
  have hD : va_D A [(h0, .inr (6, [.ref q1, .ref q2, .ref q3, .ref q4, .int 0, .int 0, .ref q5, .ref q6, .ref q7, .null, .null, .int 0, .int 0])), (q1, .inl (cJ, 2560, .inr (.inl (fun _ => 0)))), (q2, .inl (cJ, 2560, .inr (.inl (fun _ => 0)))), (q3, .inl (cI, 2560, .inl (fun _ => 0))), (q4, .inl (cI, 2560, .inl (fun _ => 0))), (q5, .inl (cI, 3760, .inl (fun _ => 0))), (q6, .inl (cI, 3760, .inl (fun _ => 0))), (q7, .inl (cI, 3760, .inl (fun _ => 0)))] := hD
  refine lv_aload_n hx hb dX6_init_77 rfl (lv_at hl 0 rfl) ?_
  refine lv_sipush (v := 3760) hx hb dX6_init_78 (by decide) ?_
  refine na_int (N' := 3760) hx hb (hts _ lkX6_init_aint) hK hP hD hS hA (by decide) (by decide) (by decide) (Nat.le_of_ble_eq_true rfl) (Nat.le_of_ble_eq_true rfl) dX6_init_81 (fun q8 H hP hD hS => ?_)
  have hP : va_P (dC, dI) vwCl [(h0, .inr (6, [.ref q1, .ref q2, .ref q3, .ref q4, .int 0, .int 0, .ref q5, .ref q6, .ref q7, .null, .null, .int 0, .int 0])), (q1, .inl (cJ, 2560, .inr (.inl (fun _ => 0)))), (q2, .inl (cJ, 2560, .inr (.inl (fun _ => 0)))), (q3, .inl (cI, 2560, .inl (fun _ => 0))), (q4, .inl (cI, 2560, .inl (fun _ => 0))), (q5, .inl (cI, 3760, .inl (fun _ => 0))), (q6, .inl (cI, 3760, .inl (fun _ => 0))), (q7, .inl (cI, 3760, .inl (fun _ => 0))), (q8, .inl (cI, 3760, .inl (fun _ => 0)))] H := hP
  have hD : va_D A [(h0, .inr (6, [.ref q1, .ref q2, .ref q3, .ref q4, .int 0, .int 0, .ref q5, .ref q6, .ref q7, .null, .null, .int 0, .int 0])), (q1, .inl (cJ, 2560, .inr (.inl (fun _ => 0)))), (q2, .inl (cJ, 2560, .inr (.inl (fun _ => 0)))), (q3, .inl (cI, 2560, .inl (fun _ => 0))), (q4, .inl (cI, 2560, .inl (fun _ => 0))), (q5, .inl (cI, 3760, .inl (fun _ => 0))), (q6, .inl (cI, 3760, .inl (fun _ => 0))), (q7, .inl (cI, 3760, .inl (fun _ => 0))), (q8, .inl (cI, 3760, .inl (fun _ => 0)))] := hD
  refine W.widen (k := 8) (n := 25280) (Nat.le_of_ble_eq_true rfl) (Nat.le_of_ble_eq_true rfl) ?_
  refine va_put (D := (dC, dI)) (ci := 6) (v := .ref q8) (ty := .array .int) (C := RX6) (T := TX6) (N := 13) hx hb hts inX6_init_X6 tyX6 tyX6_ok nmX6 hown hK hP hD hS 0 rfl rfl 9 (by decide) (hts _ lkX6_init_f41) (fun _ h9 => h9) rfl (by decide +kernel) rfl rfl (Nat.le_of_ble_eq_true rfl) dX6_init_83 (fun H locs hP hD hS => ?_)
  have hP : va_P (dC, dI) vwCl [(h0, .inr (6, [.ref q1, .ref q2, .ref q3, .ref q4, .int 0, .int 0, .ref q5, .ref q6, .ref q7, .ref q8, .null, .int 0, .int 0])), (q1, .inl (cJ, 2560, .inr (.inl (fun _ => 0)))), (q2, .inl (cJ, 2560, .inr (.inl (fun _ => 0)))), (q3, .inl (cI, 2560, .inl (fun _ => 0))), (q4, .inl (cI, 2560, .inl (fun _ => 0))), (q5, .inl (cI, 3760, .inl (fun _ => 0))), (q6, .inl (cI, 3760, .inl (fun _ => 0))), (q7, .inl (cI, 3760, .inl (fun _ => 0))), (q8, .inl (cI, 3760, .inl (fun _ => 0)))] H := hP
  have hD : va_D A [(h0, .inr (6, [.ref q1, .ref q2, .ref q3, .ref q4, .int 0, .int 0, .ref q5, .ref q6, .ref q7, .ref q8, .null, .int 0, .int 0])), (q1, .inl (cJ, 2560, .inr (.inl (fun _ => 0)))), (q2, .inl (cJ, 2560, .inr (.inl (fun _ => 0)))), (q3, .inl (cI, 2560, .inl (fun _ => 0))), (q4, .inl (cI, 2560, .inl (fun _ => 0))), (q5, .inl (cI, 3760, .inl (fun _ => 0))), (q6, .inl (cI, 3760, .inl (fun _ => 0))), (q7, .inl (cI, 3760, .inl (fun _ => 0))), (q8, .inl (cI, 3760, .inl (fun _ => 0)))] := hD
  refine lv_aload_n hx hb dX6_init_86 rfl (lv_at hl 0 rfl) ?_
  refine lv_sipush (v := 3760) hx hb dX6_init_87 (by decide) ?_
  refine na_int (N' := 3760) hx hb (hts _ lkX6_init_aint) hK hP hD hS hA (by decide) (by decide) (by decide) (Nat.le_of_ble_eq_true rfl) (Nat.le_of_ble_eq_true rfl) dX6_init_90 (fun q9 H hP hD hS => ?_)
  have hP := hP.sub (ws' := [(h0, .inr (6, [.ref q1, .ref q2, .ref q3, .ref q4, .int 0, .int 0, .ref q5, .ref q6, .ref q7, .ref q8, .null, .int 0, .int 0])), (q1, .inl (cJ, 2560, .inr (.inl (fun _ => 0)))), (q2, .inl (cJ, 2560, .inr (.inl (fun _ => 0)))), (q3, .inl (cI, 2560, .inl (fun _ => 0))), (q4, .inl (cI, 2560, .inl (fun _ => 0))), (q5, .inl (cI, 3760, .inl (fun _ => 0))), (q6, .inl (cI, 3760, .inl (fun _ => 0))), (q7, .inl (cI, 3760, .inl (fun _ => 0))), (q8, .inl (cI, 3760, .inl (fun _ => 0)))]) [0, 1, 2, 3, 4, 5, 6, 7, 8] rfl
  have hD := hD.sub (ws' := [(h0, .inr (6, [.ref q1, .ref q2, .ref q3, .ref q4, .int 0, .int 0, .ref q5, .ref q6, .ref q7, .ref q8, .null, .int 0, .int 0])), (q1, .inl (cJ, 2560, .inr (.inl (fun _ => 0)))), (q2, .inl (cJ, 2560, .inr (.inl (fun _ => 0)))), (q3, .inl (cI, 2560, .inl (fun _ => 0))), (q4, .inl (cI, 2560, .inl (fun _ => 0))), (q5, .inl (cI, 3760, .inl (fun _ => 0))), (q6, .inl (cI, 3760, .inl (fun _ => 0))), (q7, .inl (cI, 3760, .inl (fun _ => 0))), (q8, .inl (cI, 3760, .inl (fun _ => 0)))]) [0, 1, 2, 3, 4, 5, 6, 7, 8] (by decide) rfl
  refine W.widen (k := 9) (n := 29040) (Nat.le_of_ble_eq_true rfl) (Nat.le_of_ble_eq_true rfl) ?_
  refine va_put (D := (dC, dI)) (ci := 6) (v := .ref q9) (ty := .array .int) (C := RX6) (T := TX6) (N := 13) hx hb hts inX6_init_X6 tyX6 tyX6_ok nmX6 hown hK hP hD hS 0 rfl rfl 10 (by decide) (hts _ lkX6_init_f44) (fun _ h9 => h9) rfl (by decide +kernel) rfl rfl (Nat.le_of_ble_eq_true rfl) dX6_init_92 (fun H locs hP hD hS => ?_)
  have hP : va_P (dC, dI) vwCl [(h0, .inr (6, [.ref q1, .ref q2, .ref q3, .ref q4, .int 0, .int 0, .ref q5, .ref q6, .ref q7, .ref q8, .ref q9, .int 0, .int 0])), (q1, .inl (cJ, 2560, .inr (.inl (fun _ => 0)))), (q2, .inl (cJ, 2560, .inr (.inl (fun _ => 0)))), (q3, .inl (cI, 2560, .inl (fun _ => 0))), (q4, .inl (cI, 2560, .inl (fun _ => 0))), (q5, .inl (cI, 3760, .inl (fun _ => 0))), (q6, .inl (cI, 3760, .inl (fun _ => 0))), (q7, .inl (cI, 3760, .inl (fun _ => 0))), (q8, .inl (cI, 3760, .inl (fun _ => 0)))] H := hP
  have hD : va_D A [(h0, .inr (6, [.ref q1, .ref q2, .ref q3, .ref q4, .int 0, .int 0, .ref q5, .ref q6, .ref q7, .ref q8, .ref q9, .int 0, .int 0])), (q1, .inl (cJ, 2560, .inr (.inl (fun _ => 0)))), (q2, .inl (cJ, 2560, .inr (.inl (fun _ => 0)))), (q3, .inl (cI, 2560, .inl (fun _ => 0))), (q4, .inl (cI, 2560, .inl (fun _ => 0))), (q5, .inl (cI, 3760, .inl (fun _ => 0))), (q6, .inl (cI, 3760, .inl (fun _ => 0))), (q7, .inl (cI, 3760, .inl (fun _ => 0))), (q8, .inl (cI, 3760, .inl (fun _ => 0)))] := hD
  refine lv_aload_n hx hb dX6_init_95 rfl (lv_at hl 0 rfl) ?_
  refine lv_iconst (v := 0) hx hb dX6_init_96 (by decide) ?_
  refine va_put (D := (dC, dI)) (ci := 6) (v := .int 0) (ty := .int) (C := RX6) (T := TX6) (N := 13) hx hb hts inX6_init_X6 tyX6 tyX6_ok nmX6 hown hK hP hD hS 0 rfl rfl 11 (by decide) (hts _ lkX6_init_f47) (fun _ h9 => h9) rfl (by decide +kernel) rfl rfl (Nat.le_of_ble_eq_true rfl) dX6_init_97 (fun H locs hP hD hS => ?_)
  have hP : va_P (dC, dI) vwCl [(h0, .inr (6, [.ref q1, .ref q2, .ref q3, .ref q4, .int 0, .int 0, .ref q5, .ref q6, .ref q7, .ref q8, .ref q9, .int 0, .int 0])), (q1, .inl (cJ, 2560, .inr (.inl (fun _ => 0)))), (q2, .inl (cJ, 2560, .inr (.inl (fun _ => 0)))), (q3, .inl (cI, 2560, .inl (fun _ => 0))), (q4, .inl (cI, 2560, .inl (fun _ => 0))), (q5, .inl (cI, 3760, .inl (fun _ => 0))), (q6, .inl (cI, 3760, .inl (fun _ => 0))), (q7, .inl (cI, 3760, .inl (fun _ => 0))), (q8, .inl (cI, 3760, .inl (fun _ => 0)))] H := hP
  have hD : va_D A [(h0, .inr (6, [.ref q1, .ref q2, .ref q3, .ref q4, .int 0, .int 0, .ref q5, .ref q6, .ref q7, .ref q8, .ref q9, .int 0, .int 0])), (q1, .inl (cJ, 2560, .inr (.inl (fun _ => 0)))), (q2, .inl (cJ, 2560, .inr (.inl (fun _ => 0)))), (q3, .inl (cI, 2560, .inl (fun _ => 0))), (q4, .inl (cI, 2560, .inl (fun _ => 0))), (q5, .inl (cI, 3760, .inl (fun _ => 0))), (q6, .inl (cI, 3760, .inl (fun _ => 0))), (q7, .inl (cI, 3760, .inl (fun _ => 0))), (q8, .inl (cI, 3760, .inl (fun _ => 0)))] := hD
  refine lv_aload_n hx hb dX6_init_100 rfl (lv_at hl 0 rfl) ?_
  refine lv_iconst (v := 0) hx hb dX6_init_101 (by decide) ?_
  refine va_put (D := (dC, dI)) (ci := 6) (v := .int 0) (ty := .int) (C := RX6) (T := TX6) (N := 13) hx hb hts inX6_init_X6 tyX6 tyX6_ok nmX6 hown hK hP hD hS 0 rfl rfl 12 (by decide) (hts _ lkX6_init_f50) (fun _ h9 => h9) rfl (by decide +kernel) rfl rfl (Nat.le_of_ble_eq_true rfl) dX6_init_102 (fun H locs hP hD hS => ?_)
  have hP : va_P (dC, dI) vwCl [(h0, .inr (6, [.ref q1, .ref q2, .ref q3, .ref q4, .int 0, .int 0, .ref q5, .ref q6, .ref q7, .ref q8, .ref q9, .int 0, .int 0])), (q1, .inl (cJ, 2560, .inr (.inl (fun _ => 0)))), (q2, .inl (cJ, 2560, .inr (.inl (fun _ => 0)))), (q3, .inl (cI, 2560, .inl (fun _ => 0))), (q4, .inl (cI, 2560, .inl (fun _ => 0))), (q5, .inl (cI, 3760, .inl (fun _ => 0))), (q6, .inl (cI, 3760, .inl (fun _ => 0))), (q7, .inl (cI, 3760, .inl (fun _ => 0))), (q8, .inl (cI, 3760, .inl (fun _ => 0)))] H := hP
  have hD : va_D A [(h0, .inr (6, [.ref q1, .ref q2, .ref q3, .ref q4, .int 0, .int 0, .ref q5, .ref q6, .ref q7, .ref q8, .ref q9, .int 0, .int 0])), (q1, .inl (cJ, 2560, .inr (.inl (fun _ => 0)))), (q2, .inl (cJ, 2560, .inr (.inl (fun _ => 0)))), (q3, .inl (cI, 2560, .inl (fun _ => 0))), (q4, .inl (cI, 2560, .inl (fun _ => 0))), (q5, .inl (cI, 3760, .inl (fun _ => 0))), (q6, .inl (cI, 3760, .inl (fun _ => 0))), (q7, .inl (cI, 3760, .inl (fun _ => 0))), (q8, .inl (cI, 3760, .inl (fun _ => 0)))] := hD
  refine lv_aload_n hx hb dX6_init_105 rfl (lv_at hl 0 rfl) ?_
  refine va_ldcS hx hb hown hX.1.1 dX6_init_106 ?_
  have hPc := hP.sub (ws' := [(h0, .inr (6, [.ref q1, .ref q2, .ref q3, .ref q4, .int 0, .int 0, .ref q5, .ref q6, .ref q7, .ref q8, .ref q9, .int 0, .int 0])), (q1, .inl (cJ, 2560, .inr (.inl (fun _ => 0)))), (q2, .inl (cJ, 2560, .inr (.inl (fun _ => 0)))), (q3, .inl (cI, 2560, .inl (fun _ => 0))), (q5, .inl (cI, 3760, .inl (fun _ => 0))), (q6, .inl (cI, 3760, .inl (fun _ => 0))), (q7, .inl (cI, 3760, .inl (fun _ => 0))), (q8, .inl (cI, 3760, .inl (fun _ => 0)))]) [0, 1, 2, 3, 5, 6, 7, 8] rfl
  have hDc := hD.sub (ws' := [(h0, .inr (6, [.ref q1, .ref q2, .ref q3, .ref q4, .int 0, .int 0, .ref q5, .ref q6, .ref q7, .ref q8, .ref q9, .int 0, .int 0])), (q1, .inl (cJ, 2560, .inr (.inl (fun _ => 0)))), (q2, .inl (cJ, 2560, .inr (.inl (fun _ => 0)))), (q3, .inl (cI, 2560, .inl (fun _ => 0))), (q5, .inl (cI, 3760, .inl (fun _ => 0))), (q6, .inl (cI, 3760, .inl (fun _ => 0))), (q7, .inl (cI, 3760, .inl (fun _ => 0))), (q8, .inl (cI, 3760, .inl (fun _ => 0)))]) [0, 1, 2, 3, 5, 6, 7, 8] (by decide) rfl
  have hFc := va_free (wc := [(h0, .inr (6, [.ref q1, .ref q2, .ref q3, .ref q4, .int 0, .int 0, .ref q5, .ref q6, .ref q7, .ref q8, .ref q9, .int 0, .int 0])), (q1, .inl (cJ, 2560, .inr (.inl (fun _ => 0)))), (q2, .inl (cJ, 2560, .inr (.inl (fun _ => 0)))), (q3, .inl (cI, 2560, .inl (fun _ => 0))), (q5, .inl (cI, 3760, .inl (fun _ => 0))), (q6, .inl (cI, 3760, .inl (fun _ => 0))), (q7, .inl (cI, 3760, .inl (fun _ => 0))), (q8, .inl (cI, 3760, .inl (fun _ => 0)))]) hD hS hA [0, 1, 2, 3, 5, 6, 7, 8] rfl
  refine va_callv (va_runV (As := [.ref (ad 0)]) (rest := []) ⟨hx, hb, hml, hown, hts⟩ (c_addGiven l dC dI cB cC cI cJ cZ h0 q1 q2 q3 q4 q5 q6 q7 q8 q9 0 0 0 0 (fun _ => 0) (fun _ => 0) (fun _ => 0) (fun _ => 0) (fun _ => 0) (fun _ => 0) (fun _ => 0) (ad 0) 0 (by decide) nI_0.symm nI_0.symm (fun j hj => absurd hj (Nat.not_lt_zero j)) H.size) (cwV 1 hts gX6_init_X6_addGiven rfl rfl rfl (by decide +kernel) ⟨Nat.le_of_ble_eq_true rfl, Nat.le_of_ble_eq_true rfl⟩) ⟨fun a U g mk q => by obtain ⟨q0, q1, qP, qK, qD, qX⟩ := q; exact ⟨q0, q1, qP, va_K.moved (u := U) (U := U.calling g mk a) (Vm.Alike.refl U.vm) qK, qD, qX.moved (u := U) (U := U.calling g mk a) (Vm.Alike.refl U.vm)⟩, va_recv hK hPc (ci := 6) (q0 := 0) rfl rfl, fun U hU hW => ⟨rfl, by rw [hU], by rw [hU]; exact hPc, va_K.moved hW.alike hK, hDc.weaken (fun _ _ _ _ => trivial), by rw [hU]; exact ((((hX.2 0 (by decide)).kept hS.2.1).narrow hFc).moved hW.alike)⟩⟩ rfl rfl hl.1 rfl (lv_room (Nat.le_of_ble_eq_true rfl)) dX6_init_108 ⟨Nat.le_of_ble_eq_true rfl, Nat.le_of_ble_eq_true rfl⟩) hS (fun q _ h => hFc q h) hFc (fun _u t H locs ht hvm hw hB hz1 hk1 hS => ?_)
  obtain ⟨sy10, tp11, g12, g13, g14, g15, g16, g17, g18, hsy19, htp20, hR21, hP1, hK1, hD1⟩ := hB
  rw [ht] at hP1
  obtain ⟨hP, hD⟩ := va_join (wr := [(q4, .inl (cI, 2560, .inl (fun _ => 0)))]) (w1 := [(h0, .inr (6, [.ref q1, .ref q2, .ref q3, .ref q4, .int sy10, .int 0, .ref q5, .ref q6, .ref q7, .ref q8, .ref q9, .int tp11, .int 0])), (q1, .inl (cJ, 2560, .inr (.inl g12))), (q2, .inl (cJ, 2560, .inr (.inl g13))), (q3, .inl (cI, 2560, .inl g14)), (q5, .inl (cI, 3760, .inl g15)), (q6, .inl (cI, 3760, .inl g16)), (q7, .inl (cI, 3760, .inl g17)), (q8, .inl (cI, 3760, .inl g18))]) hP hD [0, 1, 2, 3, 5, 6, 7, 8] [4] rfl rfl (by decide) (by decide) hk1 hFc hP1 hD1
  have hP : va_P (dC, dI) vwCl [(q4, .inl (cI, 2560, .inl (fun _ => 0))), (h0, .inr (6, [.ref q1, .ref q2, .ref q3, .ref q4, .int sy10, .int 0, .ref q5, .ref q6, .ref q7, .ref q8, .ref q9, .int tp11, .int 0])), (q1, .inl (cJ, 2560, .inr (.inl g12))), (q2, .inl (cJ, 2560, .inr (.inl g13))), (q3, .inl (cI, 2560, .inl g14)), (q5, .inl (cI, 3760, .inl g15)), (q6, .inl (cI, 3760, .inl g16)), (q7, .inl (cI, 3760, .inl g17)), (q8, .inl (cI, 3760, .inl g18))] H := hP
  have hD : va_D A [(q4, .inl (cI, 2560, .inl (fun _ => 0))), (h0, .inr (6, [.ref q1, .ref q2, .ref q3, .ref q4, .int sy10, .int 0, .ref q5, .ref q6, .ref q7, .ref q8, .ref q9, .int tp11, .int 0])), (q1, .inl (cJ, 2560, .inr (.inl g12))), (q2, .inl (cJ, 2560, .inr (.inl g13))), (q3, .inl (cI, 2560, .inl g14)), (q5, .inl (cI, 3760, .inl g15)), (q6, .inl (cI, 3760, .inl g16)), (q7, .inl (cI, 3760, .inl g17)), (q8, .inl (cI, 3760, .inl g18))] := hD
  refine W.widen (k := 10) (n := 29056) (Nat.le_of_ble_eq_true rfl) (Nat.le_of_ble_eq_true rfl) ?_
  refine lv_aload_n hx hb dX6_init_111 rfl (lv_at hl 0 rfl) ?_
  refine va_ldcS hx hb hown hX.1.2.1 dX6_init_112 ?_
  have hPc := hP.sub (ws' := [(h0, .inr (6, [.ref q1, .ref q2, .ref q3, .ref q4, .int sy10, .int 0, .ref q5, .ref q6, .ref q7, .ref q8, .ref q9, .int tp11, .int 0])), (q1, .inl (cJ, 2560, .inr (.inl g12))), (q2, .inl (cJ, 2560, .inr (.inl g13))), (q3, .inl (cI, 2560, .inl g14)), (q5, .inl (cI, 3760, .inl g15)), (q6, .inl (cI, 3760, .inl g16)), (q7, .inl (cI, 3760, .inl g17)), (q8, .inl (cI, 3760, .inl g18))]) [1, 2, 3, 4, 5, 6, 7, 8] rfl
  have hDc := hD.sub (ws' := [(h0, .inr (6, [.ref q1, .ref q2, .ref q3, .ref q4, .int sy10, .int 0, .ref q5, .ref q6, .ref q7, .ref q8, .ref q9, .int tp11, .int 0])), (q1, .inl (cJ, 2560, .inr (.inl g12))), (q2, .inl (cJ, 2560, .inr (.inl g13))), (q3, .inl (cI, 2560, .inl g14)), (q5, .inl (cI, 3760, .inl g15)), (q6, .inl (cI, 3760, .inl g16)), (q7, .inl (cI, 3760, .inl g17)), (q8, .inl (cI, 3760, .inl g18))]) [1, 2, 3, 4, 5, 6, 7, 8] (by decide) rfl
  have hFc := va_free (wc := [(h0, .inr (6, [.ref q1, .ref q2, .ref q3, .ref q4, .int sy10, .int 0, .ref q5, .ref q6, .ref q7, .ref q8, .ref q9, .int tp11, .int 0])), (q1, .inl (cJ, 2560, .inr (.inl g12))), (q2, .inl (cJ, 2560, .inr (.inl g13))), (q3, .inl (cI, 2560, .inl g14)), (q5, .inl (cI, 3760, .inl g15)), (q6, .inl (cI, 3760, .inl g16)), (q7, .inl (cI, 3760, .inl g17)), (q8, .inl (cI, 3760, .inl g18))]) hD hS hA [1, 2, 3, 4, 5, 6, 7, 8] rfl
  refine va_callv (va_runV (As := [.ref (ad 1)]) (rest := []) ⟨hx, hb, hml, hown, hts⟩ (c_addGiven l dC dI cB cC cI cJ cZ h0 q1 q2 q3 q4 q5 q6 q7 q8 q9 sy10 0 tp11 0 g15 g16 g17 g18 g12 g13 g14 (ad 1) 1 (by decide) hsy19 htp20 hR21 H.size) (cwV 1 hts gX6_init_X6_addGiven rfl rfl rfl (by decide +kernel) ⟨Nat.le_of_ble_eq_true rfl, Nat.le_of_ble_eq_true rfl⟩) ⟨fun a U g mk q => by obtain ⟨q0, q1, qP, qK, qD, qX⟩ := q; exact ⟨q0, q1, qP, va_K.moved (u := U) (U := U.calling g mk a) (Vm.Alike.refl U.vm) qK, qD, qX.moved (u := U) (U := U.calling g mk a) (Vm.Alike.refl U.vm)⟩, va_recv hK hPc (ci := 6) (q0 := 0) rfl rfl, fun U hU hW => ⟨rfl, by rw [hU], by rw [hU]; exact hPc, va_K.moved hW.alike hK, hDc.weaken (fun _ _ _ _ => trivial), by rw [hU]; exact ((((hX.2 1 (by decide)).kept hS.2.1).narrow hFc).moved hW.alike)⟩⟩ rfl rfl hl.1 rfl (lv_room (Nat.le_of_ble_eq_true rfl)) dX6_init_114 ⟨Nat.le_of_ble_eq_true rfl, Nat.le_of_ble_eq_true rfl⟩) hS (fun q _ h => hFc q h) hFc (fun _u t H locs ht hvm hw hB hz1 hk1 hS => ?_)
  obtain ⟨sy22, tp23, g24, g25, g26, g27, g28, g29, g30, hsy31, htp32, hR33, hP1, hK1, hD1⟩ := hB
  rw [ht] at hP1
  obtain ⟨hP, hD⟩ := va_join (wr := [(q4, .inl (cI, 2560, .inl (fun _ => 0)))]) (w1 := [(h0, .inr (6, [.ref q1, .ref q2, .ref q3, .ref q4, .int sy22, .int 0, .ref q5, .ref q6, .ref q7, .ref q8, .ref q9, .int tp23, .int 0])), (q1, .inl (cJ, 2560, .inr (.inl g24))), (q2, .inl (cJ, 2560, .inr (.inl g25))), (q3, .inl (cI, 2560, .inl g26)), (q5, .inl (cI, 3760, .inl g27)), (q6, .inl (cI, 3760, .inl g28)), (q7, .inl (cI, 3760, .inl g29)), (q8, .inl (cI, 3760, .inl g30))]) hP hD [1, 2, 3, 4, 5, 6, 7, 8] [0] rfl rfl (by decide) (by decide) hk1 hFc hP1 hD1
  have hP : va_P (dC, dI) vwCl [(q4, .inl (cI, 2560, .inl (fun _ => 0))), (h0, .inr (6, [.ref q1, .ref q2, .ref q3, .ref q4, .int sy22, .int 0, .ref q5, .ref q6, .ref q7, .ref q8, .ref q9, .int tp23, .int 0])), (q1, .inl (cJ, 2560, .inr (.inl g24))), (q2, .inl (cJ, 2560, .inr (.inl g25))), (q3, .inl (cI, 2560, .inl g26)), (q5, .inl (cI, 3760, .inl g27)), (q6, .inl (cI, 3760, .inl g28)), (q7, .inl (cI, 3760, .inl g29)), (q8, .inl (cI, 3760, .inl g30))] H := hP
  have hD : va_D A [(q4, .inl (cI, 2560, .inl (fun _ => 0))), (h0, .inr (6, [.ref q1, .ref q2, .ref q3, .ref q4, .int sy22, .int 0, .ref q5, .ref q6, .ref q7, .ref q8, .ref q9, .int tp23, .int 0])), (q1, .inl (cJ, 2560, .inr (.inl g24))), (q2, .inl (cJ, 2560, .inr (.inl g25))), (q3, .inl (cI, 2560, .inl g26)), (q5, .inl (cI, 3760, .inl g27)), (q6, .inl (cI, 3760, .inl g28)), (q7, .inl (cI, 3760, .inl g29)), (q8, .inl (cI, 3760, .inl g30))] := hD
  refine W.widen (k := 11) (n := 29072) (Nat.le_of_ble_eq_true rfl) (Nat.le_of_ble_eq_true rfl) ?_
  refine lv_aload_n hx hb dX6_init_117 rfl (lv_at hl 0 rfl) ?_
  refine va_ldcS hx hb hown hX.1.2.2.1 dX6_init_118 ?_
  have hPc := hP.sub (ws' := [(h0, .inr (6, [.ref q1, .ref q2, .ref q3, .ref q4, .int sy22, .int 0, .ref q5, .ref q6, .ref q7, .ref q8, .ref q9, .int tp23, .int 0])), (q1, .inl (cJ, 2560, .inr (.inl g24))), (q2, .inl (cJ, 2560, .inr (.inl g25))), (q3, .inl (cI, 2560, .inl g26)), (q5, .inl (cI, 3760, .inl g27)), (q6, .inl (cI, 3760, .inl g28)), (q7, .inl (cI, 3760, .inl g29)), (q8, .inl (cI, 3760, .inl g30))]) [1, 2, 3, 4, 5, 6, 7, 8] rfl
  have hDc := hD.sub (ws' := [(h0, .inr (6, [.ref q1, .ref q2, .ref q3, .ref q4, .int sy22, .int 0, .ref q5, .ref q6, .ref q7, .ref q8, .ref q9, .int tp23, .int 0])), (q1, .inl (cJ, 2560, .inr (.inl g24))), (q2, .inl (cJ, 2560, .inr (.inl g25))), (q3, .inl (cI, 2560, .inl g26)), (q5, .inl (cI, 3760, .inl g27)), (q6, .inl (cI, 3760, .inl g28)), (q7, .inl (cI, 3760, .inl g29)), (q8, .inl (cI, 3760, .inl g30))]) [1, 2, 3, 4, 5, 6, 7, 8] (by decide) rfl
  have hFc := va_free (wc := [(h0, .inr (6, [.ref q1, .ref q2, .ref q3, .ref q4, .int sy22, .int 0, .ref q5, .ref q6, .ref q7, .ref q8, .ref q9, .int tp23, .int 0])), (q1, .inl (cJ, 2560, .inr (.inl g24))), (q2, .inl (cJ, 2560, .inr (.inl g25))), (q3, .inl (cI, 2560, .inl g26)), (q5, .inl (cI, 3760, .inl g27)), (q6, .inl (cI, 3760, .inl g28)), (q7, .inl (cI, 3760, .inl g29)), (q8, .inl (cI, 3760, .inl g30))]) hD hS hA [1, 2, 3, 4, 5, 6, 7, 8] rfl
  refine va_callv (va_runV (As := [.ref (ad 2)]) (rest := []) ⟨hx, hb, hml, hown, hts⟩ (c_addGiven l dC dI cB cC cI cJ cZ h0 q1 q2 q3 q4 q5 q6 q7 q8 q9 sy22 0 tp23 0 g27 g28 g29 g30 g24 g25 g26 (ad 2) 2 (by decide) hsy31 htp32 hR33 H.size) (cwV 1 hts gX6_init_X6_addGiven rfl rfl rfl (by decide +kernel) ⟨Nat.le_of_ble_eq_true rfl, Nat.le_of_ble_eq_true rfl⟩) ⟨fun a U g mk q => by obtain ⟨q0, q1, qP, qK, qD, qX⟩ := q; exact ⟨q0, q1, qP, va_K.moved (u := U) (U := U.calling g mk a) (Vm.Alike.refl U.vm) qK, qD, qX.moved (u := U) (U := U.calling g mk a) (Vm.Alike.refl U.vm)⟩, va_recv hK hPc (ci := 6) (q0 := 0) rfl rfl, fun U hU hW => ⟨rfl, by rw [hU], by rw [hU]; exact hPc, va_K.moved hW.alike hK, hDc.weaken (fun _ _ _ _ => trivial), by rw [hU]; exact ((((hX.2 2 (by decide)).kept hS.2.1).narrow hFc).moved hW.alike)⟩⟩ rfl rfl hl.1 rfl (lv_room (Nat.le_of_ble_eq_true rfl)) dX6_init_120 ⟨Nat.le_of_ble_eq_true rfl, Nat.le_of_ble_eq_true rfl⟩) hS (fun q _ h => hFc q h) hFc (fun _u t H locs ht hvm hw hB hz1 hk1 hS => ?_)
  obtain ⟨sy34, tp35, g36, g37, g38, g39, g40, g41, g42, hsy43, htp44, hR45, hP1, hK1, hD1⟩ := hB
  rw [ht] at hP1
  obtain ⟨hP, hD⟩ := va_join (wr := [(q4, .inl (cI, 2560, .inl (fun _ => 0)))]) (w1 := [(h0, .inr (6, [.ref q1, .ref q2, .ref q3, .ref q4, .int sy34, .int 0, .ref q5, .ref q6, .ref q7, .ref q8, .ref q9, .int tp35, .int 0])), (q1, .inl (cJ, 2560, .inr (.inl g36))), (q2, .inl (cJ, 2560, .inr (.inl g37))), (q3, .inl (cI, 2560, .inl g38)), (q5, .inl (cI, 3760, .inl g39)), (q6, .inl (cI, 3760, .inl g40)), (q7, .inl (cI, 3760, .inl g41)), (q8, .inl (cI, 3760, .inl g42))]) hP hD [1, 2, 3, 4, 5, 6, 7, 8] [0] rfl rfl (by decide) (by decide) hk1 hFc hP1 hD1
  have hP : va_P (dC, dI) vwCl [(q4, .inl (cI, 2560, .inl (fun _ => 0))), (h0, .inr (6, [.ref q1, .ref q2, .ref q3, .ref q4, .int sy34, .int 0, .ref q5, .ref q6, .ref q7, .ref q8, .ref q9, .int tp35, .int 0])), (q1, .inl (cJ, 2560, .inr (.inl g36))), (q2, .inl (cJ, 2560, .inr (.inl g37))), (q3, .inl (cI, 2560, .inl g38)), (q5, .inl (cI, 3760, .inl g39)), (q6, .inl (cI, 3760, .inl g40)), (q7, .inl (cI, 3760, .inl g41)), (q8, .inl (cI, 3760, .inl g42))] H := hP
  have hD : va_D A [(q4, .inl (cI, 2560, .inl (fun _ => 0))), (h0, .inr (6, [.ref q1, .ref q2, .ref q3, .ref q4, .int sy34, .int 0, .ref q5, .ref q6, .ref q7, .ref q8, .ref q9, .int tp35, .int 0])), (q1, .inl (cJ, 2560, .inr (.inl g36))), (q2, .inl (cJ, 2560, .inr (.inl g37))), (q3, .inl (cI, 2560, .inl g38)), (q5, .inl (cI, 3760, .inl g39)), (q6, .inl (cI, 3760, .inl g40)), (q7, .inl (cI, 3760, .inl g41)), (q8, .inl (cI, 3760, .inl g42))] := hD
  refine W.widen (k := 12) (n := 29088) (Nat.le_of_ble_eq_true rfl) (Nat.le_of_ble_eq_true rfl) ?_
  refine lv_aload_n hx hb dX6_init_123 rfl (lv_at hl 0 rfl) ?_
  refine va_ldcS hx hb hown hX.1.2.2.2.1 dX6_init_124 ?_
  have hPc := hP.sub (ws' := [(h0, .inr (6, [.ref q1, .ref q2, .ref q3, .ref q4, .int sy34, .int 0, .ref q5, .ref q6, .ref q7, .ref q8, .ref q9, .int tp35, .int 0])), (q1, .inl (cJ, 2560, .inr (.inl g36))), (q2, .inl (cJ, 2560, .inr (.inl g37))), (q3, .inl (cI, 2560, .inl g38)), (q5, .inl (cI, 3760, .inl g39)), (q6, .inl (cI, 3760, .inl g40)), (q7, .inl (cI, 3760, .inl g41)), (q8, .inl (cI, 3760, .inl g42))]) [1, 2, 3, 4, 5, 6, 7, 8] rfl
  have hDc := hD.sub (ws' := [(h0, .inr (6, [.ref q1, .ref q2, .ref q3, .ref q4, .int sy34, .int 0, .ref q5, .ref q6, .ref q7, .ref q8, .ref q9, .int tp35, .int 0])), (q1, .inl (cJ, 2560, .inr (.inl g36))), (q2, .inl (cJ, 2560, .inr (.inl g37))), (q3, .inl (cI, 2560, .inl g38)), (q5, .inl (cI, 3760, .inl g39)), (q6, .inl (cI, 3760, .inl g40)), (q7, .inl (cI, 3760, .inl g41)), (q8, .inl (cI, 3760, .inl g42))]) [1, 2, 3, 4, 5, 6, 7, 8] (by decide) rfl
  have hFc := va_free (wc := [(h0, .inr (6, [.ref q1, .ref q2, .ref q3, .ref q4, .int sy34, .int 0, .ref q5, .ref q6, .ref q7, .ref q8, .ref q9, .int tp35, .int 0])), (q1, .inl (cJ, 2560, .inr (.inl g36))), (q2, .inl (cJ, 2560, .inr (.inl g37))), (q3, .inl (cI, 2560, .inl g38)), (q5, .inl (cI, 3760, .inl g39)), (q6, .inl (cI, 3760, .inl g40)), (q7, .inl (cI, 3760, .inl g41)), (q8, .inl (cI, 3760, .inl g42))]) hD hS hA [1, 2, 3, 4, 5, 6, 7, 8] rfl
  refine va_callv (va_runV (As := [.ref (ad 3)]) (rest := []) ⟨hx, hb, hml, hown, hts⟩ (c_addGiven l dC dI cB cC cI cJ cZ h0 q1 q2 q3 q4 q5 q6 q7 q8 q9 sy34 0 tp35 0 g39 g40 g41 g42 g36 g37 g38 (ad 3) 3 (by decide) hsy43 htp44 hR45 H.size) (cwV 1 hts gX6_init_X6_addGiven rfl rfl rfl (by decide +kernel) ⟨Nat.le_of_ble_eq_true rfl, Nat.le_of_ble_eq_true rfl⟩) ⟨fun a U g mk q => by obtain ⟨q0, q1, qP, qK, qD, qX⟩ := q; exact ⟨q0, q1, qP, va_K.moved (u := U) (U := U.calling g mk a) (Vm.Alike.refl U.vm) qK, qD, qX.moved (u := U) (U := U.calling g mk a) (Vm.Alike.refl U.vm)⟩, va_recv hK hPc (ci := 6) (q0 := 0) rfl rfl, fun U hU hW => ⟨rfl, by rw [hU], by rw [hU]; exact hPc, va_K.moved hW.alike hK, hDc.weaken (fun _ _ _ _ => trivial), by rw [hU]; exact ((((hX.2 3 (by decide)).kept hS.2.1).narrow hFc).moved hW.alike)⟩⟩ rfl rfl hl.1 rfl (lv_room (Nat.le_of_ble_eq_true rfl)) dX6_init_126 ⟨Nat.le_of_ble_eq_true rfl, Nat.le_of_ble_eq_true rfl⟩) hS (fun q _ h => hFc q h) hFc (fun _u t H locs ht hvm hw hB hz1 hk1 hS => ?_)
  obtain ⟨sy46, tp47, g48, g49, g50, g51, g52, g53, g54, hsy55, htp56, hR57, hP1, hK1, hD1⟩ := hB
  rw [ht] at hP1
  obtain ⟨hP, hD⟩ := va_join (wr := [(q4, .inl (cI, 2560, .inl (fun _ => 0)))]) (w1 := [(h0, .inr (6, [.ref q1, .ref q2, .ref q3, .ref q4, .int sy46, .int 0, .ref q5, .ref q6, .ref q7, .ref q8, .ref q9, .int tp47, .int 0])), (q1, .inl (cJ, 2560, .inr (.inl g48))), (q2, .inl (cJ, 2560, .inr (.inl g49))), (q3, .inl (cI, 2560, .inl g50)), (q5, .inl (cI, 3760, .inl g51)), (q6, .inl (cI, 3760, .inl g52)), (q7, .inl (cI, 3760, .inl g53)), (q8, .inl (cI, 3760, .inl g54))]) hP hD [1, 2, 3, 4, 5, 6, 7, 8] [0] rfl rfl (by decide) (by decide) hk1 hFc hP1 hD1
  have hP : va_P (dC, dI) vwCl [(q4, .inl (cI, 2560, .inl (fun _ => 0))), (h0, .inr (6, [.ref q1, .ref q2, .ref q3, .ref q4, .int sy46, .int 0, .ref q5, .ref q6, .ref q7, .ref q8, .ref q9, .int tp47, .int 0])), (q1, .inl (cJ, 2560, .inr (.inl g48))), (q2, .inl (cJ, 2560, .inr (.inl g49))), (q3, .inl (cI, 2560, .inl g50)), (q5, .inl (cI, 3760, .inl g51)), (q6, .inl (cI, 3760, .inl g52)), (q7, .inl (cI, 3760, .inl g53)), (q8, .inl (cI, 3760, .inl g54))] H := hP
  have hD : va_D A [(q4, .inl (cI, 2560, .inl (fun _ => 0))), (h0, .inr (6, [.ref q1, .ref q2, .ref q3, .ref q4, .int sy46, .int 0, .ref q5, .ref q6, .ref q7, .ref q8, .ref q9, .int tp47, .int 0])), (q1, .inl (cJ, 2560, .inr (.inl g48))), (q2, .inl (cJ, 2560, .inr (.inl g49))), (q3, .inl (cI, 2560, .inl g50)), (q5, .inl (cI, 3760, .inl g51)), (q6, .inl (cI, 3760, .inl g52)), (q7, .inl (cI, 3760, .inl g53)), (q8, .inl (cI, 3760, .inl g54))] := hD
  refine W.widen (k := 13) (n := 29104) (Nat.le_of_ble_eq_true rfl) (Nat.le_of_ble_eq_true rfl) ?_
  refine lv_aload_n hx hb dX6_init_129 rfl (lv_at hl 0 rfl) ?_
  refine va_ldcS hx hb hown hX.1.2.2.2.2.1 dX6_init_130 ?_
  have hPc := hP.sub (ws' := [(h0, .inr (6, [.ref q1, .ref q2, .ref q3, .ref q4, .int sy46, .int 0, .ref q5, .ref q6, .ref q7, .ref q8, .ref q9, .int tp47, .int 0])), (q1, .inl (cJ, 2560, .inr (.inl g48))), (q2, .inl (cJ, 2560, .inr (.inl g49))), (q3, .inl (cI, 2560, .inl g50)), (q5, .inl (cI, 3760, .inl g51)), (q6, .inl (cI, 3760, .inl g52)), (q7, .inl (cI, 3760, .inl g53)), (q8, .inl (cI, 3760, .inl g54))]) [1, 2, 3, 4, 5, 6, 7, 8] rfl
  have hDc := hD.sub (ws' := [(h0, .inr (6, [.ref q1, .ref q2, .ref q3, .ref q4, .int sy46, .int 0, .ref q5, .ref q6, .ref q7, .ref q8, .ref q9, .int tp47, .int 0])), (q1, .inl (cJ, 2560, .inr (.inl g48))), (q2, .inl (cJ, 2560, .inr (.inl g49))), (q3, .inl (cI, 2560, .inl g50)), (q5, .inl (cI, 3760, .inl g51)), (q6, .inl (cI, 3760, .inl g52)), (q7, .inl (cI, 3760, .inl g53)), (q8, .inl (cI, 3760, .inl g54))]) [1, 2, 3, 4, 5, 6, 7, 8] (by decide) rfl
  have hFc := va_free (wc := [(h0, .inr (6, [.ref q1, .ref q2, .ref q3, .ref q4, .int sy46, .int 0, .ref q5, .ref q6, .ref q7, .ref q8, .ref q9, .int tp47, .int 0])), (q1, .inl (cJ, 2560, .inr (.inl g48))), (q2, .inl (cJ, 2560, .inr (.inl g49))), (q3, .inl (cI, 2560, .inl g50)), (q5, .inl (cI, 3760, .inl g51)), (q6, .inl (cI, 3760, .inl g52)), (q7, .inl (cI, 3760, .inl g53)), (q8, .inl (cI, 3760, .inl g54))]) hD hS hA [1, 2, 3, 4, 5, 6, 7, 8] rfl
  refine va_callv (va_runV (As := [.ref (ad 4)]) (rest := []) ⟨hx, hb, hml, hown, hts⟩ (c_addGiven l dC dI cB cC cI cJ cZ h0 q1 q2 q3 q4 q5 q6 q7 q8 q9 sy46 0 tp47 0 g51 g52 g53 g54 g48 g49 g50 (ad 4) 4 (by decide) hsy55 htp56 hR57 H.size) (cwV 1 hts gX6_init_X6_addGiven rfl rfl rfl (by decide +kernel) ⟨Nat.le_of_ble_eq_true rfl, Nat.le_of_ble_eq_true rfl⟩) ⟨fun a U g mk q => by obtain ⟨q0, q1, qP, qK, qD, qX⟩ := q; exact ⟨q0, q1, qP, va_K.moved (u := U) (U := U.calling g mk a) (Vm.Alike.refl U.vm) qK, qD, qX.moved (u := U) (U := U.calling g mk a) (Vm.Alike.refl U.vm)⟩, va_recv hK hPc (ci := 6) (q0 := 0) rfl rfl, fun U hU hW => ⟨rfl, by rw [hU], by rw [hU]; exact hPc, va_K.moved hW.alike hK, hDc.weaken (fun _ _ _ _ => trivial), by rw [hU]; exact ((((hX.2 4 (by decide)).kept hS.2.1).narrow hFc).moved hW.alike)⟩⟩ rfl rfl hl.1 rfl (lv_room (Nat.le_of_ble_eq_true rfl)) dX6_init_132 ⟨Nat.le_of_ble_eq_true rfl, Nat.le_of_ble_eq_true rfl⟩) hS (fun q _ h => hFc q h) hFc (fun _u t H locs ht hvm hw hB hz1 hk1 hS => ?_)
  obtain ⟨sy58, tp59, g60, g61, g62, g63, g64, g65, g66, hsy67, htp68, hR69, hP1, hK1, hD1⟩ := hB
  rw [ht] at hP1
  obtain ⟨hP, hD⟩ := va_join (wr := [(q4, .inl (cI, 2560, .inl (fun _ => 0)))]) (w1 := [(h0, .inr (6, [.ref q1, .ref q2, .ref q3, .ref q4, .int sy58, .int 0, .ref q5, .ref q6, .ref q7, .ref q8, .ref q9, .int tp59, .int 0])), (q1, .inl (cJ, 2560, .inr (.inl g60))), (q2, .inl (cJ, 2560, .inr (.inl g61))), (q3, .inl (cI, 2560, .inl g62)), (q5, .inl (cI, 3760, .inl g63)), (q6, .inl (cI, 3760, .inl g64)), (q7, .inl (cI, 3760, .inl g65)), (q8, .inl (cI, 3760, .inl g66))]) hP hD [1, 2, 3, 4, 5, 6, 7, 8] [0] rfl rfl (by decide) (by decide) hk1 hFc hP1 hD1
  have hP : va_P (dC, dI) vwCl [(q4, .inl (cI, 2560, .inl (fun _ => 0))), (h0, .inr (6, [.ref q1, .ref q2, .ref q3, .ref q4, .int sy58, .int 0, .ref q5, .ref q6, .ref q7, .ref q8, .ref q9, .int tp59, .int 0])), (q1, .inl (cJ, 2560, .inr (.inl g60))), (q2, .inl (cJ, 2560, .inr (.inl g61))), (q3, .inl (cI, 2560, .inl g62)), (q5, .inl (cI, 3760, .inl g63)), (q6, .inl (cI, 3760, .inl g64)), (q7, .inl (cI, 3760, .inl g65)), (q8, .inl (cI, 3760, .inl g66))] H := hP
  have hD : va_D A [(q4, .inl (cI, 2560, .inl (fun _ => 0))), (h0, .inr (6, [.ref q1, .ref q2, .ref q3, .ref q4, .int sy58, .int 0, .ref q5, .ref q6, .ref q7, .ref q8, .ref q9, .int tp59, .int 0])), (q1, .inl (cJ, 2560, .inr (.inl g60))), (q2, .inl (cJ, 2560, .inr (.inl g61))), (q3, .inl (cI, 2560, .inl g62)), (q5, .inl (cI, 3760, .inl g63)), (q6, .inl (cI, 3760, .inl g64)), (q7, .inl (cI, 3760, .inl g65)), (q8, .inl (cI, 3760, .inl g66))] := hD
  refine W.widen (k := 14) (n := 29120) (Nat.le_of_ble_eq_true rfl) (Nat.le_of_ble_eq_true rfl) ?_
  refine lv_aload_n hx hb dX6_init_135 rfl (lv_at hl 0 rfl) ?_
  refine va_ldcS hx hb hown hX.1.2.2.2.2.2.1 dX6_init_136 ?_
  have hPc := hP.sub (ws' := [(h0, .inr (6, [.ref q1, .ref q2, .ref q3, .ref q4, .int sy58, .int 0, .ref q5, .ref q6, .ref q7, .ref q8, .ref q9, .int tp59, .int 0])), (q1, .inl (cJ, 2560, .inr (.inl g60))), (q2, .inl (cJ, 2560, .inr (.inl g61))), (q3, .inl (cI, 2560, .inl g62)), (q5, .inl (cI, 3760, .inl g63)), (q6, .inl (cI, 3760, .inl g64)), (q7, .inl (cI, 3760, .inl g65)), (q8, .inl (cI, 3760, .inl g66))]) [1, 2, 3, 4, 5, 6, 7, 8] rfl
  have hDc := hD.sub (ws' := [(h0, .inr (6, [.ref q1, .ref q2, .ref q3, .ref q4, .int sy58, .int 0, .ref q5, .ref q6, .ref q7, .ref q8, .ref q9, .int tp59, .int 0])), (q1, .inl (cJ, 2560, .inr (.inl g60))), (q2, .inl (cJ, 2560, .inr (.inl g61))), (q3, .inl (cI, 2560, .inl g62)), (q5, .inl (cI, 3760, .inl g63)), (q6, .inl (cI, 3760, .inl g64)), (q7, .inl (cI, 3760, .inl g65)), (q8, .inl (cI, 3760, .inl g66))]) [1, 2, 3, 4, 5, 6, 7, 8] (by decide) rfl
  have hFc := va_free (wc := [(h0, .inr (6, [.ref q1, .ref q2, .ref q3, .ref q4, .int sy58, .int 0, .ref q5, .ref q6, .ref q7, .ref q8, .ref q9, .int tp59, .int 0])), (q1, .inl (cJ, 2560, .inr (.inl g60))), (q2, .inl (cJ, 2560, .inr (.inl g61))), (q3, .inl (cI, 2560, .inl g62)), (q5, .inl (cI, 3760, .inl g63)), (q6, .inl (cI, 3760, .inl g64)), (q7, .inl (cI, 3760, .inl g65)), (q8, .inl (cI, 3760, .inl g66))]) hD hS hA [1, 2, 3, 4, 5, 6, 7, 8] rfl
  refine va_callv (va_runV (As := [.ref (ad 5)]) (rest := []) ⟨hx, hb, hml, hown, hts⟩ (c_addGiven l dC dI cB cC cI cJ cZ h0 q1 q2 q3 q4 q5 q6 q7 q8 q9 sy58 0 tp59 0 g63 g64 g65 g66 g60 g61 g62 (ad 5) 5 (by decide) hsy67 htp68 hR69 H.size) (cwV 1 hts gX6_init_X6_addGiven rfl rfl rfl (by decide +kernel) ⟨Nat.le_of_ble_eq_true rfl, Nat.le_of_ble_eq_true rfl⟩) ⟨fun a U g mk q => by obtain ⟨q0, q1, qP, qK, qD, qX⟩ := q; exact ⟨q0, q1, qP, va_K.moved (u := U) (U := U.calling g mk a) (Vm.Alike.refl U.vm) qK, qD, qX.moved (u := U) (U := U.calling g mk a) (Vm.Alike.refl U.vm)⟩, va_recv hK hPc (ci := 6) (q0 := 0) rfl rfl, fun U hU hW => ⟨rfl, by rw [hU], by rw [hU]; exact hPc, va_K.moved hW.alike hK, hDc.weaken (fun _ _ _ _ => trivial), by rw [hU]; exact ((((hX.2 5 (by decide)).kept hS.2.1).narrow hFc).moved hW.alike)⟩⟩ rfl rfl hl.1 rfl (lv_room (Nat.le_of_ble_eq_true rfl)) dX6_init_138 ⟨Nat.le_of_ble_eq_true rfl, Nat.le_of_ble_eq_true rfl⟩) hS (fun q _ h => hFc q h) hFc (fun _u t H locs ht hvm hw hB hz1 hk1 hS => ?_)
  obtain ⟨sy70, tp71, g72, g73, g74, g75, g76, g77, g78, hsy79, htp80, hR81, hP1, hK1, hD1⟩ := hB
  rw [ht] at hP1
  obtain ⟨hP, hD⟩ := va_join (wr := [(q4, .inl (cI, 2560, .inl (fun _ => 0)))]) (w1 := [(h0, .inr (6, [.ref q1, .ref q2, .ref q3, .ref q4, .int sy70, .int 0, .ref q5, .ref q6, .ref q7, .ref q8, .ref q9, .int tp71, .int 0])), (q1, .inl (cJ, 2560, .inr (.inl g72))), (q2, .inl (cJ, 2560, .inr (.inl g73))), (q3, .inl (cI, 2560, .inl g74)), (q5, .inl (cI, 3760, .inl g75)), (q6, .inl (cI, 3760, .inl g76)), (q7, .inl (cI, 3760, .inl g77)), (q8, .inl (cI, 3760, .inl g78))]) hP hD [1, 2, 3, 4, 5, 6, 7, 8] [0] rfl rfl (by decide) (by decide) hk1 hFc hP1 hD1
  have hP : va_P (dC, dI) vwCl [(q4, .inl (cI, 2560, .inl (fun _ => 0))), (h0, .inr (6, [.ref q1, .ref q2, .ref q3, .ref q4, .int sy70, .int 0, .ref q5, .ref q6, .ref q7, .ref q8, .ref q9, .int tp71, .int 0])), (q1, .inl (cJ, 2560, .inr (.inl g72))), (q2, .inl (cJ, 2560, .inr (.inl g73))), (q3, .inl (cI, 2560, .inl g74)), (q5, .inl (cI, 3760, .inl g75)), (q6, .inl (cI, 3760, .inl g76)), (q7, .inl (cI, 3760, .inl g77)), (q8, .inl (cI, 3760, .inl g78))] H := hP
  have hD : va_D A [(q4, .inl (cI, 2560, .inl (fun _ => 0))), (h0, .inr (6, [.ref q1, .ref q2, .ref q3, .ref q4, .int sy70, .int 0, .ref q5, .ref q6, .ref q7, .ref q8, .ref q9, .int tp71, .int 0])), (q1, .inl (cJ, 2560, .inr (.inl g72))), (q2, .inl (cJ, 2560, .inr (.inl g73))), (q3, .inl (cI, 2560, .inl g74)), (q5, .inl (cI, 3760, .inl g75)), (q6, .inl (cI, 3760, .inl g76)), (q7, .inl (cI, 3760, .inl g77)), (q8, .inl (cI, 3760, .inl g78))] := hD
  refine W.widen (k := 15) (n := 29136) (Nat.le_of_ble_eq_true rfl) (Nat.le_of_ble_eq_true rfl) ?_
  refine lv_aload_n hx hb dX6_init_141 rfl (lv_at hl 0 rfl) ?_
  refine va_ldcS hx hb hown hX.1.2.2.2.2.2.2.1 dX6_init_142 ?_
  have hPc := hP.sub (ws' := [(h0, .inr (6, [.ref q1, .ref q2, .ref q3, .ref q4, .int sy70, .int 0, .ref q5, .ref q6, .ref q7, .ref q8, .ref q9, .int tp71, .int 0])), (q1, .inl (cJ, 2560, .inr (.inl g72))), (q2, .inl (cJ, 2560, .inr (.inl g73))), (q3, .inl (cI, 2560, .inl g74)), (q5, .inl (cI, 3760, .inl g75)), (q6, .inl (cI, 3760, .inl g76)), (q7, .inl (cI, 3760, .inl g77)), (q8, .inl (cI, 3760, .inl g78))]) [1, 2, 3, 4, 5, 6, 7, 8] rfl
  have hDc := hD.sub (ws' := [(h0, .inr (6, [.ref q1, .ref q2, .ref q3, .ref q4, .int sy70, .int 0, .ref q5, .ref q6, .ref q7, .ref q8, .ref q9, .int tp71, .int 0])), (q1, .inl (cJ, 2560, .inr (.inl g72))), (q2, .inl (cJ, 2560, .inr (.inl g73))), (q3, .inl (cI, 2560, .inl g74)), (q5, .inl (cI, 3760, .inl g75)), (q6, .inl (cI, 3760, .inl g76)), (q7, .inl (cI, 3760, .inl g77)), (q8, .inl (cI, 3760, .inl g78))]) [1, 2, 3, 4, 5, 6, 7, 8] (by decide) rfl
  have hFc := va_free (wc := [(h0, .inr (6, [.ref q1, .ref q2, .ref q3, .ref q4, .int sy70, .int 0, .ref q5, .ref q6, .ref q7, .ref q8, .ref q9, .int tp71, .int 0])), (q1, .inl (cJ, 2560, .inr (.inl g72))), (q2, .inl (cJ, 2560, .inr (.inl g73))), (q3, .inl (cI, 2560, .inl g74)), (q5, .inl (cI, 3760, .inl g75)), (q6, .inl (cI, 3760, .inl g76)), (q7, .inl (cI, 3760, .inl g77)), (q8, .inl (cI, 3760, .inl g78))]) hD hS hA [1, 2, 3, 4, 5, 6, 7, 8] rfl
  refine va_callv (va_runV (As := [.ref (ad 6)]) (rest := []) ⟨hx, hb, hml, hown, hts⟩ (c_addGiven l dC dI cB cC cI cJ cZ h0 q1 q2 q3 q4 q5 q6 q7 q8 q9 sy70 0 tp71 0 g75 g76 g77 g78 g72 g73 g74 (ad 6) 6 (by decide) hsy79 htp80 hR81 H.size) (cwV 1 hts gX6_init_X6_addGiven rfl rfl rfl (by decide +kernel) ⟨Nat.le_of_ble_eq_true rfl, Nat.le_of_ble_eq_true rfl⟩) ⟨fun a U g mk q => by obtain ⟨q0, q1, qP, qK, qD, qX⟩ := q; exact ⟨q0, q1, qP, va_K.moved (u := U) (U := U.calling g mk a) (Vm.Alike.refl U.vm) qK, qD, qX.moved (u := U) (U := U.calling g mk a) (Vm.Alike.refl U.vm)⟩, va_recv hK hPc (ci := 6) (q0 := 0) rfl rfl, fun U hU hW => ⟨rfl, by rw [hU], by rw [hU]; exact hPc, va_K.moved hW.alike hK, hDc.weaken (fun _ _ _ _ => trivial), by rw [hU]; exact ((((hX.2 6 (by decide)).kept hS.2.1).narrow hFc).moved hW.alike)⟩⟩ rfl rfl hl.1 rfl (lv_room (Nat.le_of_ble_eq_true rfl)) dX6_init_144 ⟨Nat.le_of_ble_eq_true rfl, Nat.le_of_ble_eq_true rfl⟩) hS (fun q _ h => hFc q h) hFc (fun _u t H locs ht hvm hw hB hz1 hk1 hS => ?_)
  obtain ⟨sy82, tp83, g84, g85, g86, g87, g88, g89, g90, hsy91, htp92, hR93, hP1, hK1, hD1⟩ := hB
  rw [ht] at hP1
  obtain ⟨hP, hD⟩ := va_join (wr := [(q4, .inl (cI, 2560, .inl (fun _ => 0)))]) (w1 := [(h0, .inr (6, [.ref q1, .ref q2, .ref q3, .ref q4, .int sy82, .int 0, .ref q5, .ref q6, .ref q7, .ref q8, .ref q9, .int tp83, .int 0])), (q1, .inl (cJ, 2560, .inr (.inl g84))), (q2, .inl (cJ, 2560, .inr (.inl g85))), (q3, .inl (cI, 2560, .inl g86)), (q5, .inl (cI, 3760, .inl g87)), (q6, .inl (cI, 3760, .inl g88)), (q7, .inl (cI, 3760, .inl g89)), (q8, .inl (cI, 3760, .inl g90))]) hP hD [1, 2, 3, 4, 5, 6, 7, 8] [0] rfl rfl (by decide) (by decide) hk1 hFc hP1 hD1
  have hP : va_P (dC, dI) vwCl [(q4, .inl (cI, 2560, .inl (fun _ => 0))), (h0, .inr (6, [.ref q1, .ref q2, .ref q3, .ref q4, .int sy82, .int 0, .ref q5, .ref q6, .ref q7, .ref q8, .ref q9, .int tp83, .int 0])), (q1, .inl (cJ, 2560, .inr (.inl g84))), (q2, .inl (cJ, 2560, .inr (.inl g85))), (q3, .inl (cI, 2560, .inl g86)), (q5, .inl (cI, 3760, .inl g87)), (q6, .inl (cI, 3760, .inl g88)), (q7, .inl (cI, 3760, .inl g89)), (q8, .inl (cI, 3760, .inl g90))] H := hP
  have hD : va_D A [(q4, .inl (cI, 2560, .inl (fun _ => 0))), (h0, .inr (6, [.ref q1, .ref q2, .ref q3, .ref q4, .int sy82, .int 0, .ref q5, .ref q6, .ref q7, .ref q8, .ref q9, .int tp83, .int 0])), (q1, .inl (cJ, 2560, .inr (.inl g84))), (q2, .inl (cJ, 2560, .inr (.inl g85))), (q3, .inl (cI, 2560, .inl g86)), (q5, .inl (cI, 3760, .inl g87)), (q6, .inl (cI, 3760, .inl g88)), (q7, .inl (cI, 3760, .inl g89)), (q8, .inl (cI, 3760, .inl g90))] := hD
  refine W.widen (k := 16) (n := 29152) (Nat.le_of_ble_eq_true rfl) (Nat.le_of_ble_eq_true rfl) ?_
  refine lv_aload_n hx hb dX6_init_147 rfl (lv_at hl 0 rfl) ?_
  refine va_ldcS hx hb hown hX.1.2.2.2.2.2.2.2.1 dX6_init_148 ?_
  have hPc := hP.sub (ws' := [(h0, .inr (6, [.ref q1, .ref q2, .ref q3, .ref q4, .int sy82, .int 0, .ref q5, .ref q6, .ref q7, .ref q8, .ref q9, .int tp83, .int 0])), (q1, .inl (cJ, 2560, .inr (.inl g84))), (q2, .inl (cJ, 2560, .inr (.inl g85))), (q3, .inl (cI, 2560, .inl g86)), (q5, .inl (cI, 3760, .inl g87)), (q6, .inl (cI, 3760, .inl g88)), (q7, .inl (cI, 3760, .inl g89)), (q8, .inl (cI, 3760, .inl g90))]) [1, 2, 3, 4, 5, 6, 7, 8] rfl
  have hDc := hD.sub (ws' := [(h0, .inr (6, [.ref q1, .ref q2, .ref q3, .ref q4, .int sy82, .int 0, .ref q5, .ref q6, .ref q7, .ref q8, .ref q9, .int tp83, .int 0])), (q1, .inl (cJ, 2560, .inr (.inl g84))), (q2, .inl (cJ, 2560, .inr (.inl g85))), (q3, .inl (cI, 2560, .inl g86)), (q5, .inl (cI, 3760, .inl g87)), (q6, .inl (cI, 3760, .inl g88)), (q7, .inl (cI, 3760, .inl g89)), (q8, .inl (cI, 3760, .inl g90))]) [1, 2, 3, 4, 5, 6, 7, 8] (by decide) rfl
  have hFc := va_free (wc := [(h0, .inr (6, [.ref q1, .ref q2, .ref q3, .ref q4, .int sy82, .int 0, .ref q5, .ref q6, .ref q7, .ref q8, .ref q9, .int tp83, .int 0])), (q1, .inl (cJ, 2560, .inr (.inl g84))), (q2, .inl (cJ, 2560, .inr (.inl g85))), (q3, .inl (cI, 2560, .inl g86)), (q5, .inl (cI, 3760, .inl g87)), (q6, .inl (cI, 3760, .inl g88)), (q7, .inl (cI, 3760, .inl g89)), (q8, .inl (cI, 3760, .inl g90))]) hD hS hA [1, 2, 3, 4, 5, 6, 7, 8] rfl
  refine va_callv (va_runV (As := [.ref (ad 7)]) (rest := []) ⟨hx, hb, hml, hown, hts⟩ (c_addGiven l dC dI cB cC cI cJ cZ h0 q1 q2 q3 q4 q5 q6 q7 q8 q9 sy82 0 tp83 0 g87 g88 g89 g90 g84 g85 g86 (ad 7) 7 (by decide) hsy91 htp92 hR93 H.size) (cwV 1 hts gX6_init_X6_addGiven rfl rfl rfl (by decide +kernel) ⟨Nat.le_of_ble_eq_true rfl, Nat.le_of_ble_eq_true rfl⟩) ⟨fun a U g mk q => by obtain ⟨q0, q1, qP, qK, qD, qX⟩ := q; exact ⟨q0, q1, qP, va_K.moved (u := U) (U := U.calling g mk a) (Vm.Alike.refl U.vm) qK, qD, qX.moved (u := U) (U := U.calling g mk a) (Vm.Alike.refl U.vm)⟩, va_recv hK hPc (ci := 6) (q0 := 0) rfl rfl, fun U hU hW => ⟨rfl, by rw [hU], by rw [hU]; exact hPc, va_K.moved hW.alike hK, hDc.weaken (fun _ _ _ _ => trivial), by rw [hU]; exact ((((hX.2 7 (by decide)).kept hS.2.1).narrow hFc).moved hW.alike)⟩⟩ rfl rfl hl.1 rfl (lv_room (Nat.le_of_ble_eq_true rfl)) dX6_init_150 ⟨Nat.le_of_ble_eq_true rfl, Nat.le_of_ble_eq_true rfl⟩) hS (fun q _ h => hFc q h) hFc (fun _u t H locs ht hvm hw hB hz1 hk1 hS => ?_)
  obtain ⟨sy94, tp95, g96, g97, g98, g99, g100, g101, g102, hsy103, htp104, hR105, hP1, hK1, hD1⟩ := hB
  rw [ht] at hP1
  obtain ⟨hP, hD⟩ := va_join (wr := [(q4, .inl (cI, 2560, .inl (fun _ => 0)))]) (w1 := [(h0, .inr (6, [.ref q1, .ref q2, .ref q3, .ref q4, .int sy94, .int 0, .ref q5, .ref q6, .ref q7, .ref q8, .ref q9, .int tp95, .int 0])), (q1, .inl (cJ, 2560, .inr (.inl g96))), (q2, .inl (cJ, 2560, .inr (.inl g97))), (q3, .inl (cI, 2560, .inl g98)), (q5, .inl (cI, 3760, .inl g99)), (q6, .inl (cI, 3760, .inl g100)), (q7, .inl (cI, 3760, .inl g101)), (q8, .inl (cI, 3760, .inl g102))]) hP hD [1, 2, 3, 4, 5, 6, 7, 8] [0] rfl rfl (by decide) (by decide) hk1 hFc hP1 hD1
  have hP : va_P (dC, dI) vwCl [(q4, .inl (cI, 2560, .inl (fun _ => 0))), (h0, .inr (6, [.ref q1, .ref q2, .ref q3, .ref q4, .int sy94, .int 0, .ref q5, .ref q6, .ref q7, .ref q8, .ref q9, .int tp95, .int 0])), (q1, .inl (cJ, 2560, .inr (.inl g96))), (q2, .inl (cJ, 2560, .inr (.inl g97))), (q3, .inl (cI, 2560, .inl g98)), (q5, .inl (cI, 3760, .inl g99)), (q6, .inl (cI, 3760, .inl g100)), (q7, .inl (cI, 3760, .inl g101)), (q8, .inl (cI, 3760, .inl g102))] H := hP
  have hD : va_D A [(q4, .inl (cI, 2560, .inl (fun _ => 0))), (h0, .inr (6, [.ref q1, .ref q2, .ref q3, .ref q4, .int sy94, .int 0, .ref q5, .ref q6, .ref q7, .ref q8, .ref q9, .int tp95, .int 0])), (q1, .inl (cJ, 2560, .inr (.inl g96))), (q2, .inl (cJ, 2560, .inr (.inl g97))), (q3, .inl (cI, 2560, .inl g98)), (q5, .inl (cI, 3760, .inl g99)), (q6, .inl (cI, 3760, .inl g100)), (q7, .inl (cI, 3760, .inl g101)), (q8, .inl (cI, 3760, .inl g102))] := hD
  refine W.widen (k := 17) (n := 29168) (Nat.le_of_ble_eq_true rfl) (Nat.le_of_ble_eq_true rfl) ?_
  refine lv_aload_n hx hb dX6_init_153 rfl (lv_at hl 0 rfl) ?_
  refine va_ldcS hx hb hown hX.1.2.2.2.2.2.2.2.2 dX6_init_154 ?_
  have hPc := hP.sub (ws' := [(h0, .inr (6, [.ref q1, .ref q2, .ref q3, .ref q4, .int sy94, .int 0, .ref q5, .ref q6, .ref q7, .ref q8, .ref q9, .int tp95, .int 0])), (q1, .inl (cJ, 2560, .inr (.inl g96))), (q2, .inl (cJ, 2560, .inr (.inl g97))), (q3, .inl (cI, 2560, .inl g98)), (q5, .inl (cI, 3760, .inl g99)), (q6, .inl (cI, 3760, .inl g100)), (q7, .inl (cI, 3760, .inl g101)), (q8, .inl (cI, 3760, .inl g102))]) [1, 2, 3, 4, 5, 6, 7, 8] rfl
  have hDc := hD.sub (ws' := [(h0, .inr (6, [.ref q1, .ref q2, .ref q3, .ref q4, .int sy94, .int 0, .ref q5, .ref q6, .ref q7, .ref q8, .ref q9, .int tp95, .int 0])), (q1, .inl (cJ, 2560, .inr (.inl g96))), (q2, .inl (cJ, 2560, .inr (.inl g97))), (q3, .inl (cI, 2560, .inl g98)), (q5, .inl (cI, 3760, .inl g99)), (q6, .inl (cI, 3760, .inl g100)), (q7, .inl (cI, 3760, .inl g101)), (q8, .inl (cI, 3760, .inl g102))]) [1, 2, 3, 4, 5, 6, 7, 8] (by decide) rfl
  have hFc := va_free (wc := [(h0, .inr (6, [.ref q1, .ref q2, .ref q3, .ref q4, .int sy94, .int 0, .ref q5, .ref q6, .ref q7, .ref q8, .ref q9, .int tp95, .int 0])), (q1, .inl (cJ, 2560, .inr (.inl g96))), (q2, .inl (cJ, 2560, .inr (.inl g97))), (q3, .inl (cI, 2560, .inl g98)), (q5, .inl (cI, 3760, .inl g99)), (q6, .inl (cI, 3760, .inl g100)), (q7, .inl (cI, 3760, .inl g101)), (q8, .inl (cI, 3760, .inl g102))]) hD hS hA [1, 2, 3, 4, 5, 6, 7, 8] rfl
  refine va_callv (va_runV (As := [.ref (ad 8)]) (rest := []) ⟨hx, hb, hml, hown, hts⟩ (c_addGiven l dC dI cB cC cI cJ cZ h0 q1 q2 q3 q4 q5 q6 q7 q8 q9 sy94 0 tp95 0 g99 g100 g101 g102 g96 g97 g98 (ad 8) 8 (by decide) hsy103 htp104 hR105 H.size) (cwV 1 hts gX6_init_X6_addGiven rfl rfl rfl (by decide +kernel) ⟨Nat.le_of_ble_eq_true rfl, Nat.le_of_ble_eq_true rfl⟩) ⟨fun a U g mk q => by obtain ⟨q0, q1, qP, qK, qD, qX⟩ := q; exact ⟨q0, q1, qP, va_K.moved (u := U) (U := U.calling g mk a) (Vm.Alike.refl U.vm) qK, qD, qX.moved (u := U) (U := U.calling g mk a) (Vm.Alike.refl U.vm)⟩, va_recv hK hPc (ci := 6) (q0 := 0) rfl rfl, fun U hU hW => ⟨rfl, by rw [hU], by rw [hU]; exact hPc, va_K.moved hW.alike hK, hDc.weaken (fun _ _ _ _ => trivial), by rw [hU]; exact ((((hX.2 8 (by decide)).kept hS.2.1).narrow hFc).moved hW.alike)⟩⟩ rfl rfl hl.1 rfl (lv_room (Nat.le_of_ble_eq_true rfl)) dX6_init_156 ⟨Nat.le_of_ble_eq_true rfl, Nat.le_of_ble_eq_true rfl⟩) hS (fun q _ h => hFc q h) hFc (fun _u t H locs ht hvm hw hB hz1 hk1 hS => ?_)
  obtain ⟨sy106, tp107, g108, g109, g110, g111, g112, g113, g114, hsy115, htp116, hR117, hP1, hK1, hD1⟩ := hB
  rw [ht] at hP1
  obtain ⟨hP, hD⟩ := va_join (wr := [(q4, .inl (cI, 2560, .inl (fun _ => 0)))]) (w1 := [(h0, .inr (6, [.ref q1, .ref q2, .ref q3, .ref q4, .int sy106, .int 0, .ref q5, .ref q6, .ref q7, .ref q8, .ref q9, .int tp107, .int 0])), (q1, .inl (cJ, 2560, .inr (.inl g108))), (q2, .inl (cJ, 2560, .inr (.inl g109))), (q3, .inl (cI, 2560, .inl g110)), (q5, .inl (cI, 3760, .inl g111)), (q6, .inl (cI, 3760, .inl g112)), (q7, .inl (cI, 3760, .inl g113)), (q8, .inl (cI, 3760, .inl g114))]) hP hD [1, 2, 3, 4, 5, 6, 7, 8] [0] rfl rfl (by decide) (by decide) hk1 hFc hP1 hD1
  have hP : va_P (dC, dI) vwCl [(q4, .inl (cI, 2560, .inl (fun _ => 0))), (h0, .inr (6, [.ref q1, .ref q2, .ref q3, .ref q4, .int sy106, .int 0, .ref q5, .ref q6, .ref q7, .ref q8, .ref q9, .int tp107, .int 0])), (q1, .inl (cJ, 2560, .inr (.inl g108))), (q2, .inl (cJ, 2560, .inr (.inl g109))), (q3, .inl (cI, 2560, .inl g110)), (q5, .inl (cI, 3760, .inl g111)), (q6, .inl (cI, 3760, .inl g112)), (q7, .inl (cI, 3760, .inl g113)), (q8, .inl (cI, 3760, .inl g114))] H := hP
  have hD : va_D A [(q4, .inl (cI, 2560, .inl (fun _ => 0))), (h0, .inr (6, [.ref q1, .ref q2, .ref q3, .ref q4, .int sy106, .int 0, .ref q5, .ref q6, .ref q7, .ref q8, .ref q9, .int tp107, .int 0])), (q1, .inl (cJ, 2560, .inr (.inl g108))), (q2, .inl (cJ, 2560, .inr (.inl g109))), (q3, .inl (cI, 2560, .inl g110)), (q5, .inl (cI, 3760, .inl g111)), (q6, .inl (cI, 3760, .inl g112)), (q7, .inl (cI, 3760, .inl g113)), (q8, .inl (cI, 3760, .inl g114))] := hD
  refine W.widen (k := 18) (n := 29184) (Nat.le_of_ble_eq_true rfl) (Nat.le_of_ble_eq_true rfl) ?_
  refine W.widen (k := 18) (n := 29184) (Nat.le_of_ble_eq_true rfl) (Nat.le_of_ble_eq_true rfl) ?_
  have hP9 := hP.sub (ws' := [(h0, .inr (6, [.ref q1, .ref q2, .ref q3, .ref q4, .int sy106, .int 0, .ref q5, .ref q6, .ref q7, .ref q8, .ref q9, .int tp107, .int 0])), (q3, .inl (cI, 2560, .inl g110)), (q4, .inl (cI, 2560, .inl (fun _ => 0)))]) [1, 4, 0] rfl
  have hD9 := hD.sub (ws' := [(h0, .inr (6, [.ref q1, .ref q2, .ref q3, .ref q4, .int sy106, .int 0, .ref q5, .ref q6, .ref q7, .ref q8, .ref q9, .int tp107, .int 0])), (q3, .inl (cI, 2560, .inl g110)), (q4, .inl (cI, 2560, .inl (fun _ => 0)))]) [1, 4, 0] (by decide) rfl
  exact W.vret hx hb hr (fun t ht hW => ⟨⟨(), rfl, trivial, q1, q2, q3, q4, q5, q6, q7, q8, q9, sy106, tp107, g110, hsy115, hR117, by rw [ht]; exact hP9, va_K.moved hW.alike hK, hD9⟩, hS.F ht⟩) hS.2.2 dX6_init_159
end
section
theorem lkX0_init_o3 : Cond.methodLink RX0 3 objectInit ∈ wsX0_init := by decide +kernel
theorem lkX0_init_oi : Cond.instanceMethod objectInit ∈ wsX0_init := by decide +kernel
theorem lkX0_init_oc : Cond.code objectInit ⟨#[0xb1]⟩ 1 none ∈ wsX0_init := by decide +kernel
theorem inX0_init_X2 : ∀ w ∈ wsX20, w ∈ wsX0_init := fun w h => List.mem_cons_of_mem _ (List.mem_append_left _ (List.mem_append_left _ (List.mem_append_left _ (List.mem_append_left _ (List.mem_append_left _ (List.mem_append_left _ (List.mem_append_right _ h)))))))
theorem lkX0_init_n9 : Cond.classLink RX0 9 RX2 ∈ wsX0_init := by decide +kernel
theorem lkX0_init_iX2 : Cond.instantiable RX2 7 ∈ wsX0_init := by decide +kernel
theorem lkX0_init_zX2 : Cond.initialized RX2 ∈ wsX0_init := by decide +kernel
theorem lkX0_init_mX2_init : Cond.instanceMethod yX2_init ∈ wsX0_init := by decide +kernel
theorem lkX0_init_f12 : Cond.fieldLink RX0 12 "MacroScopes$Expander" "frames" "LMacroScopes$Frames;" ∈ wsX0_init := by decide +kernel
theorem inX0_init_X0 : ∀ w ∈ wsX00, w ∈ wsX0_init := fun w h => List.mem_cons_of_mem _ (List.mem_append_left _ (List.mem_append_left _ (List.mem_append_left _ (List.mem_append_left _ (List.mem_append_left _ (List.mem_append_right _ h))))))
theorem lkX0_init_f18 : Cond.fieldLink RX0 18 "MacroScopes$Expander" "nextTop" "I" ∈ wsX0_init := by decide +kernel
theorem lkX0_init_f22 : Cond.fieldLink RX0 22 "MacroScopes$Expander" "defined" "I" ∈ wsX0_init := by decide +kernel
theorem lkX0_init_f25 : Cond.fieldLink RX0 25 "MacroScopes$Expander" "fault" "I" ∈ wsX0_init := by decide +kernel
theorem lkX0_init_f28 : Cond.fieldLink RX0 28 "MacroScopes$Expander" "place" "I" ∈ wsX0_init := by decide +kernel
theorem lkX0_init_f31 : Cond.fieldLink RX0 31 "MacroScopes$Expander" "uses" "I" ∈ wsX0_init := by decide +kernel
theorem lkX0_init_f34 : Cond.fieldLink RX0 34 "MacroScopes$Expander" "layers" "I" ∈ wsX0_init := by decide +kernel
theorem lkX0_init_f37 : Cond.fieldLink RX0 37 "MacroScopes$Expander" "variables" "I" ∈ wsX0_init := by decide +kernel
theorem inX0_init_X5 : ∀ w ∈ wsX50, w ∈ wsX0_init := fun w h => List.mem_cons_of_mem _ (List.mem_append_left _ (List.mem_append_left _ (List.mem_append_left _ (List.mem_append_left _ (List.mem_append_right _ h)))))
theorem lkX0_init_n40 : Cond.classLink RX0 40 RX5 ∈ wsX0_init := by decide +kernel
theorem lkX0_init_iX5 : Cond.instantiable RX5 6 ∈ wsX0_init := by decide +kernel
theorem lkX0_init_zX5 : Cond.initialized RX5 ∈ wsX0_init := by decide +kernel
theorem lkX0_init_mX5_init : Cond.instanceMethod yX5_init ∈ wsX0_init := by decide +kernel
theorem lkX0_init_f43 : Cond.fieldLink RX0 43 "MacroScopes$Expander" "forms" "LMacroScopes$Forms;" ∈ wsX0_init := by decide +kernel
theorem lkX0_init_f47 : Cond.fieldLink RX0 47 "MacroScopes$Expander" "names" "LMacroScopes$Names;" ∈ wsX0_init := by decide +kernel
theorem lkX0_init_f51 : Cond.fieldLink RX0 51 "MacroScopes$Expander" "told" "LMacroScopes$Told;" ∈ wsX0_init := by decide +kernel
theorem inX0_init_X9 : ∀ w ∈ wsX90, w ∈ wsX0_init := fun w h => List.mem_cons_of_mem _ (List.mem_append_left _ (List.mem_append_left _ (List.mem_append_left _ (List.mem_append_right _ h))))
theorem lkX0_init_n55 : Cond.classLink RX0 55 RX9 ∈ wsX0_init := by decide +kernel
theorem lkX0_init_iX9 : Cond.instantiable RX9 6 ∈ wsX0_init := by decide +kernel
theorem lkX0_init_zX9 : Cond.initialized RX9 ∈ wsX0_init := by decide +kernel
theorem lkX0_init_l57 : Cond.methodLink RX0 57 yX9_init ∈ wsX0_init := by decide +kernel
theorem lkX0_init_mX9_init : Cond.instanceMethod yX9_init ∈ wsX0_init := by decide +kernel
theorem lkX0_init_f60 : Cond.fieldLink RX0 60 "MacroScopes$Expander" "scopes" "LMacroScopes$Scopes;" ∈ wsX0_init := by decide +kernel
theorem inX0_init_X8 : ∀ w ∈ wsX80, w ∈ wsX0_init := fun w h => List.mem_cons_of_mem _ (List.mem_append_left _ (List.mem_append_left _ (List.mem_append_right _ h)))
theorem lkX0_init_n64 : Cond.classLink RX0 64 RX8 ∈ wsX0_init := by decide +kernel
theorem lkX0_init_iX8 : Cond.instantiable RX8 4 ∈ wsX0_init := by decide +kernel
theorem lkX0_init_zX8 : Cond.initialized RX8 ∈ wsX0_init := by decide +kernel
theorem lkX0_init_l66 : Cond.methodLink RX0 66 yX8_init ∈ wsX0_init := by decide +kernel
theorem lkX0_init_mX8_init : Cond.instanceMethod yX8_init ∈ wsX0_init := by decide +kernel
theorem lkX0_init_f69 : Cond.fieldLink RX0 69 "MacroScopes$Expander" "ruleCheck" "LMacroScopes$RuleCheck;" ∈ wsX0_init := by decide +kernel
theorem inX0_init_X4 : ∀ w ∈ wsX40, w ∈ wsX0_init := fun w h => List.mem_cons_of_mem _ (List.mem_append_left _ (List.mem_append_right _ h))
theorem lkX0_init_n73 : Cond.classLink RX0 73 RX4 ∈ wsX0_init := by decide +kernel
theorem lkX0_init_iX4 : Cond.instantiable RX4 6 ∈ wsX0_init := by decide +kernel
theorem lkX0_init_zX4 : Cond.initialized RX4 ∈ wsX0_init := by decide +kernel
theorem lkX0_init_l75 : Cond.methodLink RX0 75 yX4_init ∈ wsX0_init := by decide +kernel
theorem lkX0_init_mX4_init : Cond.instanceMethod yX4_init ∈ wsX0_init := by decide +kernel
theorem lkX0_init_f78 : Cond.fieldLink RX0 78 "MacroScopes$Expander" "matcher" "LMacroScopes$Matcher;" ∈ wsX0_init := by decide +kernel
theorem inX0_init_X3 : ∀ w ∈ wsX30, w ∈ wsX0_init := fun w h => List.mem_cons_of_mem _ (List.mem_append_right _ h)
theorem lkX0_init_n82 : Cond.classLink RX0 82 RX3 ∈ wsX0_init := by decide +kernel
theorem lkX0_init_iX3 : Cond.instantiable RX3 6 ∈ wsX0_init := by decide +kernel
theorem lkX0_init_zX3 : Cond.initialized RX3 ∈ wsX0_init := by decide +kernel
theorem lkX0_init_l84 : Cond.methodLink RX0 84 yX3_init ∈ wsX0_init := by decide +kernel
theorem lkX0_init_mX3_init : Cond.instanceMethod yX3_init ∈ wsX0_init := by decide +kernel
theorem lkX0_init_f87 : Cond.fieldLink RX0 87 "MacroScopes$Expander" "maker" "LMacroScopes$Maker;" ∈ wsX0_init := by decide +kernel
theorem lkX11_init_o1 : Cond.methodLink RX11 1 objectInit ∈ wsX11_init := by decide +kernel
theorem lkX11_init_oi : Cond.instanceMethod objectInit ∈ wsX11_init := by decide +kernel
theorem lkX11_init_oc : Cond.code objectInit ⟨#[0xb1]⟩ 1 none ∈ wsX11_init := by decide +kernel
theorem lkX11_init_achar : Cond.arrayClass .char ∈ wsX11_init := by decide +kernel
theorem lkX11_init_f9 : Cond.fieldLink RX11 9 "MacroScopes" "typed" "[C" ∈ wsX11_init := by decide +kernel
theorem inX11_init_X11 : ∀ w ∈ wsX110, w ∈ wsX11_init := fun w h => List.mem_cons_of_mem _ (List.mem_append_left _ (List.mem_append_left _ (List.mem_append_left _ (List.mem_append_left _ (List.mem_append_left _ (List.mem_append_left _ (List.mem_append_left _ (List.mem_append_left _ (List.mem_append_left _ (List.mem_append_left _ (List.mem_append_left _ (List.mem_append_right _ h))))))))))))
theorem inX11_init_X6 : ∀ w ∈ wsX60, w ∈ wsX11_init := fun w h => List.mem_cons_of_mem _ (List.mem_append_left _ (List.mem_append_left _ (List.mem_append_left _ (List.mem_append_left _ (List.mem_append_left _ (List.mem_append_left _ (List.mem_append_left _ (List.mem_append_left _ (List.mem_append_left _ (List.mem_append_left _ (List.mem_append_right _ h)))))))))))
theorem lkX11_init_n13 : Cond.classLink RX11 13 RX6 ∈ wsX11_init := by decide +kernel
theorem lkX11_init_iX6 : Cond.instantiable RX6 13 ∈ wsX11_init := by decide +kernel
theorem lkX11_init_zX6 : Cond.initialized RX6 ∈ wsX11_init := by decide +kernel
theorem lkX11_init_l15 : Cond.methodLink RX11 15 yX6_init ∈ wsX11_init := by decide +kernel
theorem lkX11_init_mX6_init : Cond.instanceMethod yX6_init ∈ wsX11_init := by decide +kernel
theorem lkX11_init_f16 : Cond.fieldLink RX11 16 "MacroScopes" "names" "LMacroScopes$Names;" ∈ wsX11_init := by decide +kernel
theorem inX11_init_X1 : ∀ w ∈ wsX10, w ∈ wsX11_init := fun w h => List.mem_cons_of_mem _ (List.mem_append_left _ (List.mem_append_left _ (List.mem_append_left _ (List.mem_append_left _ (List.mem_append_left _ (List.mem_append_left _ (List.mem_append_left _ (List.mem_append_left _ (List.mem_append_left _ (List.mem_append_right _ h))))))))))
theorem lkX11_init_n20 : Cond.classLink RX11 20 RX1 ∈ wsX11_init := by decide +kernel
theorem lkX11_init_iX1 : Cond.instantiable RX1 4 ∈ wsX11_init := by decide +kernel
theorem lkX11_init_zX1 : Cond.initialized RX1 ∈ wsX11_init := by decide +kernel
theorem lkX11_init_mX1_init : Cond.instanceMethod yX1_init ∈ wsX11_init := by decide +kernel
theorem lkX11_init_f23 : Cond.fieldLink RX11 23 "MacroScopes" "forms" "LMacroScopes$Forms;" ∈ wsX11_init := by decide +kernel
theorem inX11_init_X10 : ∀ w ∈ wsX100, w ∈ wsX11_init := fun w h => List.mem_cons_of_mem _ (List.mem_append_left _ (List.mem_append_left _ (List.mem_append_left _ (List.mem_append_left _ (List.mem_append_left _ (List.mem_append_left _ (List.mem_append_left _ (List.mem_append_left _ (List.mem_append_right _ h)))))))))
theorem lkX11_init_n27 : Cond.classLink RX11 27 RX10 ∈ wsX11_init := by decide +kernel
theorem lkX11_init_iX10 : Cond.instantiable RX10 5 ∈ wsX11_init := by decide +kernel
theorem lkX11_init_zX10 : Cond.initialized RX10 ∈ wsX11_init := by decide +kernel
theorem lkX11_init_mX10_init : Cond.instanceMethod yX10_init ∈ wsX11_init := by decide +kernel
theorem lkX11_init_f30 : Cond.fieldLink RX11 30 "MacroScopes" "told" "LMacroScopes$Told;" ∈ wsX11_init := by decide +kernel
theorem inX11_init_X7 : ∀ w ∈ wsX70, w ∈ wsX11_init := fun w h => List.mem_cons_of_mem _ (List.mem_append_left _ (List.mem_append_left _ (List.mem_append_left _ (List.mem_append_left _ (List.mem_append_left _ (List.mem_append_left _ (List.mem_append_left _ (List.mem_append_right _ h))))))))
theorem lkX11_init_n34 : Cond.classLink RX11 34 RX7 ∈ wsX11_init := by decide +kernel
theorem lkX11_init_iX7 : Cond.instantiable RX7 4 ∈ wsX11_init := by decide +kernel
theorem lkX11_init_zX7 : Cond.initialized RX7 ∈ wsX11_init := by decide +kernel
theorem lkX11_init_l36 : Cond.methodLink RX11 36 yX7_init ∈ wsX11_init := by decide +kernel
theorem lkX11_init_mX7_init : Cond.instanceMethod yX7_init ∈ wsX11_init := by decide +kernel
theorem lkX11_init_f39 : Cond.fieldLink RX11 39 "MacroScopes" "reader" "LMacroScopes$Reader;" ∈ wsX11_init := by decide +kernel
theorem inX11_init_X0 : ∀ w ∈ wsX00, w ∈ wsX11_init := fun w h => List.mem_cons_of_mem _ (List.mem_append_left _ (List.mem_append_left _ (List.mem_append_left _ (List.mem_append_left _ (List.mem_append_left _ (List.mem_append_left _ (List.mem_append_right _ h)))))))
theorem lkX11_init_n43 : Cond.classLink RX11 43 RX0 ∈ wsX11_init := by decide +kernel
theorem lkX11_init_iX0 : Cond.instantiable RX0 15 ∈ wsX11_init := by decide +kernel
theorem lkX11_init_zX0 : Cond.initialized RX0 ∈ wsX11_init := by decide +kernel
theorem lkX11_init_l45 : Cond.methodLink RX11 45 yX0_init ∈ wsX11_init := by decide +kernel
theorem lkX11_init_mX0_init : Cond.instanceMethod yX0_init ∈ wsX11_init := by decide +kernel
theorem lkX11_init_f48 : Cond.fieldLink RX11 48 "MacroScopes" "expander" "LMacroScopes$Expander;" ∈ wsX11_init := by decide +kernel
theorem lkX11_init_f52 : Cond.fieldLink RX11 52 "MacroScopes" "typedLength" "I" ∈ wsX11_init := by decide +kernel
theorem lkX11_init_f56 : Cond.fieldLink RX11 56 "MacroScopes" "place" "I" ∈ wsX11_init := by decide +kernel
theorem lkX11_init_f59 : Cond.fieldLink RX11 59 "MacroScopes" "uses" "I" ∈ wsX11_init := by decide +kernel
theorem lkX11_init_f62 : Cond.fieldLink RX11 62 "MacroScopes" "variables" "I" ∈ wsX11_init := by decide +kernel
theorem lkX11_init_f65 : Cond.fieldLink RX11 65 "MacroScopes" "topForms" "I" ∈ wsX11_init := by decide +kernel
set_option maxHeartbeats 4000000 in
set_option maxRecDepth 100000 in
/-- Expander(forms, names, told) -/
theorem c_Expander (l : Launch) (dC : Nat → ClassId) (dI : Nat → Nat → Nat) (cB cC cI cJ cZ : ClassId) (e0 f0 n0 d0 : Nat)  (sz : Nat) : Met l yX0_init wsX0_init { frames := 2, cells := 20, slots := 15065, locals := 44 } (va_Pc [.ref e0, .ref f0, .ref n0, .ref d0] (fun U => U.heap.size = sz ∧ va_P (dC, dI) vwCl [(e0, .inr (0, [.null, .null, .null, .null, .null, .null, .null, .null, .int 0, .int 0, .int 0, .int 0, .int 0, .int 0, .int 0]))] U.heap ∧ va_K (dC, dI) vwCl (TY cB cC cI cJ cZ) U ∧ va_D (fun _ => True) [(e0, .inr (0, [.null, .null, .null, .null, .null, .null, .null, .null, .int 0, .int 0, .int 0, .int 0, .int 0, .int 0, .int 0]))] ∧ NW U)) (va_Qv (fun (_ : Unit) => True) (fun (_ : Unit) (t : State) => ∃ (sc : Nat), ∃ (e4 : Nat), ∃ (e5 : Nat), ∃ (e6 : Nat), ∃ (fr : Nat), ∃ (s1 : Nat), ∃ (s2 : Nat), ∃ (s3 : Nat), ∃ (s4 : Nat), ∃ (g1 : Nat), ∃ (g2 : Nat), ∃ (g3 : Nat), ∃ (g4 : Nat), ∃ (g5 : Nat), ∃ (g6 : Nat), va_P (dC, dI) vwCl [(e0, .inr (0, [.ref f0, .ref n0, .ref d0, .ref sc, .ref e4, .ref e5, .ref e6, .ref fr, .int 0, .int (-1), .int 0, .int (-1), .int 0, .int 0, .int 0])), (sc, .inr (9, [.ref n0, .ref s1, .ref s2, .ref s3, .ref s4, .int 0])), (fr, .inr (2, [.ref g1, .ref g2, .ref g3, .ref g4, .ref g5, .ref g6, .int 0]))] t.heap ∧ va_K (dC, dI) vwCl (TY cB cC cI cJ cZ) t ∧ va_D (va_A [(e0, .inr (0, [.null, .null, .null, .null, .null, .null, .null, .null, .int 0, .int 0, .int 0, .int 0, .int 0, .int 0, .int 0]))] sz) [(e0, .inr (0, [.ref f0, .ref n0, .ref d0, .ref sc, .ref e4, .ref e5, .ref e6, .ref fr, .int 0, .int (-1), .int 0, .int (-1), .int 0, .int 0, .int 0])), (sc, .inr (9, [.ref n0, .ref s1, .ref s2, .ref s3, .ref s4, .int 0])), (fr, .inr (2, [.ref g1, .ref g2, .ref g3, .ref g4, .ref g5, .ref g6, .int 0]))]) (va_A [(e0, .inr (0, [.null, .null, .null, .null, .null, .null, .null, .null, .int 0, .int 0, .int 0, .int 0, .int 0, .int 0, .int 0]))] sz)) 20 15065 (va_A [(e0, .inr (0, [.null, .null, .null, .null, .null, .null, .null, .null, .int 0, .int 0, .int 0, .int 0, .int 0, .int 0, .int 0]))] sz) := by
  refine Met.ofW (cc := cX0_init) (maxL := 5) (ret := none) (by decide) rfl ?_
  intro p e s m args below meth c s₁ B hml hv
  obtain ⟨rfl, hsz, hP, hK, hD0, hNW⟩ := hv
  have hx := B.exec
  have hb := B.bytes
  have hr := B.returns
  have hts := atoms_spec (ws := wsX0_init) B.pre
  have hown : s.vm.findClass RX0 = some m.cls := findClass_of_methodNamed B.named
  have hlocks := B.notSynchronized
  have hin : meth.name = "<init>" := (name_of_methodNamed B.named B.method).1
  subst hsz
  have hD := hD0.self (sz := s.heap.size)
  generalize hAe : va_A [(e0, .inr (0, [.null, .null, .null, .null, .null, .null, .null, .null, .int 0, .int 0, .int 0, .int 0, .int 0, .int 0, .int 0]))] s.heap.size = A at hD ⊢
  have hA : ∀ q : Nat, s.heap.size ≤ q → A q := fun q h => by rw [← hAe]; exact Or.inr h
  have hS : va_S A s.heap s.heap [] := va_S.rf
  have hP : va_P (dC, dI) vwCl [(e0, .inr (0, [.null, .null, .null, .null, .null, .null, .null, .null, .int 0, .int 0, .int 0, .int 0, .int 0, .int 0, .int 0]))] s.heap := hP
  have hl := lv_entry ([.ref e0, .ref f0, .ref n0, .ref d0]) (n := 5) (Nat.le_of_ble_eq_true rfl)
  rw [lg_entry_eq]
  generalize (lg_sl ([.ref e0, .ref f0, .ref n0, .ref d0]) ++ List.replicate (5 - (lg_sl ([.ref e0, .ref f0, .ref n0, .ref d0])).length) Slot.unset).toArray = ls at hl ⊢
  have hl : lv_has ls 5 [(0, .ref e0), (1, .ref f0), (2, .ref n0), (3, .ref d0)] := hl
  refine lv_aload_n hx hb dX0_init_0 rfl (lv_at hl 0 rfl) ?_
  refine W.objInit hx hb hown (hts _ lkX0_init_o3) (hts _ lkX0_init_oi) (hts _ lkX0_init_oc) rfl (by rw [hml]; exact hl.1) rfl dX0_init_1 (Nat.le_of_ble_eq_true rfl) (Nat.le_of_ble_eq_true rfl) ?_
  refine W.eq (g2 := F0 m 4 ls []) rfl ?_
  refine lv_aload_n hx hb dX0_init_4 rfl (lv_at hl 0 rfl) ?_
  refine va_new (ci := 2) (fs := [.null, .null, .null, .null, .null, .null, .int 0]) (C := RX2) (T := TX2) (N := 7) hx hb hts inX0_init_X2 tyX2 tyX2_ok hown (hts _ lkX0_init_n9) (hts _ lkX0_init_iX2) (hts _ lkX0_init_zX2) hK hP hD hS hA rfl (fun j hj => df_X2 j hj) (Nat.le_of_ble_eq_true rfl) (Nat.le_of_ble_eq_true rfl) dX0_init_5 (fun q1 H hP hD hS => ?_)
  have hP : va_P (dC, dI) vwCl [(e0, .inr (0, [.null, .null, .null, .null, .null, .null, .null, .null, .int 0, .int 0, .int 0, .int 0, .int 0, .int 0, .int 0])), (q1, .inr (2, [.null, .null, .null, .null, .null, .null, .int 0]))] H := hP
  have hD : va_D A [(e0, .inr (0, [.null, .null, .null, .null, .null, .null, .null, .null, .int 0, .int 0, .int 0, .int 0, .int 0, .int 0, .int 0])), (q1, .inr (2, [.null, .null, .null, .null, .null, .null, .int 0]))] := hD
  refine W.widen (k := 1) (n := 7) (Nat.le_of_ble_eq_true rfl) (Nat.le_of_ble_eq_true rfl) ?_
  refine lv_dup hx hb dX0_init_8 rfl ?_
  have hPc := hP.sub (ws' := [(q1, .inr (2, [.null, .null, .null, .null, .null, .null, .int 0]))]) [1] rfl
  have hDc := hD.sub (ws' := [(q1, .inr (2, [.null, .null, .null, .null, .null, .null, .int 0]))]) [1] (by decide) rfl
  have hFc := va_free (wc := [(q1, .inr (2, [.null, .null, .null, .null, .null, .null, .int 0]))]) hD hS hA [1] rfl
  refine va_callv (va_runIN (As := []) (rest := [.ref q1, .ref e0]) ⟨hx, hb, hml, hown, hts⟩ (c_Frames l dC dI cB cC cI cJ cZ q1  H.size) ⟨va_cnB 0 hts gX0_init_X2_init_n11 rfl rfl rfl hNW.1 (hts _ lkX0_init_zX2) (by decide +kernel) ⟨Nat.le_of_ble_eq_true rfl, Nat.le_of_ble_eq_true rfl⟩, rfl, (hts _ lkX0_init_mX2_init)⟩ ⟨fun a U g mk q => by obtain ⟨q0, q1, qP, qK, qD⟩ := q; exact ⟨q0, q1, qP, va_K.moved (u := U) (U := U.calling g mk a) (Vm.Alike.refl U.vm) qK, qD⟩, fun U hU hW => ⟨rfl, by rw [hU], by rw [hU]; exact hPc, va_K.moved hW.alike hK, hDc.weaken (fun _ _ _ _ => trivial)⟩⟩ rfl rfl hl.1 rfl (lv_room (Nat.le_of_ble_eq_true rfl)) dX0_init_9 ⟨Nat.le_of_ble_eq_true rfl, Nat.le_of_ble_eq_true rfl⟩) hS (fun q _ h => hFc q h) hFc (fun _u t H locs ht hvm hw hB hz1 hk1 hS => ?_)
  obtain ⟨q2, q3, q4, q5, q6, q7, hP1, hK1, hD1⟩ := hB
  rw [ht] at hP1
  obtain ⟨hP, hD⟩ := va_join (wr := [(e0, .inr (0, [.null, .null, .null, .null, .null, .null, .null, .null, .int 0, .int 0, .int 0, .int 0, .int 0, .int 0, .int 0]))]) (w1 := [(q1, .inr (2, [.ref q2, .ref q3, .ref q4, .ref q5, .ref q6, .ref q7, .int 0]))]) hP hD [1] [0] rfl rfl (by decide) (by decide) hk1 hFc hP1 hD1
  have hP : va_P (dC, dI) vwCl [(e0, .inr (0, [.null, .null, .null, .null, .null, .null, .null, .null, .int 0, .int 0, .int 0, .int 0, .int 0, .int 0, .int 0])), (q1, .inr (2, [.ref q2, .ref q3, .ref q4, .ref q5, .ref q6, .ref q7, .int 0]))] H := hP
  have hD : va_D A [(e0, .inr (0, [.null, .null, .null, .null, .null, .null, .null, .null, .int 0, .int 0, .int 0, .int 0, .int 0, .int 0, .int 0])), (q1, .inr (2, [.ref q2, .ref q3, .ref q4, .ref q5, .ref q6, .ref q7, .int 0]))] := hD
  refine W.widen (k := 7) (n := 613) (Nat.le_of_ble_eq_true rfl) (Nat.le_of_ble_eq_true rfl) ?_
  refine va_putF (D := (dC, dI)) (ci := 0) (v := .ref q1) (ty := .object "MacroScopes$Frames") (C := RX0) (T := TX0) (N := 15) hx hb hts inX0_init_X0 tyX0 tyX0_ok nmX0 hown hK hP hD hS 0 rfl rfl 7 (by decide) (hts _ lkX0_init_f12) (fun _ h9 => h9) rfl hin rfl (by decide +kernel) rfl rfl (Nat.le_of_ble_eq_true rfl) dX0_init_12 (fun H locs hP hD hS => ?_)
  have hP : va_P (dC, dI) vwCl [(e0, .inr (0, [.null, .null, .null, .null, .null, .null, .null, .ref q1, .int 0, .int 0, .int 0, .int 0, .int 0, .int 0, .int 0])), (q1, .inr (2, [.ref q2, .ref q3, .ref q4, .ref q5, .ref q6, .ref q7, .int 0]))] H := hP
  have hD : va_D A [(e0, .inr (0, [.null, .null, .null, .null, .null, .null, .null, .ref q1, .int 0, .int 0, .int 0, .int 0, .int 0, .int 0, .int 0])), (q1, .inr (2, [.ref q2, .ref q3, .ref q4, .ref q5, .ref q6, .ref q7, .int 0]))] := hD
  refine lv_aload_n hx hb dX0_init_15 rfl (lv_at hl 0 rfl) ?_
  refine lv_iconst (v := 0) hx hb dX0_init_16 (by decide) ?_
  refine va_put (D := (dC, dI)) (ci := 0) (v := .int 0) (ty := .int) (C := RX0) (T := TX0) (N := 15) hx hb hts inX0_init_X0 tyX0 tyX0_ok nmX0 hown hK hP hD hS 0 rfl rfl 8 (by decide) (hts _ lkX0_init_f18) (fun _ h9 => h9) rfl (by decide +kernel) rfl rfl (Nat.le_of_ble_eq_true rfl) dX0_init_17 (fun H locs hP hD hS => ?_)
  have hP : va_P (dC, dI) vwCl [(e0, .inr (0, [.null, .null, .null, .null, .null, .null, .null, .ref q1, .int 0, .int 0, .int 0, .int 0, .int 0, .int 0, .int 0])), (q1, .inr (2, [.ref q2, .ref q3, .ref q4, .ref q5, .ref q6, .ref q7, .int 0]))] H := hP
  have hD : va_D A [(e0, .inr (0, [.null, .null, .null, .null, .null, .null, .null, .ref q1, .int 0, .int 0, .int 0, .int 0, .int 0, .int 0, .int 0])), (q1, .inr (2, [.ref q2, .ref q3, .ref q4, .ref q5, .ref q6, .ref q7, .int 0]))] := hD
  refine lv_aload_n hx hb dX0_init_20 rfl (lv_at hl 0 rfl) ?_
  refine lv_iconst (v := (-1)) hx hb dX0_init_21 (by decide) ?_
  refine va_put (D := (dC, dI)) (ci := 0) (v := .int (-1)) (ty := .int) (C := RX0) (T := TX0) (N := 15) hx hb hts inX0_init_X0 tyX0 tyX0_ok nmX0 hown hK hP hD hS 0 rfl rfl 9 (by decide) (hts _ lkX0_init_f22) (fun _ h9 => h9) rfl (by decide +kernel) rfl rfl (Nat.le_of_ble_eq_true rfl) dX0_init_22 (fun H locs hP hD hS => ?_)
  have hP : va_P (dC, dI) vwCl [(e0, .inr (0, [.null, .null, .null, .null, .null, .null, .null, .ref q1, .int 0, .int (-1), .int 0, .int 0, .int 0, .int 0, .int 0])), (q1, .inr (2, [.ref q2, .ref q3, .ref q4, .ref q5, .ref q6, .ref q7, .int 0]))] H := hP
  have hD : va_D A [(e0, .inr (0, [.null, .null, .null, .null, .null, .null, .null, .ref q1, .int 0, .int (-1), .int 0, .int 0, .int 0, .int 0, .int 0])), (q1, .inr (2, [.ref q2, .ref q3, .ref q4, .ref q5, .ref q6, .ref q7, .int 0]))] := hD
  refine lv_aload_n hx hb dX0_init_25 rfl (lv_at hl 0 rfl) ?_
  refine lv_iconst (v := 0) hx hb dX0_init_26 (by decide) ?_
  refine va_put (D := (dC, dI)) (ci := 0) (v := .int 0) (ty := .int) (C := RX0) (T := TX0) (N := 15) hx hb hts inX0_init_X0 tyX0 tyX0_ok nmX0 hown hK hP hD hS 0 rfl rfl 10 (by decide) (hts _ lkX0_init_f25) (fun _ h9 => h9) rfl (by decide +kernel) rfl rfl (Nat.le_of_ble_eq_true rfl) dX0_init_27 (fun H locs hP hD hS => ?_)
  have hP : va_P (dC, dI) vwCl [(e0, .inr (0, [.null, .null, .null, .null, .null, .null, .null, .ref q1, .int 0, .int (-1), .int 0, .int 0, .int 0, .int 0, .int 0])), (q1, .inr (2, [.ref q2, .ref q3, .ref q4, .ref q5, .ref q6, .ref q7, .int 0]))] H := hP
  have hD : va_D A [(e0, .inr (0, [.null, .null, .null, .null, .null, .null, .null, .ref q1, .int 0, .int (-1), .int 0, .int 0, .int 0, .int 0, .int 0])), (q1, .inr (2, [.ref q2, .ref q3, .ref q4, .ref q5, .ref q6, .ref q7, .int 0]))] := hD
  refine lv_aload_n hx hb dX0_init_30 rfl (lv_at hl 0 rfl) ?_
  refine lv_iconst (v := (-1)) hx hb dX0_init_31 (by decide) ?_
  refine va_put (D := (dC, dI)) (ci := 0) (v := .int (-1)) (ty := .int) (C := RX0) (T := TX0) (N := 15) hx hb hts inX0_init_X0 tyX0 tyX0_ok nmX0 hown hK hP hD hS 0 rfl rfl 11 (by decide) (hts _ lkX0_init_f28) (fun _ h9 => h9) rfl (by decide +kernel) rfl rfl (Nat.le_of_ble_eq_true rfl) dX0_init_32 (fun H locs hP hD hS => ?_)
  have hP : va_P (dC, dI) vwCl [(e0, .inr (0, [.null, .null, .null, .null, .null, .null, .null, .ref q1, .int 0, .int (-1), .int 0, .int (-1), .int 0, .int 0, .int 0])), (q1, .inr (2, [.ref q2, .ref q3, .ref q4, .ref q5, .ref q6, .ref q7, .int 0]))] H := hP
  have hD : va_D A [(e0, .inr (0, [.null, .null, .null, .null, .null, .null, .null, .ref q1, .int 0, .int (-1), .int 0, .int (-1), .int 0, .int 0, .int 0])), (q1, .inr (2, [.ref q2, .ref q3, .ref q4, .ref q5, .ref q6, .ref q7, .int 0]))] := hD
  refine lv_aload_n hx hb dX0_init_35 rfl (lv_at hl 0 rfl) ?_
  refine lv_iconst (v := 0) hx hb dX0_init_36 (by decide) ?_
  refine va_put (D := (dC, dI)) (ci := 0) (v := .int 0) (ty := .int) (C := RX0) (T := TX0) (N := 15) hx hb hts inX0_init_X0 tyX0 tyX0_ok nmX0 hown hK hP hD hS 0 rfl rfl 12 (by decide) (hts _ lkX0_init_f31) (fun _ h9 => h9) rfl (by decide +kernel) rfl rfl (Nat.le_of_ble_eq_true rfl) dX0_init_37 (fun H locs hP hD hS => ?_)
  have hP : va_P (dC, dI) vwCl [(e0, .inr (0, [.null, .null, .null, .null, .null, .null, .null, .ref q1, .int 0, .int (-1), .int 0, .int (-1), .int 0, .int 0, .int 0])), (q1, .inr (2, [.ref q2, .ref q3, .ref q4, .ref q5, .ref q6, .ref q7, .int 0]))] H := hP
  have hD : va_D A [(e0, .inr (0, [.null, .null, .null, .null, .null, .null, .null, .ref q1, .int 0, .int (-1), .int 0, .int (-1), .int 0, .int 0, .int 0])), (q1, .inr (2, [.ref q2, .ref q3, .ref q4, .ref q5, .ref q6, .ref q7, .int 0]))] := hD
  refine lv_aload_n hx hb dX0_init_40 rfl (lv_at hl 0 rfl) ?_
  refine lv_iconst (v := 0) hx hb dX0_init_41 (by decide) ?_
  refine va_put (D := (dC, dI)) (ci := 0) (v := .int 0) (ty := .int) (C := RX0) (T := TX0) (N := 15) hx hb hts inX0_init_X0 tyX0 tyX0_ok nmX0 hown hK hP hD hS 0 rfl rfl 13 (by decide) (hts _ lkX0_init_f34) (fun _ h9 => h9) rfl (by decide +kernel) rfl rfl (Nat.le_of_ble_eq_true rfl) dX0_init_42 (fun H locs hP hD hS => ?_)
  have hP : va_P (dC, dI) vwCl [(e0, .inr (0, [.null, .null, .null, .null, .null, .null, .null, .ref q1, .int 0, .int (-1), .int 0, .int (-1), .int 0, .int 0, .int 0])), (q1, .inr (2, [.ref q2, .ref q3, .ref q4, .ref q5, .ref q6, .ref q7, .int 0]))] H := hP
  have hD : va_D A [(e0, .inr (0, [.null, .null, .null, .null, .null, .null, .null, .ref q1, .int 0, .int (-1), .int 0, .int (-1), .int 0, .int 0, .int 0])), (q1, .inr (2, [.ref q2, .ref q3, .ref q4, .ref q5, .ref q6, .ref q7, .int 0]))] := hD
  refine lv_aload_n hx hb dX0_init_45 rfl (lv_at hl 0 rfl) ?_
  refine lv_iconst (v := 0) hx hb dX0_init_46 (by decide) ?_
  refine va_put (D := (dC, dI)) (ci := 0) (v := .int 0) (ty := .int) (C := RX0) (T := TX0) (N := 15) hx hb hts inX0_init_X0 tyX0 tyX0_ok nmX0 hown hK hP hD hS 0 rfl rfl 14 (by decide) (hts _ lkX0_init_f37) (fun _ h9 => h9) rfl (by decide +kernel) rfl rfl (Nat.le_of_ble_eq_true rfl) dX0_init_47 (fun H locs hP hD hS => ?_)
  have hP : va_P (dC, dI) vwCl [(e0, .inr (0, [.null, .null, .null, .null, .null, .null, .null, .ref q1, .int 0, .int (-1), .int 0, .int (-1), .int 0, .int 0, .int 0])), (q1, .inr (2, [.ref q2, .ref q3, .ref q4, .ref q5, .ref q6, .ref q7, .int 0]))] H := hP
  have hD : va_D A [(e0, .inr (0, [.null, .null, .null, .null, .null, .null, .null, .ref q1, .int 0, .int (-1), .int 0, .int (-1), .int 0, .int 0, .int 0])), (q1, .inr (2, [.ref q2, .ref q3, .ref q4, .ref q5, .ref q6, .ref q7, .int 0]))] := hD
  refine va_new (ci := 5) (fs := [.null, .null, .null, .null, .int 0, .int 0]) (C := RX5) (T := TX5) (N := 6) hx hb hts inX0_init_X5 tyX5 tyX5_ok hown (hts _ lkX0_init_n40) (hts _ lkX0_init_iX5) (hts _ lkX0_init_zX5) hK hP hD hS hA rfl (fun j hj => df_X5 j hj) (Nat.le_of_ble_eq_true rfl) (Nat.le_of_ble_eq_true rfl) dX0_init_50 (fun q8 H hP hD hS => ?_)
  have hP : va_P (dC, dI) vwCl [(e0, .inr (0, [.null, .null, .null, .null, .null, .null, .null, .ref q1, .int 0, .int (-1), .int 0, .int (-1), .int 0, .int 0, .int 0])), (q1, .inr (2, [.ref q2, .ref q3, .ref q4, .ref q5, .ref q6, .ref q7, .int 0])), (q8, .inr (5, [.null, .null, .null, .null, .int 0, .int 0]))] H := hP
  have hD : va_D A [(e0, .inr (0, [.null, .null, .null, .null, .null, .null, .null, .ref q1, .int 0, .int (-1), .int 0, .int (-1), .int 0, .int 0, .int 0])), (q1, .inr (2, [.ref q2, .ref q3, .ref q4, .ref q5, .ref q6, .ref q7, .int 0])), (q8, .inr (5, [.null, .null, .null, .null, .int 0, .int 0]))] := hD
  refine W.widen (k := 8) (n := 619) (Nat.le_of_ble_eq_true rfl) (Nat.le_of_ble_eq_true rfl) ?_
  refine lv_dup hx hb dX0_init_53 rfl ?_
  have hPc := hP.sub (ws' := [(q8, .inr (5, [.null, .null, .null, .null, .int 0, .int 0]))]) [2] rfl
  have hDc := hD.sub (ws' := [(q8, .inr (5, [.null, .null, .null, .null, .int 0, .int 0]))]) [2] (by decide) rfl
  have hFc := va_free (wc := [(q8, .inr (5, [.null, .null, .null, .null, .int 0, .int 0]))]) hD hS hA [2] rfl
  refine va_callv (va_runIN (As := []) (rest := [.ref q8]) ⟨hx, hb, hml, hown, hts⟩ (c_Matches l dC dI cB cC cI cJ cZ q8  H.size) ⟨va_cnB 0 hts gX0_init_X5_init_n42 rfl rfl rfl hNW.2.1 (hts _ lkX0_init_zX5) (by decide +kernel) ⟨Nat.le_of_ble_eq_true rfl, Nat.le_of_ble_eq_true rfl⟩, rfl, (hts _ lkX0_init_mX5_init)⟩ ⟨fun a U g mk q => by obtain ⟨q0, q1, qP, qK, qD⟩ := q; exact ⟨q0, q1, qP, va_K.moved (u := U) (U := U.calling g mk a) (Vm.Alike.refl U.vm) qK, qD⟩, fun U hU hW => ⟨rfl, by rw [hU], by rw [hU]; exact hPc, va_K.moved hW.alike hK, hDc.weaken (fun _ _ _ _ => trivial)⟩⟩ rfl rfl hl.1 rfl (lv_room (Nat.le_of_ble_eq_true rfl)) dX0_init_54 ⟨Nat.le_of_ble_eq_true rfl, Nat.le_of_ble_eq_true rfl⟩) hS (fun q _ h => hFc q h) hFc (fun _u t H locs ht hvm hw hB hz1 hk1 hS => ?_)
  obtain ⟨q9, q10, q11, q12, hP1, hK1, hD1⟩ := hB
  rw [ht] at hP1
  obtain ⟨hP, hD⟩ := va_join (wr := [(e0, .inr (0, [.null, .null, .null, .null, .null, .null, .null, .ref q1, .int 0, .int (-1), .int 0, .int (-1), .int 0, .int 0, .int 0])), (q1, .inr (2, [.ref q2, .ref q3, .ref q4, .ref q5, .ref q6, .ref q7, .int 0]))]) (w1 := [(q8, .inr (5, [.ref q9, .ref q10, .ref q11, .ref q12, .int 0, .int 0]))]) hP hD [2] [0, 1] rfl rfl (by decide) (by decide) hk1 hFc hP1 hD1
  have hP : va_P (dC, dI) vwCl [(e0, .inr (0, [.null, .null, .null, .null, .null, .null, .null, .ref q1, .int 0, .int (-1), .int 0, .int (-1), .int 0, .int 0, .int 0])), (q1, .inr (2, [.ref q2, .ref q3, .ref q4, .ref q5, .ref q6, .ref q7, .int 0])), (q8, .inr (5, [.ref q9, .ref q10, .ref q11, .ref q12, .int 0, .int 0]))] H := hP
  have hD : va_D A [(e0, .inr (0, [.null, .null, .null, .null, .null, .null, .null, .ref q1, .int 0, .int (-1), .int 0, .int (-1), .int 0, .int 0, .int 0])), (q1, .inr (2, [.ref q2, .ref q3, .ref q4, .ref q5, .ref q6, .ref q7, .int 0])), (q8, .inr (5, [.ref q9, .ref q10, .ref q11, .ref q12, .int 0, .int 0]))] := hD
  refine W.widen (k := 12) (n := 12619) (Nat.le_of_ble_eq_true rfl) (Nat.le_of_ble_eq_true rfl) ?_
  refine lv_astore (lv' := [(4, .ref q8), (0, .ref e0), (1, .ref f0), (2, .ref n0), (3, .ref d0)]) hx hb dX0_init_57 hl (by decide) rfl (fun ls hl => ?_)
  refine lv_aload_n hx hb dX0_init_59 rfl (lv_at hl 1 rfl) ?_
  refine lv_aload_n hx hb dX0_init_60 rfl (lv_at hl 2 rfl) ?_
  refine va_putF (D := (dC, dI)) (ci := 0) (v := .ref f0) (ty := .object "MacroScopes$Forms") (C := RX0) (T := TX0) (N := 15) hx hb hts inX0_init_X0 tyX0 tyX0_ok nmX0 hown hK hP hD hS 0 rfl rfl 0 (by decide) (hts _ lkX0_init_f43) (fun _ h9 => h9) rfl hin rfl (by decide +kernel) rfl rfl (Nat.le_of_ble_eq_true rfl) dX0_init_61 (fun H locs hP hD hS => ?_)
  have hP : va_P (dC, dI) vwCl [(e0, .inr (0, [.ref f0, .null, .null, .null, .null, .null, .null, .ref q1, .int 0, .int (-1), .int 0, .int (-1), .int 0, .int 0, .int 0])), (q1, .inr (2, [.ref q2, .ref q3, .ref q4, .ref q5, .ref q6, .ref q7, .int 0])), (q8, .inr (5, [.ref q9, .ref q10, .ref q11, .ref q12, .int 0, .int 0]))] H := hP
  have hD : va_D A [(e0, .inr (0, [.ref f0, .null, .null, .null, .null, .null, .null, .ref q1, .int 0, .int (-1), .int 0, .int (-1), .int 0, .int 0, .int 0])), (q1, .inr (2, [.ref q2, .ref q3, .ref q4, .ref q5, .ref q6, .ref q7, .int 0])), (q8, .inr (5, [.ref q9, .ref q10, .ref q11, .ref q12, .int 0, .int 0]))] := hD
  refine lv_aload_n hx hb dX0_init_64 rfl (lv_at hl 1 rfl) ?_
  refine lv_aload_n hx hb dX0_init_65 rfl (lv_at hl 3 rfl) ?_
  refine va_putF (D := (dC, dI)) (ci := 0) (v := .ref n0) (ty := .object "MacroScopes$Names") (C := RX0) (T := TX0) (N := 15) hx hb hts inX0_init_X0 tyX0 tyX0_ok nmX0 hown hK hP hD hS 0 rfl rfl 1 (by decide) (hts _ lkX0_init_f47) (fun _ h9 => h9) rfl hin rfl (by decide +kernel) rfl rfl (Nat.le_of_ble_eq_true rfl) dX0_init_66 (fun H locs hP hD hS => ?_)
  have hP : va_P (dC, dI) vwCl [(e0, .inr (0, [.ref f0, .ref n0, .null, .null, .null, .null, .null, .ref q1, .int 0, .int (-1), .int 0, .int (-1), .int 0, .int 0, .int 0])), (q1, .inr (2, [.ref q2, .ref q3, .ref q4, .ref q5, .ref q6, .ref q7, .int 0])), (q8, .inr (5, [.ref q9, .ref q10, .ref q11, .ref q12, .int 0, .int 0]))] H := hP
  have hD : va_D A [(e0, .inr (0, [.ref f0, .ref n0, .null, .null, .null, .null, .null, .ref q1, .int 0, .int (-1), .int 0, .int (-1), .int 0, .int 0, .int 0])), (q1, .inr (2, [.ref q2, .ref q3, .ref q4, .ref q5, .ref q6, .ref q7, .int 0])), (q8, .inr (5, [.ref q9, .ref q10, .ref q11, .ref q12, .int 0, .int 0]))] := hD
  refine lv_aload_n hx hb dX0_init_69 rfl (lv_at hl 1 rfl) ?_
  refine lv_aload_n hx hb dX0_init_70 rfl (lv_at hl 4 rfl) ?_
  refine va_putF (D := (dC, dI)) (ci := 0) (v := .ref d0) (ty := .object "MacroScopes$Told") (C := RX0) (T := TX0) (N := 15) hx hb hts inX0_init_X0 tyX0 tyX0_ok nmX0 hown hK hP hD hS 0 rfl rfl 2 (by decide) (hts _ lkX0_init_f51) (fun _ h9 => h9) rfl hin rfl (by decide +kernel) rfl rfl (Nat.le_of_ble_eq_true rfl) dX0_init_71 (fun H locs hP hD hS => ?_)
  have hP : va_P (dC, dI) vwCl [(e0, .inr (0, [.ref f0, .ref n0, .ref d0, .null, .null, .null, .null, .ref q1, .int 0, .int (-1), .int 0, .int (-1), .int 0, .int 0, .int 0])), (q1, .inr (2, [.ref q2, .ref q3, .ref q4, .ref q5, .ref q6, .ref q7, .int 0])), (q8, .inr (5, [.ref q9, .ref q10, .ref q11, .ref q12, .int 0, .int 0]))] H := hP
  have hD : va_D A [(e0, .inr (0, [.ref f0, .ref n0, .ref d0, .null, .null, .null, .null, .ref q1, .int 0, .int (-1), .int 0, .int (-1), .int 0, .int 0, .int 0])), (q1, .inr (2, [.ref q2, .ref q3, .ref q4, .ref q5, .ref q6, .ref q7, .int 0])), (q8, .inr (5, [.ref q9, .ref q10, .ref q11, .ref q12, .int 0, .int 0]))] := hD
  refine lv_aload_n hx hb dX0_init_74 rfl (lv_at hl 1 rfl) ?_
  refine va_new (ci := 9) (fs := [.null, .null, .null, .null, .null, .int 0]) (C := RX9) (T := TX9) (N := 6) hx hb hts inX0_init_X9 tyX9 tyX9_ok hown (hts _ lkX0_init_n55) (hts _ lkX0_init_iX9) (hts _ lkX0_init_zX9) hK hP hD hS hA rfl (fun j hj => df_X9 j hj) (Nat.le_of_ble_eq_true rfl) (Nat.le_of_ble_eq_true rfl) dX0_init_75 (fun q13 H hP hD hS => ?_)
  have hP : va_P (dC, dI) vwCl [(e0, .inr (0, [.ref f0, .ref n0, .ref d0, .null, .null, .null, .null, .ref q1, .int 0, .int (-1), .int 0, .int (-1), .int 0, .int 0, .int 0])), (q1, .inr (2, [.ref q2, .ref q3, .ref q4, .ref q5, .ref q6, .ref q7, .int 0])), (q8, .inr (5, [.ref q9, .ref q10, .ref q11, .ref q12, .int 0, .int 0])), (q13, .inr (9, [.null, .null, .null, .null, .null, .int 0]))] H := hP
  have hD : va_D A [(e0, .inr (0, [.ref f0, .ref n0, .ref d0, .null, .null, .null, .null, .ref q1, .int 0, .int (-1), .int 0, .int (-1), .int 0, .int 0, .int 0])), (q1, .inr (2, [.ref q2, .ref q3, .ref q4, .ref q5, .ref q6, .ref q7, .int 0])), (q8, .inr (5, [.ref q9, .ref q10, .ref q11, .ref q12, .int 0, .int 0])), (q13, .inr (9, [.null, .null, .null, .null, .null, .int 0]))] := hD
  refine W.widen (k := 13) (n := 12625) (Nat.le_of_ble_eq_true rfl) (Nat.le_of_ble_eq_true rfl) ?_
  refine lv_dup hx hb dX0_init_78 rfl ?_
  refine lv_aload_n hx hb dX0_init_79 rfl (lv_at hl 3 rfl) ?_
  have hPc := hP.sub (ws' := [(q13, .inr (9, [.null, .null, .null, .null, .null, .int 0]))]) [3] rfl
  have hDc := hD.sub (ws' := [(q13, .inr (9, [.null, .null, .null, .null, .null, .int 0]))]) [3] (by decide) rfl
  have hFc := va_free (wc := [(q13, .inr (9, [.null, .null, .null, .null, .null, .int 0]))]) hD hS hA [3] rfl
  refine va_callv (va_runI (As := [.ref n0]) (rest := [.ref q13, .ref e0]) ⟨hx, hb, hml, hown, hts⟩ (c_Scopes l dC dI cB cC cI cJ cZ q13 n0  H.size) (cwI 1 hts gX0_init_X9_init rfl rfl rfl (hts _ lkX0_init_zX9) (hts _ lkX0_init_l57) (hts _ lkX0_init_mX9_init) rfl (by decide +kernel) ⟨Nat.le_of_ble_eq_true rfl, Nat.le_of_ble_eq_true rfl⟩) ⟨fun a U g mk q => by obtain ⟨q0, q1, qP, qK, qD⟩ := q; exact ⟨q0, q1, qP, va_K.moved (u := U) (U := U.calling g mk a) (Vm.Alike.refl U.vm) qK, qD⟩, fun U hU hW => ⟨rfl, by rw [hU], by rw [hU]; exact hPc, va_K.moved hW.alike hK, hDc.weaken (fun _ _ _ _ => trivial)⟩⟩ rfl rfl hl.1 rfl (lv_room (Nat.le_of_ble_eq_true rfl)) dX0_init_80 ⟨Nat.le_of_ble_eq_true rfl, Nat.le_of_ble_eq_true rfl⟩) hS (fun q _ h => hFc q h) hFc (fun _u t H locs ht hvm hw hB hz1 hk1 hS => ?_)
  obtain ⟨q14, q15, q16, q17, hP1, hK1, hD1⟩ := hB
  rw [ht] at hP1
  obtain ⟨hP, hD⟩ := va_join (wr := [(e0, .inr (0, [.ref f0, .ref n0, .ref d0, .null, .null, .null, .null, .ref q1, .int 0, .int (-1), .int 0, .int (-1), .int 0, .int 0, .int 0])), (q1, .inr (2, [.ref q2, .ref q3, .ref q4, .ref q5, .ref q6, .ref q7, .int 0])), (q8, .inr (5, [.ref q9, .ref q10, .ref q11, .ref q12, .int 0, .int 0]))]) (w1 := [(q13, .inr (9, [.ref n0, .ref q14, .ref q15, .ref q16, .ref q17, .int 0]))]) hP hD [3] [0, 1, 2] rfl rfl (by decide) (by decide) hk1 hFc hP1 hD1
  have hP : va_P (dC, dI) vwCl [(e0, .inr (0, [.ref f0, .ref n0, .ref d0, .null, .null, .null, .null, .ref q1, .int 0, .int (-1), .int 0, .int (-1), .int 0, .int 0, .int 0])), (q1, .inr (2, [.ref q2, .ref q3, .ref q4, .ref q5, .ref q6, .ref q7, .int 0])), (q8, .inr (5, [.ref q9, .ref q10, .ref q11, .ref q12, .int 0, .int 0])), (q13, .inr (9, [.ref n0, .ref q14, .ref q15, .ref q16, .ref q17, .int 0]))] H := hP
  have hD : va_D A [(e0, .inr (0, [.ref f0, .ref n0, .ref d0, .null, .null, .null, .null, .ref q1, .int 0, .int (-1), .int 0, .int (-1), .int 0, .int 0, .int 0])), (q1, .inr (2, [.ref q2, .ref q3, .ref q4, .ref q5, .ref q6, .ref q7, .int 0])), (q8, .inr (5, [.ref q9, .ref q10, .ref q11, .ref q12, .int 0, .int 0])), (q13, .inr (9, [.ref n0, .ref q14, .ref q15, .ref q16, .ref q17, .int 0]))] := hD
  refine W.widen (k := 17) (n := 15049) (Nat.le_of_ble_eq_true rfl) (Nat.le_of_ble_eq_true rfl) ?_
  refine va_putF (D := (dC, dI)) (ci := 0) (v := .ref q13) (ty := .object "MacroScopes$Scopes") (C := RX0) (T := TX0) (N := 15) hx hb hts inX0_init_X0 tyX0 tyX0_ok nmX0 hown hK hP hD hS 0 rfl rfl 3 (by decide) (hts _ lkX0_init_f60) (fun _ h9 => h9) rfl hin rfl (by decide +kernel) rfl rfl (Nat.le_of_ble_eq_true rfl) dX0_init_83 (fun H locs hP hD hS => ?_)
  have hP : va_P (dC, dI) vwCl [(e0, .inr (0, [.ref f0, .ref n0, .ref d0, .ref q13, .null, .null, .null, .ref q1, .int 0, .int (-1), .int 0, .int (-1), .int 0, .int 0, .int 0])), (q1, .inr (2, [.ref q2, .ref q3, .ref q4, .ref q5, .ref q6, .ref q7, .int 0])), (q8, .inr (5, [.ref q9, .ref q10, .ref q11, .ref q12, .int 0, .int 0])), (q13, .inr (9, [.ref n0, .ref q14, .ref q15, .ref q16, .ref q17, .int 0]))] H := hP
  have hD : va_D A [(e0, .inr (0, [.ref f0, .ref n0, .ref d0, .ref q13, .null, .null, .null, .ref q1, .int 0, .int (-1), .int 0, .int (-1), .int 0, .int 0, .int 0])), (q1, .inr (2, [.ref q2, .ref q3, .ref q4, .ref q5, .ref q6, .ref q7, .int 0])), (q8, .inr (5, [.ref q9, .ref q10, .ref q11, .ref q12, .int 0, .int 0])), (q13, .inr (9, [.ref n0, .ref q14, .ref q15, .ref q16, .ref q17, .int 0]))] := hD
  refine lv_aload_n hx hb dX0_init_86 rfl (lv_at hl 1 rfl) ?_
  refine va_new (ci := 8) (fs := [.null, .null, .null, .int 0]) (C := RX8) (T := TX8) (N := 4) hx hb hts inX0_init_X8 tyX8 tyX8_ok hown (hts _ lkX0_init_n64) (hts _ lkX0_init_iX8) (hts _ lkX0_init_zX8) hK hP hD hS hA rfl (fun j hj => df_X8 j hj) (Nat.le_of_ble_eq_true rfl) (Nat.le_of_ble_eq_true rfl) dX0_init_87 (fun q18 H hP hD hS => ?_)
  have hP : va_P (dC, dI) vwCl [(e0, .inr (0, [.ref f0, .ref n0, .ref d0, .ref q13, .null, .null, .null, .ref q1, .int 0, .int (-1), .int 0, .int (-1), .int 0, .int 0, .int 0])), (q1, .inr (2, [.ref q2, .ref q3, .ref q4, .ref q5, .ref q6, .ref q7, .int 0])), (q8, .inr (5, [.ref q9, .ref q10, .ref q11, .ref q12, .int 0, .int 0])), (q13, .inr (9, [.ref n0, .ref q14, .ref q15, .ref q16, .ref q17, .int 0])), (q18, .inr (8, [.null, .null, .null, .int 0]))] H := hP
  have hD : va_D A [(e0, .inr (0, [.ref f0, .ref n0, .ref d0, .ref q13, .null, .null, .null, .ref q1, .int 0, .int (-1), .int 0, .int (-1), .int 0, .int 0, .int 0])), (q1, .inr (2, [.ref q2, .ref q3, .ref q4, .ref q5, .ref q6, .ref q7, .int 0])), (q8, .inr (5, [.ref q9, .ref q10, .ref q11, .ref q12, .int 0, .int 0])), (q13, .inr (9, [.ref n0, .ref q14, .ref q15, .ref q16, .ref q17, .int 0])), (q18, .inr (8, [.null, .null, .null, .int 0]))] := hD
  refine W.widen (k := 18) (n := 15053) (Nat.le_of_ble_eq_true rfl) (Nat.le_of_ble_eq_true rfl) ?_
  refine lv_dup hx hb dX0_init_90 rfl ?_
  refine lv_aload_n hx hb dX0_init_91 rfl (lv_at hl 2 rfl) ?_
  refine lv_aload_n hx hb dX0_init_92 rfl (lv_at hl 3 rfl) ?_
  refine lv_aload_n hx hb dX0_init_93 rfl (lv_at hl 1 rfl) ?_
  refine va_get (D := (dC, dI)) (ci := 0) (v := .ref q13) (C := RX0) (T := TX0) (N := 15) hx hb hts inX0_init_X0 hown hK hP 0 rfl rfl 3 (by decide) (hts _ lkX0_init_f60) (fun _ h9 => h9) rfl dX0_init_94 ?_
  have hPc := hP.sub (ws' := [(q18, .inr (8, [.null, .null, .null, .int 0]))]) [4] rfl
  have hDc := hD.sub (ws' := [(q18, .inr (8, [.null, .null, .null, .int 0]))]) [4] (by decide) rfl
  have hFc := va_free (wc := [(q18, .inr (8, [.null, .null, .null, .int 0]))]) hD hS hA [4] rfl
  refine va_callv (va_runI (As := [.ref f0, .ref n0, .ref q13]) (rest := [.ref q18, .ref e0]) ⟨hx, hb, hml, hown, hts⟩ (c_RuleCheck l dC dI cB cC cI cJ cZ q18 f0 n0 q13  H.size) (cwI 3 hts gX0_init_X8_init rfl rfl rfl (hts _ lkX0_init_zX8) (hts _ lkX0_init_l66) (hts _ lkX0_init_mX8_init) rfl (by decide +kernel) ⟨Nat.le_of_ble_eq_true rfl, Nat.le_of_ble_eq_true rfl⟩) ⟨fun a U g mk q => by obtain ⟨q0, q1, qP, qK, qD⟩ := q; exact ⟨q0, q1, qP, va_K.moved (u := U) (U := U.calling g mk a) (Vm.Alike.refl U.vm) qK, qD⟩, fun U hU hW => ⟨rfl, by rw [hU], by rw [hU]; exact hPc, va_K.moved hW.alike hK, hDc.weaken (fun _ _ _ _ => trivial)⟩⟩ rfl rfl hl.1 rfl (lv_room (Nat.le_of_ble_eq_true rfl)) dX0_init_97 ⟨Nat.le_of_ble_eq_true rfl, Nat.le_of_ble_eq_true rfl⟩) hS (fun q _ h => hFc q h) hFc (fun _u t H locs ht hvm hw hB hz1 hk1 hS => ?_)
  obtain ⟨hP1, hK1, hD1⟩ := hB
  rw [ht] at hP1
  obtain ⟨hP, hD⟩ := va_join (wr := [(e0, .inr (0, [.ref f0, .ref n0, .ref d0, .ref q13, .null, .null, .null, .ref q1, .int 0, .int (-1), .int 0, .int (-1), .int 0, .int 0, .int 0])), (q1, .inr (2, [.ref q2, .ref q3, .ref q4, .ref q5, .ref q6, .ref q7, .int 0])), (q8, .inr (5, [.ref q9, .ref q10, .ref q11, .ref q12, .int 0, .int 0])), (q13, .inr (9, [.ref n0, .ref q14, .ref q15, .ref q16, .ref q17, .int 0]))]) (w1 := [(q18, .inr (8, [.ref f0, .ref n0, .ref q13, .int (-1)]))]) hP hD [4] [0, 1, 2, 3] rfl rfl (by decide) (by decide) hk1 hFc hP1 hD1
  have hP : va_P (dC, dI) vwCl [(e0, .inr (0, [.ref f0, .ref n0, .ref d0, .ref q13, .null, .null, .null, .ref q1, .int 0, .int (-1), .int 0, .int (-1), .int 0, .int 0, .int 0])), (q1, .inr (2, [.ref q2, .ref q3, .ref q4, .ref q5, .ref q6, .ref q7, .int 0])), (q8, .inr (5, [.ref q9, .ref q10, .ref q11, .ref q12, .int 0, .int 0])), (q13, .inr (9, [.ref n0, .ref q14, .ref q15, .ref q16, .ref q17, .int 0])), (q18, .inr (8, [.ref f0, .ref n0, .ref q13, .int (-1)]))] H := hP
  have hD : va_D A [(e0, .inr (0, [.ref f0, .ref n0, .ref d0, .ref q13, .null, .null, .null, .ref q1, .int 0, .int (-1), .int 0, .int (-1), .int 0, .int 0, .int 0])), (q1, .inr (2, [.ref q2, .ref q3, .ref q4, .ref q5, .ref q6, .ref q7, .int 0])), (q8, .inr (5, [.ref q9, .ref q10, .ref q11, .ref q12, .int 0, .int 0])), (q13, .inr (9, [.ref n0, .ref q14, .ref q15, .ref q16, .ref q17, .int 0])), (q18, .inr (8, [.ref f0, .ref n0, .ref q13, .int (-1)]))] := hD
  refine W.widen (k := 18) (n := 15053) (Nat.le_of_ble_eq_true rfl) (Nat.le_of_ble_eq_true rfl) ?_
  refine va_putF (D := (dC, dI)) (ci := 0) (v := .ref q18) (ty := .object "MacroScopes$RuleCheck") (C := RX0) (T := TX0) (N := 15) hx hb hts inX0_init_X0 tyX0 tyX0_ok nmX0 hown hK hP hD hS 0 rfl rfl 4 (by decide) (hts _ lkX0_init_f69) (fun _ h9 => h9) rfl hin rfl (by decide +kernel) rfl rfl (Nat.le_of_ble_eq_true rfl) dX0_init_100 (fun H locs hP hD hS => ?_)
  have hP : va_P (dC, dI) vwCl [(e0, .inr (0, [.ref f0, .ref n0, .ref d0, .ref q13, .ref q18, .null, .null, .ref q1, .int 0, .int (-1), .int 0, .int (-1), .int 0, .int 0, .int 0])), (q1, .inr (2, [.ref q2, .ref q3, .ref q4, .ref q5, .ref q6, .ref q7, .int 0])), (q8, .inr (5, [.ref q9, .ref q10, .ref q11, .ref q12, .int 0, .int 0])), (q13, .inr (9, [.ref n0, .ref q14, .ref q15, .ref q16, .ref q17, .int 0])), (q18, .inr (8, [.ref f0, .ref n0, .ref q13, .int (-1)]))] H := hP
  have hD : va_D A [(e0, .inr (0, [.ref f0, .ref n0, .ref d0, .ref q13, .ref q18, .null, .null, .ref q1, .int 0, .int (-1), .int 0, .int (-1), .int 0, .int 0, .int 0])), (q1, .inr (2, [.ref q2, .ref q3, .ref q4, .ref q5, .ref q6, .ref q7, .int 0])), (q8, .inr (5, [.ref q9, .ref q10, .ref q11, .ref q12, .int 0, .int 0])), (q13, .inr (9, [.ref n0, .ref q14, .ref q15, .ref q16, .ref q17, .int 0])), (q18, .inr (8, [.ref f0, .ref n0, .ref q13, .int (-1)]))] := hD
  refine lv_aload_n hx hb dX0_init_103 rfl (lv_at hl 1 rfl) ?_
  refine va_new (ci := 4) (fs := [.null, .null, .null, .null, .int 0, .int 0]) (C := RX4) (T := TX4) (N := 6) hx hb hts inX0_init_X4 tyX4 tyX4_ok hown (hts _ lkX0_init_n73) (hts _ lkX0_init_iX4) (hts _ lkX0_init_zX4) hK hP hD hS hA rfl (fun j hj => df_X4 j hj) (Nat.le_of_ble_eq_true rfl) (Nat.le_of_ble_eq_true rfl) dX0_init_104 (fun q19 H hP hD hS => ?_)
  have hP : va_P (dC, dI) vwCl [(e0, .inr (0, [.ref f0, .ref n0, .ref d0, .ref q13, .ref q18, .null, .null, .ref q1, .int 0, .int (-1), .int 0, .int (-1), .int 0, .int 0, .int 0])), (q1, .inr (2, [.ref q2, .ref q3, .ref q4, .ref q5, .ref q6, .ref q7, .int 0])), (q8, .inr (5, [.ref q9, .ref q10, .ref q11, .ref q12, .int 0, .int 0])), (q13, .inr (9, [.ref n0, .ref q14, .ref q15, .ref q16, .ref q17, .int 0])), (q18, .inr (8, [.ref f0, .ref n0, .ref q13, .int (-1)])), (q19, .inr (4, [.null, .null, .null, .null, .int 0, .int 0]))] H := hP
  have hD : va_D A [(e0, .inr (0, [.ref f0, .ref n0, .ref d0, .ref q13, .ref q18, .null, .null, .ref q1, .int 0, .int (-1), .int 0, .int (-1), .int 0, .int 0, .int 0])), (q1, .inr (2, [.ref q2, .ref q3, .ref q4, .ref q5, .ref q6, .ref q7, .int 0])), (q8, .inr (5, [.ref q9, .ref q10, .ref q11, .ref q12, .int 0, .int 0])), (q13, .inr (9, [.ref n0, .ref q14, .ref q15, .ref q16, .ref q17, .int 0])), (q18, .inr (8, [.ref f0, .ref n0, .ref q13, .int (-1)])), (q19, .inr (4, [.null, .null, .null, .null, .int 0, .int 0]))] := hD
  refine W.widen (k := 19) (n := 15059) (Nat.le_of_ble_eq_true rfl) (Nat.le_of_ble_eq_true rfl) ?_
  refine lv_dup hx hb dX0_init_107 rfl ?_
  refine lv_aload_n hx hb dX0_init_108 rfl (lv_at hl 2 rfl) ?_
  refine lv_aload_n hx hb dX0_init_109 rfl (lv_at hl 3 rfl) ?_
  refine lv_aload_n hx hb dX0_init_110 rfl (lv_at hl 1 rfl) ?_
  refine va_get (D := (dC, dI)) (ci := 0) (v := .ref q13) (C := RX0) (T := TX0) (N := 15) hx hb hts inX0_init_X0 hown hK hP 0 rfl rfl 3 (by decide) (hts _ lkX0_init_f60) (fun _ h9 => h9) rfl dX0_init_111 ?_
  refine lv_aload hx hb dX0_init_114 (lv_at hl 0 rfl) ?_
  have hPc := hP.sub (ws' := [(q19, .inr (4, [.null, .null, .null, .null, .int 0, .int 0]))]) [5] rfl
  have hDc := hD.sub (ws' := [(q19, .inr (4, [.null, .null, .null, .null, .int 0, .int 0]))]) [5] (by decide) rfl
  have hFc := va_free (wc := [(q19, .inr (4, [.null, .null, .null, .null, .int 0, .int 0]))]) hD hS hA [5] rfl
  refine va_callv (va_runI (As := [.ref f0, .ref n0, .ref q13, .ref q8]) (rest := [.ref q19, .ref e0]) ⟨hx, hb, hml, hown, hts⟩ (c_Matcher l dC dI cB cC cI cJ cZ q19 f0 n0 q13 q8  H.size) (cwI 4 hts gX0_init_X4_init rfl rfl rfl (hts _ lkX0_init_zX4) (hts _ lkX0_init_l75) (hts _ lkX0_init_mX4_init) rfl (by decide +kernel) ⟨Nat.le_of_ble_eq_true rfl, Nat.le_of_ble_eq_true rfl⟩) ⟨fun a U g mk q => by obtain ⟨q0, q1, qP, qK, qD⟩ := q; exact ⟨q0, q1, qP, va_K.moved (u := U) (U := U.calling g mk a) (Vm.Alike.refl U.vm) qK, qD⟩, fun U hU hW => ⟨rfl, by rw [hU], by rw [hU]; exact hPc, va_K.moved hW.alike hK, hDc.weaken (fun _ _ _ _ => trivial)⟩⟩ rfl rfl hl.1 rfl (lv_room (Nat.le_of_ble_eq_true rfl)) dX0_init_116 ⟨Nat.le_of_ble_eq_true rfl, Nat.le_of_ble_eq_true rfl⟩) hS (fun q _ h => hFc q h) hFc (fun _u t H locs ht hvm hw hB hz1 hk1 hS => ?_)
  obtain ⟨hP1, hK1, hD1⟩ := hB
  rw [ht] at hP1
  obtain ⟨hP, hD⟩ := va_join (wr := [(e0, .inr (0, [.ref f0, .ref n0, .ref d0, .ref q13, .ref q18, .null, .null, .ref q1, .int 0, .int (-1), .int 0, .int (-1), .int 0, .int 0, .int 0])), (q1, .inr (2, [.ref q2, .ref q3, .ref q4, .ref q5, .ref q6, .ref q7, .int 0])), (q8, .inr (5, [.ref q9, .ref q10, .ref q11, .ref q12, .int 0, .int 0])), (q13, .inr (9, [.ref n0, .ref q14, .ref q15, .ref q16, .ref q17, .int 0])), (q18, .inr (8, [.ref f0, .ref n0, .ref q13, .int (-1)]))]) (w1 := [(q19, .inr (4, [.ref f0, .ref n0, .ref q13, .ref q8, .int (-1), .int 0]))]) hP hD [5] [0, 1, 2, 3, 4] rfl rfl (by decide) (by decide) hk1 hFc hP1 hD1
  have hP : va_P (dC, dI) vwCl [(e0, .inr (0, [.ref f0, .ref n0, .ref d0, .ref q13, .ref q18, .null, .null, .ref q1, .int 0, .int (-1), .int 0, .int (-1), .int 0, .int 0, .int 0])), (q1, .inr (2, [.ref q2, .ref q3, .ref q4, .ref q5, .ref q6, .ref q7, .int 0])), (q8, .inr (5, [.ref q9, .ref q10, .ref q11, .ref q12, .int 0, .int 0])), (q13, .inr (9, [.ref n0, .ref q14, .ref q15, .ref q16, .ref q17, .int 0])), (q18, .inr (8, [.ref f0, .ref n0, .ref q13, .int (-1)])), (q19, .inr (4, [.ref f0, .ref n0, .ref q13, .ref q8, .int (-1), .int 0]))] H := hP
  have hD : va_D A [(e0, .inr (0, [.ref f0, .ref n0, .ref d0, .ref q13, .ref q18, .null, .null, .ref q1, .int 0, .int (-1), .int 0, .int (-1), .int 0, .int 0, .int 0])), (q1, .inr (2, [.ref q2, .ref q3, .ref q4, .ref q5, .ref q6, .ref q7, .int 0])), (q8, .inr (5, [.ref q9, .ref q10, .ref q11, .ref q12, .int 0, .int 0])), (q13, .inr (9, [.ref n0, .ref q14, .ref q15, .ref q16, .ref q17, .int 0])), (q18, .inr (8, [.ref f0, .ref n0, .ref q13, .int (-1)])), (q19, .inr (4, [.ref f0, .ref n0, .ref q13, .ref q8, .int (-1), .int 0]))] := hD
  refine W.widen (k := 19) (n := 15059) (Nat.le_of_ble_eq_true rfl) (Nat.le_of_ble_eq_true rfl) ?_
  refine va_putF (D := (dC, dI)) (ci := 0) (v := .ref q19) (ty := .object "MacroScopes$Matcher") (C := RX0) (T := TX0) (N := 15) hx hb hts inX0_init_X0 tyX0 tyX0_ok nmX0 hown hK hP hD hS 0 rfl rfl 5 (by decide) (hts _ lkX0_init_f78) (fun _ h9 => h9) rfl hin rfl (by decide +kernel) rfl rfl (Nat.le_of_ble_eq_true rfl) dX0_init_119 (fun H locs hP hD hS => ?_)
  have hP : va_P (dC, dI) vwCl [(e0, .inr (0, [.ref f0, .ref n0, .ref d0, .ref q13, .ref q18, .ref q19, .null, .ref q1, .int 0, .int (-1), .int 0, .int (-1), .int 0, .int 0, .int 0])), (q1, .inr (2, [.ref q2, .ref q3, .ref q4, .ref q5, .ref q6, .ref q7, .int 0])), (q8, .inr (5, [.ref q9, .ref q10, .ref q11, .ref q12, .int 0, .int 0])), (q13, .inr (9, [.ref n0, .ref q14, .ref q15, .ref q16, .ref q17, .int 0])), (q18, .inr (8, [.ref f0, .ref n0, .ref q13, .int (-1)])), (q19, .inr (4, [.ref f0, .ref n0, .ref q13, .ref q8, .int (-1), .int 0]))] H := hP
  have hD : va_D A [(e0, .inr (0, [.ref f0, .ref n0, .ref d0, .ref q13, .ref q18, .ref q19, .null, .ref q1, .int 0, .int (-1), .int 0, .int (-1), .int 0, .int 0, .int 0])), (q1, .inr (2, [.ref q2, .ref q3, .ref q4, .ref q5, .ref q6, .ref q7, .int 0])), (q8, .inr (5, [.ref q9, .ref q10, .ref q11, .ref q12, .int 0, .int 0])), (q13, .inr (9, [.ref n0, .ref q14, .ref q15, .ref q16, .ref q17, .int 0])), (q18, .inr (8, [.ref f0, .ref n0, .ref q13, .int (-1)])), (q19, .inr (4, [.ref f0, .ref n0, .ref q13, .ref q8, .int (-1), .int 0]))] := hD
  refine lv_aload_n hx hb dX0_init_122 rfl (lv_at hl 1 rfl) ?_
  refine va_new (ci := 3) (fs := [.null, .null, .null, .int 0, .int 0, .int 0]) (C := RX3) (T := TX3) (N := 6) hx hb hts inX0_init_X3 tyX3 tyX3_ok hown (hts _ lkX0_init_n82) (hts _ lkX0_init_iX3) (hts _ lkX0_init_zX3) hK hP hD hS hA rfl (fun j hj => df_X3 j hj) (Nat.le_of_ble_eq_true rfl) (Nat.le_of_ble_eq_true rfl) dX0_init_123 (fun q20 H hP hD hS => ?_)
  have hP : va_P (dC, dI) vwCl [(e0, .inr (0, [.ref f0, .ref n0, .ref d0, .ref q13, .ref q18, .ref q19, .null, .ref q1, .int 0, .int (-1), .int 0, .int (-1), .int 0, .int 0, .int 0])), (q1, .inr (2, [.ref q2, .ref q3, .ref q4, .ref q5, .ref q6, .ref q7, .int 0])), (q8, .inr (5, [.ref q9, .ref q10, .ref q11, .ref q12, .int 0, .int 0])), (q13, .inr (9, [.ref n0, .ref q14, .ref q15, .ref q16, .ref q17, .int 0])), (q18, .inr (8, [.ref f0, .ref n0, .ref q13, .int (-1)])), (q19, .inr (4, [.ref f0, .ref n0, .ref q13, .ref q8, .int (-1), .int 0])), (q20, .inr (3, [.null, .null, .null, .int 0, .int 0, .int 0]))] H := hP
  have hD : va_D A [(e0, .inr (0, [.ref f0, .ref n0, .ref d0, .ref q13, .ref q18, .ref q19, .null, .ref q1, .int 0, .int (-1), .int 0, .int (-1), .int 0, .int 0, .int 0])), (q1, .inr (2, [.ref q2, .ref q3, .ref q4, .ref q5, .ref q6, .ref q7, .int 0])), (q8, .inr (5, [.ref q9, .ref q10, .ref q11, .ref q12, .int 0, .int 0])), (q13, .inr (9, [.ref n0, .ref q14, .ref q15, .ref q16, .ref q17, .int 0])), (q18, .inr (8, [.ref f0, .ref n0, .ref q13, .int (-1)])), (q19, .inr (4, [.ref f0, .ref n0, .ref q13, .ref q8, .int (-1), .int 0])), (q20, .inr (3, [.null, .null, .null, .int 0, .int 0, .int 0]))] := hD
  refine W.widen (k := 20) (n := 15065) (Nat.le_of_ble_eq_true rfl) (Nat.le_of_ble_eq_true rfl) ?_
  refine lv_dup hx hb dX0_init_126 rfl ?_
  refine lv_aload_n hx hb dX0_init_127 rfl (lv_at hl 2 rfl) ?_
  refine lv_aload_n hx hb dX0_init_128 rfl (lv_at hl 3 rfl) ?_
  refine lv_aload hx hb dX0_init_129 (lv_at hl 0 rfl) ?_
  have hPc := hP.sub (ws' := [(q20, .inr (3, [.null, .null, .null, .int 0, .int 0, .int 0]))]) [6] rfl
  have hDc := hD.sub (ws' := [(q20, .inr (3, [.null, .null, .null, .int 0, .int 0, .int 0]))]) [6] (by decide) rfl
  have hFc := va_free (wc := [(q20, .inr (3, [.null, .null, .null, .int 0, .int 0, .int 0]))]) hD hS hA [6] rfl
  refine va_callv (va_runI (As := [.ref f0, .ref n0, .ref q8]) (rest := [.ref q20, .ref e0]) ⟨hx, hb, hml, hown, hts⟩ (c_Maker l dC dI cB cC cI cJ cZ q20 f0 n0 q8  H.size) (cwI 3 hts gX0_init_X3_init rfl rfl rfl (hts _ lkX0_init_zX3) (hts _ lkX0_init_l84) (hts _ lkX0_init_mX3_init) rfl (by decide +kernel) ⟨Nat.le_of_ble_eq_true rfl, Nat.le_of_ble_eq_true rfl⟩) ⟨fun a U g mk q => by obtain ⟨q0, q1, qP, qK, qD⟩ := q; exact ⟨q0, q1, qP, va_K.moved (u := U) (U := U.calling g mk a) (Vm.Alike.refl U.vm) qK, qD⟩, fun U hU hW => ⟨rfl, by rw [hU], by rw [hU]; exact hPc, va_K.moved hW.alike hK, hDc.weaken (fun _ _ _ _ => trivial)⟩⟩ rfl rfl hl.1 rfl (lv_room (Nat.le_of_ble_eq_true rfl)) dX0_init_131 ⟨Nat.le_of_ble_eq_true rfl, Nat.le_of_ble_eq_true rfl⟩) hS (fun q _ h => hFc q h) hFc (fun _u t H locs ht hvm hw hB hz1 hk1 hS => ?_)
  obtain ⟨hP1, hK1, hD1⟩ := hB
  rw [ht] at hP1
  obtain ⟨hP, hD⟩ := va_join (wr := [(e0, .inr (0, [.ref f0, .ref n0, .ref d0, .ref q13, .ref q18, .ref q19, .null, .ref q1, .int 0, .int (-1), .int 0, .int (-1), .int 0, .int 0, .int 0])), (q1, .inr (2, [.ref q2, .ref q3, .ref q4, .ref q5, .ref q6, .ref q7, .int 0])), (q8, .inr (5, [.ref q9, .ref q10, .ref q11, .ref q12, .int 0, .int 0])), (q13, .inr (9, [.ref n0, .ref q14, .ref q15, .ref q16, .ref q17, .int 0])), (q18, .inr (8, [.ref f0, .ref n0, .ref q13, .int (-1)])), (q19, .inr (4, [.ref f0, .ref n0, .ref q13, .ref q8, .int (-1), .int 0]))]) (w1 := [(q20, .inr (3, [.ref f0, .ref n0, .ref q8, .int 0, .int 0, .int 0]))]) hP hD [6] [0, 1, 2, 3, 4, 5] rfl rfl (by decide) (by decide) hk1 hFc hP1 hD1
  have hP : va_P (dC, dI) vwCl [(e0, .inr (0, [.ref f0, .ref n0, .ref d0, .ref q13, .ref q18, .ref q19, .null, .ref q1, .int 0, .int (-1), .int 0, .int (-1), .int 0, .int 0, .int 0])), (q1, .inr (2, [.ref q2, .ref q3, .ref q4, .ref q5, .ref q6, .ref q7, .int 0])), (q8, .inr (5, [.ref q9, .ref q10, .ref q11, .ref q12, .int 0, .int 0])), (q13, .inr (9, [.ref n0, .ref q14, .ref q15, .ref q16, .ref q17, .int 0])), (q18, .inr (8, [.ref f0, .ref n0, .ref q13, .int (-1)])), (q19, .inr (4, [.ref f0, .ref n0, .ref q13, .ref q8, .int (-1), .int 0])), (q20, .inr (3, [.ref f0, .ref n0, .ref q8, .int 0, .int 0, .int 0]))] H := hP
  have hD : va_D A [(e0, .inr (0, [.ref f0, .ref n0, .ref d0, .ref q13, .ref q18, .ref q19, .null, .ref q1, .int 0, .int (-1), .int 0, .int (-1), .int 0, .int 0, .int 0])), (q1, .inr (2, [.ref q2, .ref q3, .ref q4, .ref q5, .ref q6, .ref q7, .int 0])), (q8, .inr (5, [.ref q9, .ref q10, .ref q11, .ref q12, .int 0, .int 0])), (q13, .inr (9, [.ref n0, .ref q14, .ref q15, .ref q16, .ref q17, .int 0])), (q18, .inr (8, [.ref f0, .ref n0, .ref q13, .int (-1)])), (q19, .inr (4, [.ref f0, .ref n0, .ref q13, .ref q8, .int (-1), .int 0])), (q20, .inr (3, [.ref f0, .ref n0, .ref q8, .int 0, .int 0, .int 0]))] := hD
  refine W.widen (k := 20) (n := 15065) (Nat.le_of_ble_eq_true rfl) (Nat.le_of_ble_eq_true rfl) ?_
  refine va_putF (D := (dC, dI)) (ci := 0) (v := .ref q20) (ty := .object "MacroScopes$Maker") (C := RX0) (T := TX0) (N := 15) hx hb hts inX0_init_X0 tyX0 tyX0_ok nmX0 hown hK hP hD hS 0 rfl rfl 6 (by decide) (hts _ lkX0_init_f87) (fun _ h9 => h9) rfl hin rfl (by decide +kernel) rfl rfl (Nat.le_of_ble_eq_true rfl) dX0_init_134 (fun H locs hP hD hS => ?_)
  have hP : va_P (dC, dI) vwCl [(e0, .inr (0, [.ref f0, .ref n0, .ref d0, .ref q13, .ref q18, .ref q19, .ref q20, .ref q1, .int 0, .int (-1), .int 0, .int (-1), .int 0, .int 0, .int 0])), (q1, .inr (2, [.ref q2, .ref q3, .ref q4, .ref q5, .ref q6, .ref q7, .int 0])), (q8, .inr (5, [.ref q9, .ref q10, .ref q11, .ref q12, .int 0, .int 0])), (q13, .inr (9, [.ref n0, .ref q14, .ref q15, .ref q16, .ref q17, .int 0])), (q18, .inr (8, [.ref f0, .ref n0, .ref q13, .int (-1)])), (q19, .inr (4, [.ref f0, .ref n0, .ref q13, .ref q8, .int (-1), .int 0])), (q20, .inr (3, [.ref f0, .ref n0, .ref q8, .int 0, .int 0, .int 0]))] H := hP
  have hD : va_D A [(e0, .inr (0, [.ref f0, .ref n0, .ref d0, .ref q13, .ref q18, .ref q19, .ref q20, .ref q1, .int 0, .int (-1), .int 0, .int (-1), .int 0, .int 0, .int 0])), (q1, .inr (2, [.ref q2, .ref q3, .ref q4, .ref q5, .ref q6, .ref q7, .int 0])), (q8, .inr (5, [.ref q9, .ref q10, .ref q11, .ref q12, .int 0, .int 0])), (q13, .inr (9, [.ref n0, .ref q14, .ref q15, .ref q16, .ref q17, .int 0])), (q18, .inr (8, [.ref f0, .ref n0, .ref q13, .int (-1)])), (q19, .inr (4, [.ref f0, .ref n0, .ref q13, .ref q8, .int (-1), .int 0])), (q20, .inr (3, [.ref f0, .ref n0, .ref q8, .int 0, .int 0, .int 0]))] := hD
  refine W.widen (k := 20) (n := 15065) (Nat.le_of_ble_eq_true rfl) (Nat.le_of_ble_eq_true rfl) ?_
  have hP9 := hP.sub (ws' := [(e0, .inr (0, [.ref f0, .ref n0, .ref d0, .ref q13, .ref q18, .ref q19, .ref q20, .ref q1, .int 0, .int (-1), .int 0, .int (-1), .int 0, .int 0, .int 0])), (q13, .inr (9, [.ref n0, .ref q14, .ref q15, .ref q16, .ref q17, .int 0])), (q1, .inr (2, [.ref q2, .ref q3, .ref q4, .ref q5, .ref q6, .ref q7, .int 0]))]) [0, 3, 1] rfl
  have hD9 := hD.sub (ws' := [(e0, .inr (0, [.ref f0, .ref n0, .ref d0, .ref q13, .ref q18, .ref q19, .ref q20, .ref q1, .int 0, .int (-1), .int 0, .int (-1), .int 0, .int 0, .int 0])), (q13, .inr (9, [.ref n0, .ref q14, .ref q15, .ref q16, .ref q17, .int 0])), (q1, .inr (2, [.ref q2, .ref q3, .ref q4, .ref q5, .ref q6, .ref q7, .int 0]))]) [0, 3, 1] (by decide) rfl
  exact W.vret hx hb hr (fun t ht hW => ⟨⟨(), rfl, trivial, q13, q18, q19, q20, q1, q14, q15, q16, q17, q2, q3, q4, q5, q6, q7, by rw [ht]; exact hP9, va_K.moved hW.alike hK, hD9⟩, hS.F ht⟩) hS.2.2 dX0_init_137

set_option maxHeartbeats 4000000 in
set_option maxRecDepth 100000 in
/-- MacroScopes(): nothing is typed, told or defined -/
theorem c_MacroScopes (l : Launch) (dC : Nat → ClassId) (dI : Nat → Nat → Nat) (cB cC cI cJ cZ : ClassId) (x0 : Nat) (ad : Nat → Nat)  (sz : Nat) : Met l yX11_init wsX11_init { frames := 5, cells := 49, slots := 75351, locals := 108 } (va_Pc [.ref x0] (fun U => U.heap.size = sz ∧ va_P (dC, dI) vwCl [(x0, .inr (11, [.null, .null, .null, .null, .null, .null, .int 0, .int 0, .int 0, .int 0, .int 0]))] U.heap ∧ va_K (dC, dI) vwCl (TY cB cC cI cJ cZ) U ∧ va_D (fun _ => True) [(x0, .inr (11, [.null, .null, .null, .null, .null, .null, .int 0, .int 0, .int 0, .int 0, .int 0]))] ∧ NW U ∧ SA ad (va_A [(x0, .inr (11, [.null, .null, .null, .null, .null, .null, .int 0, .int 0, .int 0, .int 0, .int 0]))] sz) U U.heap)) (va_Qv (fun (_ : Unit) => True) (fun (_ : Unit) (t : State) => ∃ (t0 : Nat), ∃ (n0 : Nat), ∃ (f0 : Nat), ∃ (d0 : Nat), ∃ (r0 : Nat), ∃ (e0 : Nat), ∃ (b0 : Nat), ∃ (b1 : Nat), ∃ (a2 : Nat), ∃ (a3 : Nat), ∃ (b6 : Nat), ∃ (b7 : Nat), ∃ (b8 : Nat), ∃ (b9 : Nat), ∃ (b10 : Nat), ∃ (c1 : Nat), ∃ (c2 : Nat), ∃ (d1 : Nat), ∃ (d2 : Nat), ∃ (r1 : Nat), ∃ (sc : Nat), ∃ (e4 : Nat), ∃ (e5 : Nat), ∃ (e6 : Nat), ∃ (fr : Nat), ∃ (s1 : Nat), ∃ (s2 : Nat), ∃ (s3 : Nat), ∃ (s4 : Nat), ∃ (g1 : Nat), ∃ (g2 : Nat), ∃ (g3 : Nat), ∃ (g4 : Nat), ∃ (g5 : Nat), ∃ (g6 : Nat), ∃ (sy : Int32), ∃ (tp : Int32), ∃ (f2 : Nat → Int32), sy = nI 9 ∧ ∀ j, j < 9 → f2 j = -1 ∧ va_P (dC, dI) vwCl [(x0, .inr (11, [.ref t0, .ref n0, .ref f0, .ref d0, .ref r0, .ref e0, .int 0, .int (-1), .int 0, .int 0, .int 0])), (t0, .inl (cC, 3000, .inl (fun _ => 0))), (n0, .inr (6, [.ref b0, .ref b1, .ref a2, .ref a3, .int sy, .int 0, .ref b6, .ref b7, .ref b8, .ref b9, .ref b10, .int tp, .int 0])), (a2, .inl (cI, 2560, .inl f2)), (a3, .inl (cI, 2560, .inl (fun _ => 0))), (f0, .inr (1, [.ref c1, .ref c2, .int 4000, .int 0])), (d0, .inr (10, [.ref d1, .int 0, .ref d2, .int 0, .int 32])), (r0, .inr (7, [.ref f0, .ref n0, .ref r1, .int 0])), (e0, .inr (0, [.ref f0, .ref n0, .ref d0, .ref sc, .ref e4, .ref e5, .ref e6, .ref fr, .int 0, .int (-1), .int 0, .int (-1), .int 0, .int 0, .int 0])), (sc, .inr (9, [.ref n0, .ref s1, .ref s2, .ref s3, .ref s4, .int 0])), (fr, .inr (2, [.ref g1, .ref g2, .ref g3, .ref g4, .ref g5, .ref g6, .int 0]))] t.heap ∧ va_K (dC, dI) vwCl (TY cB cC cI cJ cZ) t ∧ va_D (va_A [(x0, .inr (11, [.null, .null, .null, .null, .null, .null, .int 0, .int 0, .int 0, .int 0, .int 0]))] sz) [(x0, .inr (11, [.ref t0, .ref n0, .ref f0, .ref d0, .ref r0, .ref e0, .int 0, .int (-1), .int 0, .int 0, .int 0])), (t0, .inl (cC, 3000, .inl (fun _ => 0))), (n0, .inr (6, [.ref b0, .ref b1, .ref a2, .ref a3, .int sy, .int 0, .ref b6, .ref b7, .ref b8, .ref b9, .ref b10, .int tp, .int 0])), (a2, .inl (cI, 2560, .inl f2)), (a3, .inl (cI, 2560, .inl (fun _ => 0))), (f0, .inr (1, [.ref c1, .ref c2, .int 4000, .int 0])), (d0, .inr (10, [.ref d1, .int 0, .ref d2, .int 0, .int 32])), (r0, .inr (7, [.ref f0, .ref n0, .ref r1, .int 0])), (e0, .inr (0, [.ref f0, .ref n0, .ref d0, .ref sc, .ref e4, .ref e5, .ref e6, .ref fr, .int 0, .int (-1), .int 0, .int (-1), .int 0, .int 0, .int 0])), (sc, .inr (9, [.ref n0, .ref s1, .ref s2, .ref s3, .ref s4, .int 0])), (fr, .inr (2, [.ref g1, .ref g2, .ref g3, .ref g4, .ref g5, .ref g6, .int 0]))]) (va_A [(x0, .inr (11, [.null, .null, .null, .null, .null, .null, .int 0, .int 0, .int 0, .int 0, .int 0]))] sz)) 49 75351 (va_A [(x0, .inr (11, [.null, .null, .null, .null, .null, .null, .int 0, .int 0, .int 0, .int 0, .int 0]))] sz) := by
  refine Met.ofW (cc := cX11_init) (maxL := 1) (ret := none) (by decide) rfl ?_
  intro p e s m args below meth c s₁ B hml hv
  obtain ⟨rfl, hsz, hP, hK, hD0, hNW, hX⟩ := hv
  have hx := B.exec
  have hb := B.bytes
  have hr := B.returns
  have hts := atoms_spec (ws := wsX11_init) B.pre
  have hown : s.vm.findClass RX11 = some m.cls := findClass_of_methodNamed B.named
  have hlocks := B.notSynchronized
  have hin : meth.name = "<init>" := (name_of_methodNamed B.named B.method).1
  subst hsz
  have hD := hD0.self (sz := s.heap.size)
  generalize hAe : va_A [(x0, .inr (11, [.null, .null, .null, .null, .null, .null, .int 0, .int 0, .int 0, .int 0, .int 0]))] s.heap.size = A at hD hX ⊢
  have hA : ∀ q : Nat, s.heap.size ≤ q → A q := fun q h => by rw [← hAe]; exact Or.inr h
  have hS : va_S A s.heap s.heap [] := va_S.rf
  have hP : va_P (dC, dI) vwCl [(x0, .inr (11, [.null, .null, .null, .null, .null, .null, .int 0, .int 0, .int 0, .int 0, .int 0]))] s.heap := hP
  have hl := lv_entry ([.ref x0]) (n := 1) (Nat.le_of_ble_eq_true rfl)
  rw [lg_entry_eq]
  generalize (lg_sl ([.ref x0]) ++ List.replicate (1 - (lg_sl ([.ref x0])).length) Slot.unset).toArray = ls at hl ⊢
  have hl : lv_has ls 1 [(0, .ref x0)] := hl
  refine lv_aload_n hx hb dX11_init_0 rfl (lv_at hl 0 rfl) ?_
  refine W.objInit hx hb hown (hts _ lkX11_init_o1) (hts _ lkX11_init_oi) (hts _ lkX11_init_oc) rfl (by rw [hml]; exact hl.1) rfl dX11_init_1 (Nat.le_of_ble_eq_true rfl) (Nat.le_of_ble_eq_true rfl) ?_
  refine W.eq (g2 := F0 m 4 ls []) rfl ?_
  refine lv_aload_n hx hb dX11_init_4 rfl (lv_at hl 0 rfl) ?_
  refine lv_sipush (v := 3000) hx hb dX11_init_5 (by decide) ?_
  refine na_char (N' := 3000) hx hb (hts _ lkX11_init_achar) hK hP hD hS hA (by decide) (by decide) (by decide) (Nat.le_of_ble_eq_true rfl) (Nat.le_of_ble_eq_true rfl) dX11_init_8 (fun q1 H hP hD hS => ?_)
  have hP : va_P (dC, dI) vwCl [(x0, .inr (11, [.null, .null, .null, .null, .null, .null, .int 0, .int 0, .int 0, .int 0, .int 0])), (q1, .inl (cC, 3000, .inl (fun _ => 0)))] H := hP
  have hD : va_D A [(x0, .inr (11, [.null, .null, .null, .null, .null, .null, .int 0, .int 0, .int 0, .int 0, .int 0])), (q1, .inl (cC, 3000, .inl (fun _ => 0)))] := hD
  refine W.widen (k := 1) (n := 3000) (Nat.le_of_ble_eq_true rfl) (Nat.le_of_ble_eq_true rfl) ?_
  refine va_putF (D := (dC, dI)) (ci := 11) (v := .ref q1) (ty := .array .char) (C := RX11) (T := TX11) (N := 11) hx hb hts inX11_init_X11 tyX11 tyX11_ok nmX11 hown hK hP hD hS 0 rfl rfl 0 (by decide) (hts _ lkX11_init_f9) (fun _ h9 => h9) rfl hin rfl (by decide +kernel) rfl rfl (Nat.le_of_ble_eq_true rfl) dX11_init_10 (fun H locs hP hD hS => ?_)
  have hP : va_P (dC, dI) vwCl [(x0, .inr (11, [.ref q1, .null, .null, .null, .null, .null, .int 0, .int 0, .int 0, .int 0, .int 0])), (q1, .inl (cC, 3000, .inl (fun _ => 0)))] H := hP
  have hD : va_D A [(x0, .inr (11, [.ref q1, .null, .null, .null, .null, .null, .int 0, .int 0, .int 0, .int 0, .int 0])), (q1, .inl (cC, 3000, .inl (fun _ => 0)))] := hD
  refine lv_aload_n hx hb dX11_init_13 rfl (lv_at hl 0 rfl) ?_
  refine va_new (ci := 6) (fs := [.null, .null, .null, .null, .int 0, .int 0, .null, .null, .null, .null, .null, .int 0, .int 0]) (C := RX6) (T := TX6) (N := 13) hx hb hts inX11_init_X6 tyX6 tyX6_ok hown (hts _ lkX11_init_n13) (hts _ lkX11_init_iX6) (hts _ lkX11_init_zX6) hK hP hD hS hA rfl (fun j hj => df_X6 j hj) (Nat.le_of_ble_eq_true rfl) (Nat.le_of_ble_eq_true rfl) dX11_init_14 (fun q2 H hP hD hS => ?_)
  have hP : va_P (dC, dI) vwCl [(x0, .inr (11, [.ref q1, .null, .null, .null, .null, .null, .int 0, .int 0, .int 0, .int 0, .int 0])), (q1, .inl (cC, 3000, .inl (fun _ => 0))), (q2, .inr (6, [.null, .null, .null, .null, .int 0, .int 0, .null, .null, .null, .null, .null, .int 0, .int 0]))] H := hP
  have hD : va_D A [(x0, .inr (11, [.ref q1, .null, .null, .null, .null, .null, .int 0, .int 0, .int 0, .int 0, .int 0])), (q1, .inl (cC, 3000, .inl (fun _ => 0))), (q2, .inr (6, [.null, .null, .null, .null, .int 0, .int 0, .null, .null, .null, .null, .null, .int 0, .int 0]))] := hD
  refine W.widen (k := 2) (n := 3013) (Nat.le_of_ble_eq_true rfl) (Nat.le_of_ble_eq_true rfl) ?_
  refine lv_dup hx hb dX11_init_17 rfl ?_
  have hPc := hP.sub (ws' := [(q2, .inr (6, [.null, .null, .null, .null, .int 0, .int 0, .null, .null, .null, .null, .null, .int 0, .int 0]))]) [2] rfl
  have hDc := hD.sub (ws' := [(q2, .inr (6, [.null, .null, .null, .null, .int 0, .int 0, .null, .null, .null, .null, .null, .int 0, .int 0]))]) [2] (by decide) rfl
  have hFc := va_free (wc := [(q2, .inr (6, [.null, .null, .null, .null, .int 0, .int 0, .null, .null, .null, .null, .null, .int 0, .int 0]))]) hD hS hA [2] rfl
  refine va_callv (va_runI (As := []) (rest := [.ref q2, .ref x0]) ⟨hx, hb, hml, hown, hts⟩ (c_Names l dC dI cB cC cI cJ cZ q2 ad  H.size) (cwI 0 hts gX11_init_X6_init rfl rfl rfl (hts _ lkX11_init_zX6) (hts _ lkX11_init_l15) (hts _ lkX11_init_mX6_init) rfl (by decide +kernel) ⟨Nat.le_of_ble_eq_true rfl, Nat.le_of_ble_eq_true rfl⟩) ⟨fun a U g mk q => by obtain ⟨q0, q1, qP, qK, qD, qX⟩ := q; exact ⟨q0, q1, qP, va_K.moved (u := U) (U := U.calling g mk a) (Vm.Alike.refl U.vm) qK, qD, qX.same (U := U.calling g mk a) rfl (Vm.Alike.refl U.vm)⟩, fun U hU hW => ⟨rfl, by rw [hU], by rw [hU]; exact hPc, va_K.moved hW.alike hK, hDc.weaken (fun _ _ _ _ => trivial), by rw [hU]; exact (((hX.kept hS.2.1).narrow hFc).warm hW)⟩⟩ rfl rfl hl.1 rfl (lv_room (Nat.le_of_ble_eq_true rfl)) dX11_init_18 ⟨Nat.le_of_ble_eq_true rfl, Nat.le_of_ble_eq_true rfl⟩) hS (fun q _ h => hFc q h) hFc (fun _u t H locs ht hvm hw hB hz1 hk1 hS => ?_)
  obtain ⟨a3, a4, a5, a6, a7, a8, a9, a10, a11, sy12, tp13, f14, hsy15, hR16, hP1, hK1, hD1⟩ := hB
  rw [ht] at hP1
  obtain ⟨hP, hD⟩ := va_join (wr := [(x0, .inr (11, [.ref q1, .null, .null, .null, .null, .null, .int 0, .int 0, .int 0, .int 0, .int 0])), (q1, .inl (cC, 3000, .inl (fun _ => 0)))]) (w1 := [(q2, .inr (6, [.ref a3, .ref a4, .ref a5, .ref a6, .int sy12, .int 0, .ref a7, .ref a8, .ref a9, .ref a10, .ref a11, .int tp13, .int 0])), (a5, .inl (cI, 2560, .inl f14)), (a6, .inl (cI, 2560, .inl (fun _ => 0)))]) hP hD [2] [0, 1] rfl rfl (by decide) (by decide) hk1 hFc hP1 hD1
  have hP : va_P (dC, dI) vwCl [(x0, .inr (11, [.ref q1, .null, .null, .null, .null, .null, .int 0, .int 0, .int 0, .int 0, .int 0])), (q1, .inl (cC, 3000, .inl (fun _ => 0))), (q2, .inr (6, [.ref a3, .ref a4, .ref a5, .ref a6, .int sy12, .int 0, .ref a7, .ref a8, .ref a9, .ref a10, .ref a11, .int tp13, .int 0])), (a5, .inl (cI, 2560, .inl f14)), (a6, .inl (cI, 2560, .inl (fun _ => 0)))] H := hP
  have hD : va_D A [(x0, .inr (11, [.ref q1, .null, .null, .null, .null, .null, .int 0, .int 0, .int 0, .int 0, .int 0])), (q1, .inl (cC, 3000, .inl (fun _ => 0))), (q2, .inr (6, [.ref a3, .ref a4, .ref a5, .ref a6, .int sy12, .int 0, .ref a7, .ref a8, .ref a9, .ref a10, .ref a11, .int tp13, .int 0])), (a5, .inl (cI, 2560, .inl f14)), (a6, .inl (cI, 2560, .inl (fun _ => 0)))] := hD
  refine W.widen (k := 20) (n := 32197) (Nat.le_of_ble_eq_true rfl) (Nat.le_of_ble_eq_true rfl) ?_
  refine va_putF (D := (dC, dI)) (ci := 11) (v := .ref q2) (ty := .object "MacroScopes$Names") (C := RX11) (T := TX11) (N := 11) hx hb hts inX11_init_X11 tyX11 tyX11_ok nmX11 hown hK hP hD hS 0 rfl rfl 1 (by decide) (hts _ lkX11_init_f16) (fun _ h9 => h9) rfl hin rfl (by decide +kernel) rfl rfl (Nat.le_of_ble_eq_true rfl) dX11_init_21 (fun H locs hP hD hS => ?_)
  have hP : va_P (dC, dI) vwCl [(x0, .inr (11, [.ref q1, .ref q2, .null, .null, .null, .null, .int 0, .int 0, .int 0, .int 0, .int 0])), (q1, .inl (cC, 3000, .inl (fun _ => 0))), (q2, .inr (6, [.ref a3, .ref a4, .ref a5, .ref a6, .int sy12, .int 0, .ref a7, .ref a8, .ref a9, .ref a10, .ref a11, .int tp13, .int 0])), (a5, .inl (cI, 2560, .inl f14)), (a6, .inl (cI, 2560, .inl (fun _ => 0)))] H := hP
  have hD : va_D A [(x0, .inr (11, [.ref q1, .ref q2, .null, .null, .null, .null, .int 0, .int 0, .int 0, .int 0, .int 0])), (q1, .inl (cC, 3000, .inl (fun _ => 0))), (q2, .inr (6, [.ref a3, .ref a4, .ref a5, .ref a6, .int sy12, .int 0, .ref a7, .ref a8, .ref a9, .ref a10, .ref a11, .int tp13, .int 0])), (a5, .inl (cI, 2560, .inl f14)), (a6, .inl (cI, 2560, .inl (fun _ => 0)))] := hD
  refine lv_aload_n hx hb dX11_init_24 rfl (lv_at hl 0 rfl) ?_
  refine va_new (ci := 1) (fs := [.null, .null, .int 0, .int 0]) (C := RX1) (T := TX1) (N := 4) hx hb hts inX11_init_X1 tyX1 tyX1_ok hown (hts _ lkX11_init_n20) (hts _ lkX11_init_iX1) (hts _ lkX11_init_zX1) hK hP hD hS hA rfl (fun j hj => df_X1 j hj) (Nat.le_of_ble_eq_true rfl) (Nat.le_of_ble_eq_true rfl) dX11_init_25 (fun q17 H hP hD hS => ?_)
  have hP : va_P (dC, dI) vwCl [(x0, .inr (11, [.ref q1, .ref q2, .null, .null, .null, .null, .int 0, .int 0, .int 0, .int 0, .int 0])), (q1, .inl (cC, 3000, .inl (fun _ => 0))), (q2, .inr (6, [.ref a3, .ref a4, .ref a5, .ref a6, .int sy12, .int 0, .ref a7, .ref a8, .ref a9, .ref a10, .ref a11, .int tp13, .int 0])), (a5, .inl (cI, 2560, .inl f14)), (a6, .inl (cI, 2560, .inl (fun _ => 0))), (q17, .inr (1, [.null, .null, .int 0, .int 0]))] H := hP
  have hD : va_D A [(x0, .inr (11, [.ref q1, .ref q2, .null, .null, .null, .null, .int 0, .int 0, .int 0, .int 0, .int 0])), (q1, .inl (cC, 3000, .inl (fun _ => 0))), (q2, .inr (6, [.ref a3, .ref a4, .ref a5, .ref a6, .int sy12, .int 0, .ref a7, .ref a8, .ref a9, .ref a10, .ref a11, .int tp13, .int 0])), (a5, .inl (cI, 2560, .inl f14)), (a6, .inl (cI, 2560, .inl (fun _ => 0))), (q17, .inr (1, [.null, .null, .int 0, .int 0]))] := hD
  refine W.widen (k := 21) (n := 32201) (Nat.le_of_ble_eq_true rfl) (Nat.le_of_ble_eq_true rfl) ?_
  refine lv_dup hx hb dX11_init_28 rfl ?_
  have hPc := hP.sub (ws' := [(q17, .inr (1, [.null, .null, .int 0, .int 0]))]) [5] rfl
  have hDc := hD.sub (ws' := [(q17, .inr (1, [.null, .null, .int 0, .int 0]))]) [5] (by decide) rfl
  have hFc := va_free (wc := [(q17, .inr (1, [.null, .null, .int 0, .int 0]))]) hD hS hA [5] rfl
  refine va_callv (va_runIN (As := []) (rest := [.ref q17, .ref x0]) ⟨hx, hb, hml, hown, hts⟩ (c_Forms l dC dI cB cC cI cJ cZ q17  H.size) ⟨va_cnB 0 hts gX11_init_X1_init_n22 rfl rfl rfl hNW.2.2.2.2.2.2.1 (hts _ lkX11_init_zX1) (by decide +kernel) ⟨Nat.le_of_ble_eq_true rfl, Nat.le_of_ble_eq_true rfl⟩, rfl, (hts _ lkX11_init_mX1_init)⟩ ⟨fun a U g mk q => by obtain ⟨q0, q1, qP, qK, qD⟩ := q; exact ⟨q0, q1, qP, va_K.moved (u := U) (U := U.calling g mk a) (Vm.Alike.refl U.vm) qK, qD⟩, fun U hU hW => ⟨rfl, by rw [hU], by rw [hU]; exact hPc, va_K.moved hW.alike hK, hDc.weaken (fun _ _ _ _ => trivial)⟩⟩ rfl rfl hl.1 rfl (lv_room (Nat.le_of_ble_eq_true rfl)) dX11_init_29 ⟨Nat.le_of_ble_eq_true rfl, Nat.le_of_ble_eq_true rfl⟩) hS (fun q _ h => hFc q h) hFc (fun _u t H locs ht hvm hw hB hz1 hk1 hS => ?_)
  obtain ⟨q18, q19, hP1, hK1, hD1⟩ := hB
  rw [ht] at hP1
  obtain ⟨hP, hD⟩ := va_join (wr := [(x0, .inr (11, [.ref q1, .ref q2, .null, .null, .null, .null, .int 0, .int 0, .int 0, .int 0, .int 0])), (q1, .inl (cC, 3000, .inl (fun _ => 0))), (q2, .inr (6, [.ref a3, .ref a4, .ref a5, .ref a6, .int sy12, .int 0, .ref a7, .ref a8, .ref a9, .ref a10, .ref a11, .int tp13, .int 0])), (a5, .inl (cI, 2560, .inl f14)), (a6, .inl (cI, 2560, .inl (fun _ => 0)))]) (w1 := [(q17, .inr (1, [.ref q18, .ref q19, .int 4000, .int 0]))]) hP hD [5] [0, 1, 2, 3, 4] rfl rfl (by decide) (by decide) hk1 hFc hP1 hD1
  have hP : va_P (dC, dI) vwCl [(x0, .inr (11, [.ref q1, .ref q2, .null, .null, .null, .null, .int 0, .int 0, .int 0, .int 0, .int 0])), (q1, .inl (cC, 3000, .inl (fun _ => 0))), (q2, .inr (6, [.ref a3, .ref a4, .ref a5, .ref a6, .int sy12, .int 0, .ref a7, .ref a8, .ref a9, .ref a10, .ref a11, .int tp13, .int 0])), (a5, .inl (cI, 2560, .inl f14)), (a6, .inl (cI, 2560, .inl (fun _ => 0))), (q17, .inr (1, [.ref q18, .ref q19, .int 4000, .int 0]))] H := hP
  have hD : va_D A [(x0, .inr (11, [.ref q1, .ref q2, .null, .null, .null, .null, .int 0, .int 0, .int 0, .int 0, .int 0])), (q1, .inl (cC, 3000, .inl (fun _ => 0))), (q2, .inr (6, [.ref a3, .ref a4, .ref a5, .ref a6, .int sy12, .int 0, .ref a7, .ref a8, .ref a9, .ref a10, .ref a11, .int tp13, .int 0])), (a5, .inl (cI, 2560, .inl f14)), (a6, .inl (cI, 2560, .inl (fun _ => 0))), (q17, .inr (1, [.ref q18, .ref q19, .int 4000, .int 0]))] := hD
  refine W.widen (k := 23) (n := 52201) (Nat.le_of_ble_eq_true rfl) (Nat.le_of_ble_eq_true rfl) ?_
  refine va_putF (D := (dC, dI)) (ci := 11) (v := .ref q17) (ty := .object "MacroScopes$Forms") (C := RX11) (T := TX11) (N := 11) hx hb hts inX11_init_X11 tyX11 tyX11_ok nmX11 hown hK hP hD hS 0 rfl rfl 2 (by decide) (hts _ lkX11_init_f23) (fun _ h9 => h9) rfl hin rfl (by decide +kernel) rfl rfl (Nat.le_of_ble_eq_true rfl) dX11_init_32 (fun H locs hP hD hS => ?_)
  have hP : va_P (dC, dI) vwCl [(x0, .inr (11, [.ref q1, .ref q2, .ref q17, .null, .null, .null, .int 0, .int 0, .int 0, .int 0, .int 0])), (q1, .inl (cC, 3000, .inl (fun _ => 0))), (q2, .inr (6, [.ref a3, .ref a4, .ref a5, .ref a6, .int sy12, .int 0, .ref a7, .ref a8, .ref a9, .ref a10, .ref a11, .int tp13, .int 0])), (a5, .inl (cI, 2560, .inl f14)), (a6, .inl (cI, 2560, .inl (fun _ => 0))), (q17, .inr (1, [.ref q18, .ref q19, .int 4000, .int 0]))] H := hP
  have hD : va_D A [(x0, .inr (11, [.ref q1, .ref q2, .ref q17, .null, .null, .null, .int 0, .int 0, .int 0, .int 0, .int 0])), (q1, .inl (cC, 3000, .inl (fun _ => 0))), (q2, .inr (6, [.ref a3, .ref a4, .ref a5, .ref a6, .int sy12, .int 0, .ref a7, .ref a8, .ref a9, .ref a10, .ref a11, .int tp13, .int 0])), (a5, .inl (cI, 2560, .inl f14)), (a6, .inl (cI, 2560, .inl (fun _ => 0))), (q17, .inr (1, [.ref q18, .ref q19, .int 4000, .int 0]))] := hD
  refine lv_aload_n hx hb dX11_init_35 rfl (lv_at hl 0 rfl) ?_
  refine va_new (ci := 10) (fs := [.null, .int 0, .null, .int 0, .int 0]) (C := RX10) (T := TX10) (N := 5) hx hb hts inX11_init_X10 tyX10 tyX10_ok hown (hts _ lkX11_init_n27) (hts _ lkX11_init_iX10) (hts _ lkX11_init_zX10) hK hP hD hS hA rfl (fun j hj => df_X10 j hj) (Nat.le_of_ble_eq_true rfl) (Nat.le_of_ble_eq_true rfl) dX11_init_36 (fun q20 H hP hD hS => ?_)
  have hP : va_P (dC, dI) vwCl [(x0, .inr (11, [.ref q1, .ref q2, .ref q17, .null, .null, .null, .int 0, .int 0, .int 0, .int 0, .int 0])), (q1, .inl (cC, 3000, .inl (fun _ => 0))), (q2, .inr (6, [.ref a3, .ref a4, .ref a5, .ref a6, .int sy12, .int 0, .ref a7, .ref a8, .ref a9, .ref a10, .ref a11, .int tp13, .int 0])), (a5, .inl (cI, 2560, .inl f14)), (a6, .inl (cI, 2560, .inl (fun _ => 0))), (q17, .inr (1, [.ref q18, .ref q19, .int 4000, .int 0])), (q20, .inr (10, [.null, .int 0, .null, .int 0, .int 0]))] H := hP
  have hD : va_D A [(x0, .inr (11, [.ref q1, .ref q2, .ref q17, .null, .null, .null, .int 0, .int 0, .int 0, .int 0, .int 0])), (q1, .inl (cC, 3000, .inl (fun _ => 0))), (q2, .inr (6, [.ref a3, .ref a4, .ref a5, .ref a6, .int sy12, .int 0, .ref a7, .ref a8, .ref a9, .ref a10, .ref a11, .int tp13, .int 0])), (a5, .inl (cI, 2560, .inl f14)), (a6, .inl (cI, 2560, .inl (fun _ => 0))), (q17, .inr (1, [.ref q18, .ref q19, .int 4000, .int 0])), (q20, .inr (10, [.null, .int 0, .null, .int 0, .int 0]))] := hD
  refine W.widen (k := 24) (n := 52206) (Nat.le_of_ble_eq_true rfl) (Nat.le_of_ble_eq_true rfl) ?_
  refine lv_dup hx hb dX11_init_39 rfl ?_
  have hPc := hP.sub (ws' := [(q20, .inr (10, [.null, .int 0, .null, .int 0, .int 0]))]) [6] rfl
  have hDc := hD.sub (ws' := [(q20, .inr (10, [.null, .int 0, .null, .int 0, .int 0]))]) [6] (by decide) rfl
  have hFc := va_free (wc := [(q20, .inr (10, [.null, .int 0, .null, .int 0, .int 0]))]) hD hS hA [6] rfl
  refine va_callv (va_runIN (As := []) (rest := [.ref q20, .ref x0]) ⟨hx, hb, hml, hown, hts⟩ (c_Told l dC dI cB cC cI cJ cZ q20  H.size) ⟨va_cnB 0 hts gX11_init_X10_init_n29 rfl rfl rfl hNW.2.2.2.2.2.2.2.1 (hts _ lkX11_init_zX10) (by decide +kernel) ⟨Nat.le_of_ble_eq_true rfl, Nat.le_of_ble_eq_true rfl⟩, rfl, (hts _ lkX11_init_mX10_init)⟩ ⟨fun a U g mk q => by obtain ⟨q0, q1, qP, qK, qD⟩ := q; exact ⟨q0, q1, qP, va_K.moved (u := U) (U := U.calling g mk a) (Vm.Alike.refl U.vm) qK, qD⟩, fun U hU hW => ⟨rfl, by rw [hU], by rw [hU]; exact hPc, va_K.moved hW.alike hK, hDc.weaken (fun _ _ _ _ => trivial)⟩⟩ rfl rfl hl.1 rfl (lv_room (Nat.le_of_ble_eq_true rfl)) dX11_init_40 ⟨Nat.le_of_ble_eq_true rfl, Nat.le_of_ble_eq_true rfl⟩) hS (fun q _ h => hFc q h) hFc (fun _u t H locs ht hvm hw hB hz1 hk1 hS => ?_)
  obtain ⟨q21, q22, hP1, hK1, hD1⟩ := hB
  rw [ht] at hP1
  obtain ⟨hP, hD⟩ := va_join (wr := [(x0, .inr (11, [.ref q1, .ref q2, .ref q17, .null, .null, .null, .int 0, .int 0, .int 0, .int 0, .int 0])), (q1, .inl (cC, 3000, .inl (fun _ => 0))), (q2, .inr (6, [.ref a3, .ref a4, .ref a5, .ref a6, .int sy12, .int 0, .ref a7, .ref a8, .ref a9, .ref a10, .ref a11, .int tp13, .int 0])), (a5, .inl (cI, 2560, .inl f14)), (a6, .inl (cI, 2560, .inl (fun _ => 0))), (q17, .inr (1, [.ref q18, .ref q19, .int 4000, .int 0]))]) (w1 := [(q20, .inr (10, [.ref q21, .int 0, .ref q22, .int 0, .int 32]))]) hP hD [6] [0, 1, 2, 3, 4, 5] rfl rfl (by decide) (by decide) hk1 hFc hP1 hD1
  have hP : va_P (dC, dI) vwCl [(x0, .inr (11, [.ref q1, .ref q2, .ref q17, .null, .null, .null, .int 0, .int 0, .int 0, .int 0, .int 0])), (q1, .inl (cC, 3000, .inl (fun _ => 0))), (q2, .inr (6, [.ref a3, .ref a4, .ref a5, .ref a6, .int sy12, .int 0, .ref a7, .ref a8, .ref a9, .ref a10, .ref a11, .int tp13, .int 0])), (a5, .inl (cI, 2560, .inl f14)), (a6, .inl (cI, 2560, .inl (fun _ => 0))), (q17, .inr (1, [.ref q18, .ref q19, .int 4000, .int 0])), (q20, .inr (10, [.ref q21, .int 0, .ref q22, .int 0, .int 32]))] H := hP
  have hD : va_D A [(x0, .inr (11, [.ref q1, .ref q2, .ref q17, .null, .null, .null, .int 0, .int 0, .int 0, .int 0, .int 0])), (q1, .inl (cC, 3000, .inl (fun _ => 0))), (q2, .inr (6, [.ref a3, .ref a4, .ref a5, .ref a6, .int sy12, .int 0, .ref a7, .ref a8, .ref a9, .ref a10, .ref a11, .int tp13, .int 0])), (a5, .inl (cI, 2560, .inl f14)), (a6, .inl (cI, 2560, .inl (fun _ => 0))), (q17, .inr (1, [.ref q18, .ref q19, .int 4000, .int 0])), (q20, .inr (10, [.ref q21, .int 0, .ref q22, .int 0, .int 32]))] := hD
  refine W.widen (k := 26) (n := 60206) (Nat.le_of_ble_eq_true rfl) (Nat.le_of_ble_eq_true rfl) ?_
  refine va_putF (D := (dC, dI)) (ci := 11) (v := .ref q20) (ty := .object "MacroScopes$Told") (C := RX11) (T := TX11) (N := 11) hx hb hts inX11_init_X11 tyX11 tyX11_ok nmX11 hown hK hP hD hS 0 rfl rfl 3 (by decide) (hts _ lkX11_init_f30) (fun _ h9 => h9) rfl hin rfl (by decide +kernel) rfl rfl (Nat.le_of_ble_eq_true rfl) dX11_init_43 (fun H locs hP hD hS => ?_)
  have hP : va_P (dC, dI) vwCl [(x0, .inr (11, [.ref q1, .ref q2, .ref q17, .ref q20, .null, .null, .int 0, .int 0, .int 0, .int 0, .int 0])), (q1, .inl (cC, 3000, .inl (fun _ => 0))), (q2, .inr (6, [.ref a3, .ref a4, .ref a5, .ref a6, .int sy12, .int 0, .ref a7, .ref a8, .ref a9, .ref a10, .ref a11, .int tp13, .int 0])), (a5, .inl (cI, 2560, .inl f14)), (a6, .inl (cI, 2560, .inl (fun _ => 0))), (q17, .inr (1, [.ref q18, .ref q19, .int 4000, .int 0])), (q20, .inr (10, [.ref q21, .int 0, .ref q22, .int 0, .int 32]))] H := hP
  have hD : va_D A [(x0, .inr (11, [.ref q1, .ref q2, .ref q17, .ref q20, .null, .null, .int 0, .int 0, .int 0, .int 0, .int 0])), (q1, .inl (cC, 3000, .inl (fun _ => 0))), (q2, .inr (6, [.ref a3, .ref a4, .ref a5, .ref a6, .int sy12, .int 0, .ref a7, .ref a8, .ref a9, .ref a10, .ref a11, .int tp13, .int 0])), (a5, .inl (cI, 2560, .inl f14)), (a6, .inl (cI, 2560, .inl (fun _ => 0))), (q17, .inr (1, [.ref q18, .ref q19, .int 4000, .int 0])), (q20, .inr (10, [.ref q21, .int 0, .ref q22, .int 0, .int 32]))] := hD
  refine lv_aload_n hx hb dX11_init_46 rfl (lv_at hl 0 rfl) ?_
  refine va_new (ci := 7) (fs := [.null, .null, .null, .int 0]) (C := RX7) (T := TX7) (N := 4) hx hb hts inX11_init_X7 tyX7 tyX7_ok hown (hts _ lkX11_init_n34) (hts _ lkX11_init_iX7) (hts _ lkX11_init_zX7) hK hP hD hS hA rfl (fun j hj => df_X7 j hj) (Nat.le_of_ble_eq_true rfl) (Nat.le_of_ble_eq_true rfl) dX11_init_47 (fun q23 H hP hD hS => ?_)
  have hP : va_P (dC, dI) vwCl [(x0, .inr (11, [.ref q1, .ref q2, .ref q17, .ref q20, .null, .null, .int 0, .int 0, .int 0, .int 0, .int 0])), (q1, .inl (cC, 3000, .inl (fun _ => 0))), (q2, .inr (6, [.ref a3, .ref a4, .ref a5, .ref a6, .int sy12, .int 0, .ref a7, .ref a8, .ref a9, .ref a10, .ref a11, .int tp13, .int 0])), (a5, .inl (cI, 2560, .inl f14)), (a6, .inl (cI, 2560, .inl (fun _ => 0))), (q17, .inr (1, [.ref q18, .ref q19, .int 4000, .int 0])), (q20, .inr (10, [.ref q21, .int 0, .ref q22, .int 0, .int 32])), (q23, .inr (7, [.null, .null, .null, .int 0]))] H := hP
  have hD : va_D A [(x0, .inr (11, [.ref q1, .ref q2, .ref q17, .ref q20, .null, .null, .int 0, .int 0, .int 0, .int 0, .int 0])), (q1, .inl (cC, 3000, .inl (fun _ => 0))), (q2, .inr (6, [.ref a3, .ref a4, .ref a5, .ref a6, .int sy12, .int 0, .ref a7, .ref a8, .ref a9, .ref a10, .ref a11, .int tp13, .int 0])), (a5, .inl (cI, 2560, .inl f14)), (a6, .inl (cI, 2560, .inl (fun _ => 0))), (q17, .inr (1, [.ref q18, .ref q19, .int 4000, .int 0])), (q20, .inr (10, [.ref q21, .int 0, .ref q22, .int 0, .int 32])), (q23, .inr (7, [.null, .null, .null, .int 0]))] := hD
  refine W.widen (k := 27) (n := 60210) (Nat.le_of_ble_eq_true rfl) (Nat.le_of_ble_eq_true rfl) ?_
  refine lv_dup hx hb dX11_init_50 rfl ?_
  refine lv_aload_n hx hb dX11_init_51 rfl (lv_at hl 0 rfl) ?_
  refine va_get (D := (dC, dI)) (ci := 11) (v := .ref q17) (C := RX11) (T := TX11) (N := 11) hx hb hts inX11_init_X11 hown hK hP 0 rfl rfl 2 (by decide) (hts _ lkX11_init_f23) (fun _ h9 => h9) rfl dX11_init_52 ?_
  refine lv_aload_n hx hb dX11_init_55 rfl (lv_at hl 0 rfl) ?_
  refine va_get (D := (dC, dI)) (ci := 11) (v := .ref q2) (C := RX11) (T := TX11) (N := 11) hx hb hts inX11_init_X11 hown hK hP 0 rfl rfl 1 (by decide) (hts _ lkX11_init_f16) (fun _ h9 => h9) rfl dX11_init_56 ?_
  have hPc := hP.sub (ws' := [(q23, .inr (7, [.null, .null, .null, .int 0]))]) [7] rfl
  have hDc := hD.sub (ws' := [(q23, .inr (7, [.null, .null, .null, .int 0]))]) [7] (by decide) rfl
  have hFc := va_free (wc := [(q23, .inr (7, [.null, .null, .null, .int 0]))]) hD hS hA [7] rfl
  refine va_callv (va_runI (As := [.ref q17, .ref q2]) (rest := [.ref q23, .ref x0]) ⟨hx, hb, hml, hown, hts⟩ (c_Reader l dC dI cB cC cI cJ cZ q23 q17 q2  H.size) (cwI 2 hts gX11_init_X7_init rfl rfl rfl (hts _ lkX11_init_zX7) (hts _ lkX11_init_l36) (hts _ lkX11_init_mX7_init) rfl (by decide +kernel) ⟨Nat.le_of_ble_eq_true rfl, Nat.le_of_ble_eq_true rfl⟩) ⟨fun a U g mk q => by obtain ⟨q0, q1, qP, qK, qD⟩ := q; exact ⟨q0, q1, qP, va_K.moved (u := U) (U := U.calling g mk a) (Vm.Alike.refl U.vm) qK, qD⟩, fun U hU hW => ⟨rfl, by rw [hU], by rw [hU]; exact hPc, va_K.moved hW.alike hK, hDc.weaken (fun _ _ _ _ => trivial)⟩⟩ rfl rfl hl.1 rfl (lv_room (Nat.le_of_ble_eq_true rfl)) dX11_init_59 ⟨Nat.le_of_ble_eq_true rfl, Nat.le_of_ble_eq_true rfl⟩) hS (fun q _ h => hFc q h) hFc (fun _u t H locs ht hvm hw hB hz1 hk1 hS => ?_)
  obtain ⟨q24, hP1, hK1, hD1⟩ := hB
  rw [ht] at hP1
  obtain ⟨hP, hD⟩ := va_join (wr := [(x0, .inr (11, [.ref q1, .ref q2, .ref q17, .ref q20, .null, .null, .int 0, .int 0, .int 0, .int 0, .int 0])), (q1, .inl (cC, 3000, .inl (fun _ => 0))), (q2, .inr (6, [.ref a3, .ref a4, .ref a5, .ref a6, .int sy12, .int 0, .ref a7, .ref a8, .ref a9, .ref a10, .ref a11, .int tp13, .int 0])), (a5, .inl (cI, 2560, .inl f14)), (a6, .inl (cI, 2560, .inl (fun _ => 0))), (q17, .inr (1, [.ref q18, .ref q19, .int 4000, .int 0])), (q20, .inr (10, [.ref q21, .int 0, .ref q22, .int 0, .int 32]))]) (w1 := [(q23, .inr (7, [.ref q17, .ref q2, .ref q24, .int 0]))]) hP hD [7] [0, 1, 2, 3, 4, 5, 6] rfl rfl (by decide) (by decide) hk1 hFc hP1 hD1
  have hP : va_P (dC, dI) vwCl [(x0, .inr (11, [.ref q1, .ref q2, .ref q17, .ref q20, .null, .null, .int 0, .int 0, .int 0, .int 0, .int 0])), (q1, .inl (cC, 3000, .inl (fun _ => 0))), (q2, .inr (6, [.ref a3, .ref a4, .ref a5, .ref a6, .int sy12, .int 0, .ref a7, .ref a8, .ref a9, .ref a10, .ref a11, .int tp13, .int 0])), (a5, .inl (cI, 2560, .inl f14)), (a6, .inl (cI, 2560, .inl (fun _ => 0))), (q17, .inr (1, [.ref q18, .ref q19, .int 4000, .int 0])), (q20, .inr (10, [.ref q21, .int 0, .ref q22, .int 0, .int 32])), (q23, .inr (7, [.ref q17, .ref q2, .ref q24, .int 0]))] H := hP
  have hD : va_D A [(x0, .inr (11, [.ref q1, .ref q2, .ref q17, .ref q20, .null, .null, .int 0, .int 0, .int 0, .int 0, .int 0])), (q1, .inl (cC, 3000, .inl (fun _ => 0))), (q2, .inr (6, [.ref a3, .ref a4, .ref a5, .ref a6, .int sy12, .int 0, .ref a7, .ref a8, .ref a9, .ref a10, .ref a11, .int tp13, .int 0])), (a5, .inl (cI, 2560, .inl f14)), (a6, .inl (cI, 2560, .inl (fun _ => 0))), (q17, .inr (1, [.ref q18, .ref q19, .int 4000, .int 0])), (q20, .inr (10, [.ref q21, .int 0, .ref q22, .int 0, .int 32])), (q23, .inr (7, [.ref q17, .ref q2, .ref q24, .int 0]))] := hD
  refine W.widen (k := 28) (n := 60271) (Nat.le_of_ble_eq_true rfl) (Nat.le_of_ble_eq_true rfl) ?_
  refine va_putF (D := (dC, dI)) (ci := 11) (v := .ref q23) (ty := .object "MacroScopes$Reader") (C := RX11) (T := TX11) (N := 11) hx hb hts inX11_init_X11 tyX11 tyX11_ok nmX11 hown hK hP hD hS 0 rfl rfl 4 (by decide) (hts _ lkX11_init_f39) (fun _ h9 => h9) rfl hin rfl (by decide +kernel) rfl rfl (Nat.le_of_ble_eq_true rfl) dX11_init_62 (fun H locs hP hD hS => ?_)
  have hP : va_P (dC, dI) vwCl [(x0, .inr (11, [.ref q1, .ref q2, .ref q17, .ref q20, .ref q23, .null, .int 0, .int 0, .int 0, .int 0, .int 0])), (q1, .inl (cC, 3000, .inl (fun _ => 0))), (q2, .inr (6, [.ref a3, .ref a4, .ref a5, .ref a6, .int sy12, .int 0, .ref a7, .ref a8, .ref a9, .ref a10, .ref a11, .int tp13, .int 0])), (a5, .inl (cI, 2560, .inl f14)), (a6, .inl (cI, 2560, .inl (fun _ => 0))), (q17, .inr (1, [.ref q18, .ref q19, .int 4000, .int 0])), (q20, .inr (10, [.ref q21, .int 0, .ref q22, .int 0, .int 32])), (q23, .inr (7, [.ref q17, .ref q2, .ref q24, .int 0]))] H := hP
  have hD : va_D A [(x0, .inr (11, [.ref q1, .ref q2, .ref q17, .ref q20, .ref q23, .null, .int 0, .int 0, .int 0, .int 0, .int 0])), (q1, .inl (cC, 3000, .inl (fun _ => 0))), (q2, .inr (6, [.ref a3, .ref a4, .ref a5, .ref a6, .int sy12, .int 0, .ref a7, .ref a8, .ref a9, .ref a10, .ref a11, .int tp13, .int 0])), (a5, .inl (cI, 2560, .inl f14)), (a6, .inl (cI, 2560, .inl (fun _ => 0))), (q17, .inr (1, [.ref q18, .ref q19, .int 4000, .int 0])), (q20, .inr (10, [.ref q21, .int 0, .ref q22, .int 0, .int 32])), (q23, .inr (7, [.ref q17, .ref q2, .ref q24, .int 0]))] := hD
  refine lv_aload_n hx hb dX11_init_65 rfl (lv_at hl 0 rfl) ?_
  refine va_new (ci := 0) (fs := [.null, .null, .null, .null, .null, .null, .null, .null, .int 0, .int 0, .int 0, .int 0, .int 0, .int 0, .int 0]) (C := RX0) (T := TX0) (N := 15) hx hb hts inX11_init_X0 tyX0 tyX0_ok hown (hts _ lkX11_init_n43) (hts _ lkX11_init_iX0) (hts _ lkX11_init_zX0) hK hP hD hS hA rfl (fun j hj => df_X0 j hj) (Nat.le_of_ble_eq_true rfl) (Nat.le_of_ble_eq_true rfl) dX11_init_66 (fun q25 H hP hD hS => ?_)
  have hP : va_P (dC, dI) vwCl [(x0, .inr (11, [.ref q1, .ref q2, .ref q17, .ref q20, .ref q23, .null, .int 0, .int 0, .int 0, .int 0, .int 0])), (q1, .inl (cC, 3000, .inl (fun _ => 0))), (q2, .inr (6, [.ref a3, .ref a4, .ref a5, .ref a6, .int sy12, .int 0, .ref a7, .ref a8, .ref a9, .ref a10, .ref a11, .int tp13, .int 0])), (a5, .inl (cI, 2560, .inl f14)), (a6, .inl (cI, 2560, .inl (fun _ => 0))), (q17, .inr (1, [.ref q18, .ref q19, .int 4000, .int 0])), (q20, .inr (10, [.ref q21, .int 0, .ref q22, .int 0, .int 32])), (q23, .inr (7, [.ref q17, .ref q2, .ref q24, .int 0])), (q25, .inr (0, [.null, .null, .null, .null, .null, .null, .null, .null, .int 0, .int 0, .int 0, .int 0, .int 0, .int 0, .int 0]))] H := hP
  have hD : va_D A [(x0, .inr (11, [.ref q1, .ref q2, .ref q17, .ref q20, .ref q23, .null, .int 0, .int 0, .int 0, .int 0, .int 0])), (q1, .inl (cC, 3000, .inl (fun _ => 0))), (q2, .inr (6, [.ref a3, .ref a4, .ref a5, .ref a6, .int sy12, .int 0, .ref a7, .ref a8, .ref a9, .ref a10, .ref a11, .int tp13, .int 0])), (a5, .inl (cI, 2560, .inl f14)), (a6, .inl (cI, 2560, .inl (fun _ => 0))), (q17, .inr (1, [.ref q18, .ref q19, .int 4000, .int 0])), (q20, .inr (10, [.ref q21, .int 0, .ref q22, .int 0, .int 32])), (q23, .inr (7, [.ref q17, .ref q2, .ref q24, .int 0])), (q25, .inr (0, [.null, .null, .null, .null, .null, .null, .null, .null, .int 0, .int 0, .int 0, .int 0, .int 0, .int 0, .int 0]))] := hD
  refine W.widen (k := 29) (n := 60286) (Nat.le_of_ble_eq_true rfl) (Nat.le_of_ble_eq_true rfl) ?_
  refine lv_dup hx hb dX11_init_69 rfl ?_
  refine lv_aload_n hx hb dX11_init_70 rfl (lv_at hl 0 rfl) ?_
  refine va_get (D := (dC, dI)) (ci := 11) (v := .ref q17) (C := RX11) (T := TX11) (N := 11) hx hb hts inX11_init_X11 hown hK hP 0 rfl rfl 2 (by decide) (hts _ lkX11_init_f23) (fun _ h9 => h9) rfl dX11_init_71 ?_
  refine lv_aload_n hx hb dX11_init_74 rfl (lv_at hl 0 rfl) ?_
  refine va_get (D := (dC, dI)) (ci := 11) (v := .ref q2) (C := RX11) (T := TX11) (N := 11) hx hb hts inX11_init_X11 hown hK hP 0 rfl rfl 1 (by decide) (hts _ lkX11_init_f16) (fun _ h9 => h9) rfl dX11_init_75 ?_
  refine lv_aload_n hx hb dX11_init_78 rfl (lv_at hl 0 rfl) ?_
  refine va_get (D := (dC, dI)) (ci := 11) (v := .ref q20) (C := RX11) (T := TX11) (N := 11) hx hb hts inX11_init_X11 hown hK hP 0 rfl rfl 3 (by decide) (hts _ lkX11_init_f30) (fun _ h9 => h9) rfl dX11_init_79 ?_
  have hPc := hP.sub (ws' := [(q25, .inr (0, [.null, .null, .null, .null, .null, .null, .null, .null, .int 0, .int 0, .int 0, .int 0, .int 0, .int 0, .int 0]))]) [8] rfl
  have hDc := hD.sub (ws' := [(q25, .inr (0, [.null, .null, .null, .null, .null, .null, .null, .null, .int 0, .int 0, .int 0, .int 0, .int 0, .int 0, .int 0]))]) [8] (by decide) rfl
  have hFc := va_free (wc := [(q25, .inr (0, [.null, .null, .null, .null, .null, .null, .null, .null, .int 0, .int 0, .int 0, .int 0, .int 0, .int 0, .int 0]))]) hD hS hA [8] rfl
  refine va_callv (va_runI (As := [.ref q17, .ref q2, .ref q20]) (rest := [.ref q25, .ref x0]) ⟨hx, hb, hml, hown, hts⟩ (c_Expander l dC dI cB cC cI cJ cZ q25 q17 q2 q20  H.size) (cwI 3 hts gX11_init_X0_init rfl rfl rfl (hts _ lkX11_init_zX0) (hts _ lkX11_init_l45) (hts _ lkX11_init_mX0_init) rfl (by decide +kernel) ⟨Nat.le_of_ble_eq_true rfl, Nat.le_of_ble_eq_true rfl⟩) ⟨fun a U g mk q => by obtain ⟨q0, q1, qP, qK, qD, qN⟩ := q; exact ⟨q0, q1, qP, va_K.moved (u := U) (U := U.calling g mk a) (Vm.Alike.refl U.vm) qK, qD, qN.same rfl⟩, fun U hU hW => ⟨rfl, by rw [hU], by rw [hU]; exact hPc, va_K.moved hW.alike hK, hDc.weaken (fun _ _ _ _ => trivial), hNW.warm hW⟩⟩ rfl rfl hl.1 rfl (lv_room (Nat.le_of_ble_eq_true rfl)) dX11_init_82 ⟨Nat.le_of_ble_eq_true rfl, Nat.le_of_ble_eq_true rfl⟩) hS (fun q _ h => hFc q h) hFc (fun _u t H locs ht hvm hw hB hz1 hk1 hS => ?_)
  obtain ⟨sc26, e27, e28, e29, fr30, s31, s32, s33, s34, g35, g36, g37, g38, g39, g40, hP1, hK1, hD1⟩ := hB
  rw [ht] at hP1
  obtain ⟨hP, hD⟩ := va_join (wr := [(x0, .inr (11, [.ref q1, .ref q2, .ref q17, .ref q20, .ref q23, .null, .int 0, .int 0, .int 0, .int 0, .int 0])), (q1, .inl (cC, 3000, .inl (fun _ => 0))), (q2, .inr (6, [.ref a3, .ref a4, .ref a5, .ref a6, .int sy12, .int 0, .ref a7, .ref a8, .ref a9, .ref a10, .ref a11, .int tp13, .int 0])), (a5, .inl (cI, 2560, .inl f14)), (a6, .inl (cI, 2560, .inl (fun _ => 0))), (q17, .inr (1, [.ref q18, .ref q19, .int 4000, .int 0])), (q20, .inr (10, [.ref q21, .int 0, .ref q22, .int 0, .int 32])), (q23, .inr (7, [.ref q17, .ref q2, .ref q24, .int 0]))]) (w1 := [(q25, .inr (0, [.ref q17, .ref q2, .ref q20, .ref sc26, .ref e27, .ref e28, .ref e29, .ref fr30, .int 0, .int (-1), .int 0, .int (-1), .int 0, .int 0, .int 0])), (sc26, .inr (9, [.ref q2, .ref s31, .ref s32, .ref s33, .ref s34, .int 0])), (fr30, .inr (2, [.ref g35, .ref g36, .ref g37, .ref g38, .ref g39, .ref g40, .int 0]))]) hP hD [8] [0, 1, 2, 3, 4, 5, 6, 7] rfl rfl (by decide) (by decide) hk1 hFc hP1 hD1
  have hP : va_P (dC, dI) vwCl [(x0, .inr (11, [.ref q1, .ref q2, .ref q17, .ref q20, .ref q23, .null, .int 0, .int 0, .int 0, .int 0, .int 0])), (q1, .inl (cC, 3000, .inl (fun _ => 0))), (q2, .inr (6, [.ref a3, .ref a4, .ref a5, .ref a6, .int sy12, .int 0, .ref a7, .ref a8, .ref a9, .ref a10, .ref a11, .int tp13, .int 0])), (a5, .inl (cI, 2560, .inl f14)), (a6, .inl (cI, 2560, .inl (fun _ => 0))), (q17, .inr (1, [.ref q18, .ref q19, .int 4000, .int 0])), (q20, .inr (10, [.ref q21, .int 0, .ref q22, .int 0, .int 32])), (q23, .inr (7, [.ref q17, .ref q2, .ref q24, .int 0])), (q25, .inr (0, [.ref q17, .ref q2, .ref q20, .ref sc26, .ref e27, .ref e28, .ref e29, .ref fr30, .int 0, .int (-1), .int 0, .int (-1), .int 0, .int 0, .int 0])), (sc26, .inr (9, [.ref q2, .ref s31, .ref s32, .ref s33, .ref s34, .int 0])), (fr30, .inr (2, [.ref g35, .ref g36, .ref g37, .ref g38, .ref g39, .ref g40, .int 0]))] H := hP
  have hD : va_D A [(x0, .inr (11, [.ref q1, .ref q2, .ref q17, .ref q20, .ref q23, .null, .int 0, .int 0, .int 0, .int 0, .int 0])), (q1, .inl (cC, 3000, .inl (fun _ => 0))), (q2, .inr (6, [.ref a3, .ref a4, .ref a5, .ref a6, .int sy12, .int 0, .ref a7, .ref a8, .ref a9, .ref a10, .ref a11, .int tp13, .int 0])), (a5, .inl (cI, 2560, .inl f14)), (a6, .inl (cI, 2560, .inl (fun _ => 0))), (q17, .inr (1, [.ref q18, .ref q19, .int 4000, .int 0])), (q20, .inr (10, [.ref q21, .int 0, .ref q22, .int 0, .int 32])), (q23, .inr (7, [.ref q17, .ref q2, .ref q24, .int 0])), (q25, .inr (0, [.ref q17, .ref q2, .ref q20, .ref sc26, .ref e27, .ref e28, .ref e29, .ref fr30, .int 0, .int (-1), .int 0, .int (-1), .int 0, .int 0, .int 0])), (sc26, .inr (9, [.ref q2, .ref s31, .ref s32, .ref s33, .ref s34, .int 0])), (fr30, .inr (2, [.ref g35, .ref g36, .ref g37, .ref g38, .ref g39, .ref g40, .int 0]))] := hD
  refine W.widen (k := 49) (n := 75351) (Nat.le_of_ble_eq_true rfl) (Nat.le_of_ble_eq_true rfl) ?_
  refine va_putF (D := (dC, dI)) (ci := 11) (v := .ref q25) (ty := .object "MacroScopes$Expander") (C := RX11) (T := TX11) (N := 11) hx hb hts inX11_init_X11 tyX11 tyX11_ok nmX11 hown hK hP hD hS 0 rfl rfl 5 (by decide) (hts _ lkX11_init_f48) (fun _ h9 => h9) rfl hin rfl (by decide +kernel) rfl rfl (Nat.le_of_ble_eq_true rfl) dX11_init_85 (fun H locs hP hD hS => ?_)
  have hP : va_P (dC, dI) vwCl [(x0, .inr (11, [.ref q1, .ref q2, .ref q17, .ref q20, .ref q23, .ref q25, .int 0, .int 0, .int 0, .int 0, .int 0])), (q1, .inl (cC, 3000, .inl (fun _ => 0))), (q2, .inr (6, [.ref a3, .ref a4, .ref a5, .ref a6, .int sy12, .int 0, .ref a7, .ref a8, .ref a9, .ref a10, .ref a11, .int tp13, .int 0])), (a5, .inl (cI, 2560, .inl f14)), (a6, .inl (cI, 2560, .inl (fun _ => 0))), (q17, .inr (1, [.ref q18, .ref q19, .int 4000, .int 0])), (q20, .inr (10, [.ref q21, .int 0, .ref q22, .int 0, .int 32])), (q23, .inr (7, [.ref q17, .ref q2, .ref q24, .int 0])), (q25, .inr (0, [.ref q17, .ref q2, .ref q20, .ref sc26, .ref e27, .ref e28, .ref e29, .ref fr30, .int 0, .int (-1), .int 0, .int (-1), .int 0, .int 0, .int 0])), (sc26, .inr (9, [.ref q2, .ref s31, .ref s32, .ref s33, .ref s34, .int 0])), (fr30, .inr (2, [.ref g35, .ref g36, .ref g37, .ref g38, .ref g39, .ref g40, .int 0]))] H := hP
  have hD : va_D A [(x0, .inr (11, [.ref q1, .ref q2, .ref q17, .ref q20, .ref q23, .ref q25, .int 0, .int 0, .int 0, .int 0, .int 0])), (q1, .inl (cC, 3000, .inl (fun _ => 0))), (q2, .inr (6, [.ref a3, .ref a4, .ref a5, .ref a6, .int sy12, .int 0, .ref a7, .ref a8, .ref a9, .ref a10, .ref a11, .int tp13, .int 0])), (a5, .inl (cI, 2560, .inl f14)), (a6, .inl (cI, 2560, .inl (fun _ => 0))), (q17, .inr (1, [.ref q18, .ref q19, .int 4000, .int 0])), (q20, .inr (10, [.ref q21, .int 0, .ref q22, .int 0, .int 32])), (q23, .inr (7, [.ref q17, .ref q2, .ref q24, .int 0])), (q25, .inr (0, [.ref q17, .ref q2, .ref q20, .ref sc26, .ref e27, .ref e28, .ref e29, .ref fr30, .int 0, .int (-1), .int 0, .int (-1), .int 0, .int 0, .int 0])), (sc26, .inr (9, [.ref q2, .ref s31, .ref s32, .ref s33, .ref s34, .int 0])), (fr30, .inr (2, [.ref g35, .ref g36, .ref g37, .ref g38, .ref g39, .ref g40, .int 0]))] := hD
  refine lv_aload_n hx hb dX11_init_88 rfl (lv_at hl 0 rfl) ?_
  refine lv_iconst (v := 0) hx hb dX11_init_89 (by decide) ?_
  refine va_put (D := (dC, dI)) (ci := 11) (v := .int 0) (ty := .int) (C := RX11) (T := TX11) (N := 11) hx hb hts inX11_init_X11 tyX11 tyX11_ok nmX11 hown hK hP hD hS 0 rfl rfl 6 (by decide) (hts _ lkX11_init_f52) (fun _ h9 => h9) rfl (by decide +kernel) rfl rfl (Nat.le_of_ble_eq_true rfl) dX11_init_90 (fun H locs hP hD hS => ?_)
  have hP : va_P (dC, dI) vwCl [(x0, .inr (11, [.ref q1, .ref q2, .ref q17, .ref q20, .ref q23, .ref q25, .int 0, .int 0, .int 0, .int 0, .int 0])), (q1, .inl (cC, 3000, .inl (fun _ => 0))), (q2, .inr (6, [.ref a3, .ref a4, .ref a5, .ref a6, .int sy12, .int 0, .ref a7, .ref a8, .ref a9, .ref a10, .ref a11, .int tp13, .int 0])), (a5, .inl (cI, 2560, .inl f14)), (a6, .inl (cI, 2560, .inl (fun _ => 0))), (q17, .inr (1, [.ref q18, .ref q19, .int 4000, .int 0])), (q20, .inr (10, [.ref q21, .int 0, .ref q22, .int 0, .int 32])), (q23, .inr (7, [.ref q17, .ref q2, .ref q24, .int 0])), (q25, .inr (0, [.ref q17, .ref q2, .ref q20, .ref sc26, .ref e27, .ref e28, .ref e29, .ref fr30, .int 0, .int (-1), .int 0, .int (-1), .int 0, .int 0, .int 0])), (sc26, .inr (9, [.ref q2, .ref s31, .ref s32, .ref s33, .ref s34, .int 0])), (fr30, .inr (2, [.ref g35, .ref g36, .ref g37, .ref g38, .ref g39, .ref g40, .int 0]))] H := hP
  have hD : va_D A [(x0, .inr (11, [.ref q1, .ref q2, .ref q17, .ref q20, .ref q23, .ref q25, .int 0, .int 0, .int 0, .int 0, .int 0])), (q1, .inl (cC, 3000, .inl (fun _ => 0))), (q2, .inr (6, [.ref a3, .ref a4, .ref a5, .ref a6, .int sy12, .int 0, .ref a7, .ref a8, .ref a9, .ref a10, .ref a11, .int tp13, .int 0])), (a5, .inl (cI, 2560, .inl f14)), (a6, .inl (cI, 2560, .inl (fun _ => 0))), (q17, .inr (1, [.ref q18, .ref q19, .int 4000, .int 0])), (q20, .inr (10, [.ref q21, .int 0, .ref q22, .int 0, .int 32])), (q23, .inr (7, [.ref q17, .ref q2, .ref q24, .int 0])), (q25, .inr (0, [.ref q17, .ref q2, .ref q20, .ref sc26, .ref e27, .ref e28, .ref e29, .ref fr30, .int 0, .int (-1), .int 0, .int (-1), .int 0, .int 0, .int 0])), (sc26, .inr (9, [.ref q2, .ref s31, .ref s32, .ref s33, .ref s34, .int 0])), (fr30, .inr (2, [.ref g35, .ref g36, .ref g37, .ref g38, .ref g39, .ref g40, .int 0]))] := hD
  refine lv_aload_n hx hb dX11_init_93 rfl (lv_at hl 0 rfl) ?_
  refine lv_iconst (v := (-1)) hx hb dX11_init_94 (by decide) ?_
  refine va_put (D := (dC, dI)) (ci := 11) (v := .int (-1)) (ty := .int) (C := RX11) (T := TX11) (N := 11) hx hb hts inX11_init_X11 tyX11 tyX11_ok nmX11 hown hK hP hD hS 0 rfl rfl 7 (by decide) (hts _ lkX11_init_f56) (fun _ h9 => h9) rfl (by decide +kernel) rfl rfl (Nat.le_of_ble_eq_true rfl) dX11_init_95 (fun H locs hP hD hS => ?_)
  have hP : va_P (dC, dI) vwCl [(x0, .inr (11, [.ref q1, .ref q2, .ref q17, .ref q20, .ref q23, .ref q25, .int 0, .int (-1), .int 0, .int 0, .int 0])), (q1, .inl (cC, 3000, .inl (fun _ => 0))), (q2, .inr (6, [.ref a3, .ref a4, .ref a5, .ref a6, .int sy12, .int 0, .ref a7, .ref a8, .ref a9, .ref a10, .ref a11, .int tp13, .int 0])), (a5, .inl (cI, 2560, .inl f14)), (a6, .inl (cI, 2560, .inl (fun _ => 0))), (q17, .inr (1, [.ref q18, .ref q19, .int 4000, .int 0])), (q20, .inr (10, [.ref q21, .int 0, .ref q22, .int 0, .int 32])), (q23, .inr (7, [.ref q17, .ref q2, .ref q24, .int 0])), (q25, .inr (0, [.ref q17, .ref q2, .ref q20, .ref sc26, .ref e27, .ref e28, .ref e29, .ref fr30, .int 0, .int (-1), .int 0, .int (-1), .int 0, .int 0, .int 0])), (sc26, .inr (9, [.ref q2, .ref s31, .ref s32, .ref s33, .ref s34, .int 0])), (fr30, .inr (2, [.ref g35, .ref g36, .ref g37, .ref g38, .ref g39, .ref g40, .int 0]))] H := hP
  have hD : va_D A [(x0, .inr (11, [.ref q1, .ref q2, .ref q17, .ref q20, .ref q23, .ref q25, .int 0, .int (-1), .int 0, .int 0, .int 0])), (q1, .inl (cC, 3000, .inl (fun _ => 0))), (q2, .inr (6, [.ref a3, .ref a4, .ref a5, .ref a6, .int sy12, .int 0, .ref a7, .ref a8, .ref a9, .ref a10, .ref a11, .int tp13, .int 0])), (a5, .inl (cI, 2560, .inl f14)), (a6, .inl (cI, 2560, .inl (fun _ => 0))), (q17, .inr (1, [.ref q18, .ref q19, .int 4000, .int 0])), (q20, .inr (10, [.ref q21, .int 0, .ref q22, .int 0, .int 32])), (q23, .inr (7, [.ref q17, .ref q2, .ref q24, .int 0])), (q25, .inr (0, [.ref q17, .ref q2, .ref q20, .ref sc26, .ref e27, .ref e28, .ref e29, .ref fr30, .int 0, .int (-1), .int 0, .int (-1), .int 0, .int 0, .int 0])), (sc26, .inr (9, [.ref q2, .ref s31, .ref s32, .ref s33, .ref s34, .int 0])), (fr30, .inr (2, [.ref g35, .ref g36, .ref g37, .ref g38, .ref g39, .ref g40, .int 0]))] := hD
  refine lv_aload_n hx hb dX11_init_98 rfl (lv_at hl 0 rfl) ?_
  refine lv_iconst (v := 0) hx hb dX11_init_99 (by decide) ?_
  refine va_put (D := (dC, dI)) (ci := 11) (v := .int 0) (ty := .int) (C := RX11) (T := TX11) (N := 11) hx hb hts inX11_init_X11 tyX11 tyX11_ok nmX11 hown hK hP hD hS 0 rfl rfl 8 (by decide) (hts _ lkX11_init_f59) (fun _ h9 => h9) rfl (by decide +kernel) rfl rfl (Nat.le_of_ble_eq_true rfl) dX11_init_100 (fun H locs hP hD hS => ?_)
  have hP : va_P (dC, dI) vwCl [(x0, .inr (11, [.ref q1, .ref q2, .ref q17, .ref q20, .ref q23, .ref q25, .int 0, .int (-1), .int 0, .int 0, .int 0])), (q1, .inl (cC, 3000, .inl (fun _ => 0))), (q2, .inr (6, [.ref a3, .ref a4, .ref a5, .ref a6, .int sy12, .int 0, .ref a7, .ref a8, .ref a9, .ref a10, .ref a11, .int tp13, .int 0])), (a5, .inl (cI, 2560, .inl f14)), (a6, .inl (cI, 2560, .inl (fun _ => 0))), (q17, .inr (1, [.ref q18, .ref q19, .int 4000, .int 0])), (q20, .inr (10, [.ref q21, .int 0, .ref q22, .int 0, .int 32])), (q23, .inr (7, [.ref q17, .ref q2, .ref q24, .int 0])), (q25, .inr (0, [.ref q17, .ref q2, .ref q20, .ref sc26, .ref e27, .ref e28, .ref e29, .ref fr30, .int 0, .int (-1), .int 0, .int (-1), .int 0, .int 0, .int 0])), (sc26, .inr (9, [.ref q2, .ref s31, .ref s32, .ref s33, .ref s34, .int 0])), (fr30, .inr (2, [.ref g35, .ref g36, .ref g37, .ref g38, .ref g39, .ref g40, .int 0]))] H := hP
  have hD : va_D A [(x0, .inr (11, [.ref q1, .ref q2, .ref q17, .ref q20, .ref q23, .ref q25, .int 0, .int (-1), .int 0, .int 0, .int 0])), (q1, .inl (cC, 3000, .inl (fun _ => 0))), (q2, .inr (6, [.ref a3, .ref a4, .ref a5, .ref a6, .int sy12, .int 0, .ref a7, .ref a8, .ref a9, .ref a10, .ref a11, .int tp13, .int 0])), (a5, .inl (cI, 2560, .inl f14)), (a6, .inl (cI, 2560, .inl (fun _ => 0))), (q17, .inr (1, [.ref q18, .ref q19, .int 4000, .int 0])), (q20, .inr (10, [.ref q21, .int 0, .ref q22, .int 0, .int 32])), (q23, .inr (7, [.ref q17, .ref q2, .ref q24, .int 0])), (q25, .inr (0, [.ref q17, .ref q2, .ref q20, .ref sc26, .ref e27, .ref e28, .ref e29, .ref fr30, .int 0, .int (-1), .int 0, .int (-1), .int 0, .int 0, .int 0])), (sc26, .inr (9, [.ref q2, .ref s31, .ref s32, .ref s33, .ref s34, .int 0])), (fr30, .inr (2, [.ref g35, .ref g36, .ref g37, .ref g38, .ref g39, .ref g40, .int 0]))] := hD
  refine lv_aload_n hx hb dX11_init_103 rfl (lv_at hl 0 rfl) ?_
  refine lv_iconst (v := 0) hx hb dX11_init_104 (by decide) ?_
  refine va_put (D := (dC, dI)) (ci := 11) (v := .int 0) (ty := .int) (C := RX11) (T := TX11) (N := 11) hx hb hts inX11_init_X11 tyX11 tyX11_ok nmX11 hown hK hP hD hS 0 rfl rfl 9 (by decide) (hts _ lkX11_init_f62) (fun _ h9 => h9) rfl (by decide +kernel) rfl rfl (Nat.le_of_ble_eq_true rfl) dX11_init_105 (fun H locs hP hD hS => ?_)
  have hP : va_P (dC, dI) vwCl [(x0, .inr (11, [.ref q1, .ref q2, .ref q17, .ref q20, .ref q23, .ref q25, .int 0, .int (-1), .int 0, .int 0, .int 0])), (q1, .inl (cC, 3000, .inl (fun _ => 0))), (q2, .inr (6, [.ref a3, .ref a4, .ref a5, .ref a6, .int sy12, .int 0, .ref a7, .ref a8, .ref a9, .ref a10, .ref a11, .int tp13, .int 0])), (a5, .inl (cI, 2560, .inl f14)), (a6, .inl (cI, 2560, .inl (fun _ => 0))), (q17, .inr (1, [.ref q18, .ref q19, .int 4000, .int 0])), (q20, .inr (10, [.ref q21, .int 0, .ref q22, .int 0, .int 32])), (q23, .inr (7, [.ref q17, .ref q2, .ref q24, .int 0])), (q25, .inr (0, [.ref q17, .ref q2, .ref q20, .ref sc26, .ref e27, .ref e28, .ref e29, .ref fr30, .int 0, .int (-1), .int 0, .int (-1), .int 0, .int 0, .int 0])), (sc26, .inr (9, [.ref q2, .ref s31, .ref s32, .ref s33, .ref s34, .int 0])), (fr30, .inr (2, [.ref g35, .ref g36, .ref g37, .ref g38, .ref g39, .ref g40, .int 0]))] H := hP
  have hD : va_D A [(x0, .inr (11, [.ref q1, .ref q2, .ref q17, .ref q20, .ref q23, .ref q25, .int 0, .int (-1), .int 0, .int 0, .int 0])), (q1, .inl (cC, 3000, .inl (fun _ => 0))), (q2, .inr (6, [.ref a3, .ref a4, .ref a5, .ref a6, .int sy12, .int 0, .ref a7, .ref a8, .ref a9, .ref a10, .ref a11, .int tp13, .int 0])), (a5, .inl (cI, 2560, .inl f14)), (a6, .inl (cI, 2560, .inl (fun _ => 0))), (q17, .inr (1, [.ref q18, .ref q19, .int 4000, .int 0])), (q20, .inr (10, [.ref q21, .int 0, .ref q22, .int 0, .int 32])), (q23, .inr (7, [.ref q17, .ref q2, .ref q24, .int 0])), (q25, .inr (0, [.ref q17, .ref q2, .ref q20, .ref sc26, .ref e27, .ref e28, .ref e29, .ref fr30, .int 0, .int (-1), .int 0, .int (-1), .int 0, .int 0, .int 0])), (sc26, .inr (9, [.ref q2, .ref s31, .ref s32, .ref s33, .ref s34, .int 0])), (fr30, .inr (2, [.ref g35, .ref g36, .ref g37, .ref g38, .ref g39, .ref g40, .int 0]))] := hD
  refine lv_aload_n hx hb dX11_init_108 rfl (lv_at hl 0 rfl) ?_
  refine lv_iconst (v := 0) hx hb dX11_init_109 (by decide) ?_
  refine va_put (D := (dC, dI)) (ci := 11) (v := .int 0) (ty := .int) (C := RX11) (T := TX11) (N := 11) hx hb hts inX11_init_X11 tyX11 tyX11_ok nmX11 hown hK hP hD hS 0 rfl rfl 10 (by decide) (hts _ lkX11_init_f65) (fun _ h9 => h9) rfl (by decide +kernel) rfl rfl (Nat.le_of_ble_eq_true rfl) dX11_init_110 (fun H locs hP hD hS => ?_)
  have hP : va_P (dC, dI) vwCl [(x0, .inr (11, [.ref q1, .ref q2, .ref q17, .ref q20, .ref q23, .ref q25, .int 0, .int (-1), .int 0, .int 0, .int 0])), (q1, .inl (cC, 3000, .inl (fun _ => 0))), (q2, .inr (6, [.ref a3, .ref a4, .ref a5, .ref a6, .int sy12, .int 0, .ref a7, .ref a8, .ref a9, .ref a10, .ref a11, .int tp13, .int 0])), (a5, .inl (cI, 2560, .inl f14)), (a6, .inl (cI, 2560, .inl (fun _ => 0))), (q17, .inr (1, [.ref q18, .ref q19, .int 4000, .int 0])), (q20, .inr (10, [.ref q21, .int 0, .ref q22, .int 0, .int 32])), (q23, .inr (7, [.ref q17, .ref q2, .ref q24, .int 0])), (q25, .inr (0, [.ref q17, .ref q2, .ref q20, .ref sc26, .ref e27, .ref e28, .ref e29, .ref fr30, .int 0, .int (-1), .int 0, .int (-1), .int 0, .int 0, .int 0])), (sc26, .inr (9, [.ref q2, .ref s31, .ref s32, .ref s33, .ref s34, .int 0])), (fr30, .inr (2, [.ref g35, .ref g36, .ref g37, .ref g38, .ref g39, .ref g40, .int 0]))] H := hP
  have hD : va_D A [(x0, .inr (11, [.ref q1, .ref q2, .ref q17, .ref q20, .ref q23, .ref q25, .int 0, .int (-1), .int 0, .int 0, .int 0])), (q1, .inl (cC, 3000, .inl (fun _ => 0))), (q2, .inr (6, [.ref a3, .ref a4, .ref a5, .ref a6, .int sy12, .int 0, .ref a7, .ref a8, .ref a9, .ref a10, .ref a11, .int tp13, .int 0])), (a5, .inl (cI, 2560, .inl f14)), (a6, .inl (cI, 2560, .inl (fun _ => 0))), (q17, .inr (1, [.ref q18, .ref q19, .int 4000, .int 0])), (q20, .inr (10, [.ref q21, .int 0, .ref q22, .int 0, .int 32])), (q23, .inr (7, [.ref q17, .ref q2, .ref q24, .int 0])), (q25, .inr (0, [.ref q17, .ref q2, .ref q20, .ref sc26, .ref e27, .ref e28, .ref e29, .ref fr30, .int 0, .int (-1), .int 0, .int (-1), .int 0, .int 0, .int 0])), (sc26, .inr (9, [.ref q2, .ref s31, .ref s32, .ref s33, .ref s34, .int 0])), (fr30, .inr (2, [.ref g35, .ref g36, .ref g37, .ref g38, .ref g39, .ref g40, .int 0]))] := hD
  refine W.widen (k := 49) (n := 75351) (Nat.le_of_ble_eq_true rfl) (Nat.le_of_ble_eq_true rfl) ?_
  have hP9 := hP.sub (ws' := [(x0, .inr (11, [.ref q1, .ref q2, .ref q17, .ref q20, .ref q23, .ref q25, .int 0, .int (-1), .int 0, .int 0, .int 0])), (q1, .inl (cC, 3000, .inl (fun _ => 0))), (q2, .inr (6, [.ref a3, .ref a4, .ref a5, .ref a6, .int sy12, .int 0, .ref a7, .ref a8, .ref a9, .ref a10, .ref a11, .int tp13, .int 0])), (a5, .inl (cI, 2560, .inl f14)), (a6, .inl (cI, 2560, .inl (fun _ => 0))), (q17, .inr (1, [.ref q18, .ref q19, .int 4000, .int 0])), (q20, .inr (10, [.ref q21, .int 0, .ref q22, .int 0, .int 32])), (q23, .inr (7, [.ref q17, .ref q2, .ref q24, .int 0])), (q25, .inr (0, [.ref q17, .ref q2, .ref q20, .ref sc26, .ref e27, .ref e28, .ref e29, .ref fr30, .int 0, .int (-1), .int 0, .int (-1), .int 0, .int 0, .int 0])), (sc26, .inr (9, [.ref q2, .ref s31, .ref s32, .ref s33, .ref s34, .int 0])), (fr30, .inr (2, [.ref g35, .ref g36, .ref g37, .ref g38, .ref g39, .ref g40, .int 0]))]) [0, 1, 2, 3, 4, 5, 6, 7, 8, 9, 10] rfl
  have hD9 := hD.sub (ws' := [(x0, .inr (11, [.ref q1, .ref q2, .ref q17, .ref q20, .ref q23, .ref q25, .int 0, .int (-1), .int 0, .int 0, .int 0])), (q1, .inl (cC, 3000, .inl (fun _ => 0))), (q2, .inr (6, [.ref a3, .ref a4, .ref a5, .ref a6, .int sy12, .int 0, .ref a7, .ref a8, .ref a9, .ref a10, .ref a11, .int tp13, .int 0])), (a5, .inl (cI, 2560, .inl f14)), (a6, .inl (cI, 2560, .inl (fun _ => 0))), (q17, .inr (1, [.ref q18, .ref q19, .int 4000, .int 0])), (q20, .inr (10, [.ref q21, .int 0, .ref q22, .int 0, .int 32])), (q23, .inr (7, [.ref q17, .ref q2, .ref q24, .int 0])), (q25, .inr (0, [.ref q17, .ref q2, .ref q20, .ref sc26, .ref e27, .ref e28, .ref e29, .ref fr30, .int 0, .int (-1), .int 0, .int (-1), .int 0, .int 0, .int 0])), (sc26, .inr (9, [.ref q2, .ref s31, .ref s32, .ref s33, .ref s34, .int 0])), (fr30, .inr (2, [.ref g35, .ref g36, .ref g37, .ref g38, .ref g39, .ref g40, .int 0]))]) [0, 1, 2, 3, 4, 5, 6, 7, 8, 9, 10] (by decide) rfl
  exact W.vret hx hb hr (fun t ht hW => ⟨⟨(), rfl, trivial, q1, q2, q17, q20, q23, q25, a3, a4, a5, a6, a7, a8, a9, a10, a11, q18, q19, q21, q22, q24, sc26, e27, e28, e29, fr30, s31, s32, s33, s34, g35, g36, g37, g38, g39, g40, sy12, tp13, f14, hsy15, hR16, by rw [ht]; exact hP9, va_K.moved hW.alike hK, hD9⟩, hS.F ht⟩) hS.2.2 dX11_init_113
end
