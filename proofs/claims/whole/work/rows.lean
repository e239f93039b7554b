section
-- ===== PART A: goes FIRST, ahead of the names: the tables' words, and 'selects' of the private methods out of them =====
/-- a private method of a class that the tables say can be made, by its rows of tables_1 -/
def lw_okq (q : MethodName × Nat) : Prop := (q.1.cls ≠ "java/lang/invoke/MethodHandle" ∧ q.1.cls ≠ "java/lang/invoke/VarHandle") ∧ Cond.instantiable q.1.cls q.2 ∈ tables_1 ∧ Cond.privateMethod q.1 ∈ tables_1 ∧ Cond.instanceMethod q.1 ∈ tables_1
theorem lw_p0 : lw_okq (⟨"StructureEditor$TemplateParser", "moveTo", "(I)V"⟩, 5) := ⟨⟨by decide +kernel, by decide +kernel⟩, List.mem_of_getElem? (i := 184) (by decide +kernel), List.mem_of_getElem? (i := 384) (by decide +kernel), List.mem_of_getElem? (i := 385) (by decide +kernel)⟩
theorem lw_p1 : lw_okq (⟨"StructureEditor$TemplateParser", "parseBlock", "(II)Z"⟩, 5) := ⟨⟨by decide +kernel, by decide +kernel⟩, List.mem_of_getElem? (i := 184) (by decide +kernel), List.mem_of_getElem? (i := 389) (by decide +kernel), List.mem_of_getElem? (i := 390) (by decide +kernel)⟩
theorem lw_p2 : lw_okq (⟨"StructureEditor$TemplateParser", "parseItem", "(II)Z"⟩, 5) := ⟨⟨by decide +kernel, by decide +kernel⟩, List.mem_of_getElem? (i := 184) (by decide +kernel), List.mem_of_getElem? (i := 393) (by decide +kernel), List.mem_of_getElem? (i := 394) (by decide +kernel)⟩
theorem lw_p3 : lw_okq (⟨"StructureEditor$TemplateParser", "refuse", "(I)Z"⟩, 5) := ⟨⟨by decide +kernel, by decide +kernel⟩, List.mem_of_getElem? (i := 184) (by decide +kernel), List.mem_of_getElem? (i := 405) (by decide +kernel), List.mem_of_getElem? (i := 406) (by decide +kernel)⟩
theorem lw_p4 : lw_okq (⟨"StructureEditor$TemplateParser", "parseCondition", "(I)Z"⟩, 5) := ⟨⟨by decide +kernel, by decide +kernel⟩, List.mem_of_getElem? (i := 184) (by decide +kernel), List.mem_of_getElem? (i := 409) (by decide +kernel), List.mem_of_getElem? (i := 410) (by decide +kernel)⟩
theorem lw_p5 : lw_okq (⟨"StructureEditor$TemplateParser", "parseReference", "(I)I"⟩, 5) := ⟨⟨by decide +kernel, by decide +kernel⟩, List.mem_of_getElem? (i := 184) (by decide +kernel), List.mem_of_getElem? (i := 413) (by decide +kernel), List.mem_of_getElem? (i := 414) (by decide +kernel)⟩
theorem lw_p6 : lw_okq (⟨"StructureEditor$TemplateParser", "parseSign", "(I)Z"⟩, 5) := ⟨⟨by decide +kernel, by decide +kernel⟩, List.mem_of_getElem? (i := 184) (by decide +kernel), List.mem_of_getElem? (i := 428) (by decide +kernel), List.mem_of_getElem? (i := 429) (by decide +kernel)⟩
theorem lw_p7 : lw_okq (⟨"StructureEditor$TemplateParser", "parseNumber", "()I"⟩, 5) := ⟨⟨by decide +kernel, by decide +kernel⟩, List.mem_of_getElem? (i := 184) (by decide +kernel), List.mem_of_getElem? (i := 432) (by decide +kernel), List.mem_of_getElem? (i := 433) (by decide +kernel)⟩
theorem lw_p8 : lw_okq (⟨"StructureEditor$TemplateParser", "parseGap", "(LStructureEditor$Item;)Z"⟩, 5) := ⟨⟨by decide +kernel, by decide +kernel⟩, List.mem_of_getElem? (i := 184) (by decide +kernel), List.mem_of_getElem? (i := 443) (by decide +kernel), List.mem_of_getElem? (i := 444) (by decide +kernel)⟩
theorem lw_p9 : lw_okq (⟨"StructureEditor$TemplateParser", "parseName", "(I)Z"⟩, 5) := ⟨⟨by decide +kernel, by decide +kernel⟩, List.mem_of_getElem? (i := 184) (by decide +kernel), List.mem_of_getElem? (i := 447) (by decide +kernel), List.mem_of_getElem? (i := 448) (by decide +kernel)⟩
theorem lw_p10 : lw_okq (⟨"StructureEditor$TemplateParser", "parseType", "(II)Z"⟩, 5) := ⟨⟨by decide +kernel, by decide +kernel⟩, List.mem_of_getElem? (i := 184) (by decide +kernel), List.mem_of_getElem? (i := 455) (by decide +kernel), List.mem_of_getElem? (i := 456) (by decide +kernel)⟩
theorem lw_p11 : lw_okq (⟨"StructureEditor$TemplateParser", "parseInteger", "(LStructureEditor$Item;)Z"⟩, 5) := ⟨⟨by decide +kernel, by decide +kernel⟩, List.mem_of_getElem? (i := 184) (by decide +kernel), List.mem_of_getElem? (i := 459) (by decide +kernel), List.mem_of_getElem? (i := 460) (by decide +kernel)⟩
theorem lw_p12 : lw_okq (⟨"StructureEditor$TemplateParser", "parseCount", "(I)Z"⟩, 5) := ⟨⟨by decide +kernel, by decide +kernel⟩, List.mem_of_getElem? (i := 184) (by decide +kernel), List.mem_of_getElem? (i := 463) (by decide +kernel), List.mem_of_getElem? (i := 464) (by decide +kernel)⟩
theorem lw_p13 : lw_okq (⟨"StructureEditor$TemplateParser", "parseStructure", "(II)Z"⟩, 5) := ⟨⟨by decide +kernel, by decide +kernel⟩, List.mem_of_getElem? (i := 184) (by decide +kernel), List.mem_of_getElem? (i := 467) (by decide +kernel), List.mem_of_getElem? (i := 468) (by decide +kernel)⟩
theorem lw_p14 : lw_okq (⟨"StructureEditor$TemplateParser", "parseCheck", "(III)Z"⟩, 5) := ⟨⟨by decide +kernel, by decide +kernel⟩, List.mem_of_getElem? (i := 184) (by decide +kernel), List.mem_of_getElem? (i := 471) (by decide +kernel), List.mem_of_getElem? (i := 472) (by decide +kernel)⟩
theorem lw_p15 : lw_okq (⟨"StructureEditor$TemplateParser", "parseSibling", "(II)I"⟩, 5) := ⟨⟨by decide +kernel, by decide +kernel⟩, List.mem_of_getElem? (i := 184) (by decide +kernel), List.mem_of_getElem? (i := 475) (by decide +kernel), List.mem_of_getElem? (i := 476) (by decide +kernel)⟩
def lw_privs_1 : List (MethodName × Nat) := [(⟨"StructureEditor$TemplateParser", "moveTo", "(I)V"⟩, 5), (⟨"StructureEditor$TemplateParser", "parseBlock", "(II)Z"⟩, 5), (⟨"StructureEditor$TemplateParser", "parseItem", "(II)Z"⟩, 5), (⟨"StructureEditor$TemplateParser", "refuse", "(I)Z"⟩, 5), (⟨"StructureEditor$TemplateParser", "parseCondition", "(I)Z"⟩, 5), (⟨"StructureEditor$TemplateParser", "parseReference", "(I)I"⟩, 5), (⟨"StructureEditor$TemplateParser", "parseSign", "(I)Z"⟩, 5), (⟨"StructureEditor$TemplateParser", "parseNumber", "()I"⟩, 5), (⟨"StructureEditor$TemplateParser", "parseGap", "(LStructureEditor$Item;)Z"⟩, 5), (⟨"StructureEditor$TemplateParser", "parseName", "(I)Z"⟩, 5), (⟨"StructureEditor$TemplateParser", "parseType", "(II)Z"⟩, 5), (⟨"StructureEditor$TemplateParser", "parseInteger", "(LStructureEditor$Item;)Z"⟩, 5), (⟨"StructureEditor$TemplateParser", "parseCount", "(I)Z"⟩, 5), (⟨"StructureEditor$TemplateParser", "parseStructure", "(II)Z"⟩, 5), (⟨"StructureEditor$TemplateParser", "parseCheck", "(III)Z"⟩, 5), (⟨"StructureEditor$TemplateParser", "parseSibling", "(II)I"⟩, 5)]
theorem lw_r1 : ∀ q ∈ lw_privs_1, lw_okq q := List.forall_mem_cons.mpr ⟨lw_p0, List.forall_mem_cons.mpr ⟨lw_p1, List.forall_mem_cons.mpr ⟨lw_p2, List.forall_mem_cons.mpr ⟨lw_p3, List.forall_mem_cons.mpr ⟨lw_p4, List.forall_mem_cons.mpr ⟨lw_p5, List.forall_mem_cons.mpr ⟨lw_p6, List.forall_mem_cons.mpr ⟨lw_p7, List.forall_mem_cons.mpr ⟨lw_p8, List.forall_mem_cons.mpr ⟨lw_p9, List.forall_mem_cons.mpr ⟨lw_p10, List.forall_mem_cons.mpr ⟨lw_p11, List.forall_mem_cons.mpr ⟨lw_p12, List.forall_mem_cons.mpr ⟨lw_p13, List.forall_mem_cons.mpr ⟨lw_p14, List.forall_mem_cons.mpr ⟨lw_p15, fun _ h => absurd h List.not_mem_nil⟩⟩⟩⟩⟩⟩⟩⟩⟩⟩⟩⟩⟩⟩⟩⟩
theorem lw_p16 : lw_okq (⟨"StructureEditor", "endChange", "(Z)I"⟩, 12) := ⟨⟨by decide +kernel, by decide +kernel⟩, List.mem_of_getElem? (i := 16) (by decide +kernel), List.mem_of_getElem? (i := 566) (by decide +kernel), List.mem_of_getElem? (i := 567) (by decide +kernel)⟩
theorem lw_p17 : lw_okq (⟨"StructureEditor", "updateRound", "()Z"⟩, 12) := ⟨⟨by decide +kernel, by decide +kernel⟩, List.mem_of_getElem? (i := 16) (by decide +kernel), List.mem_of_getElem? (i := 570) (by decide +kernel), List.mem_of_getElem? (i := 571) (by decide +kernel)⟩
theorem lw_p18 : lw_okq (⟨"StructureEditor", "layOut", "(I)Z"⟩, 12) := ⟨⟨by decide +kernel, by decide +kernel⟩, List.mem_of_getElem? (i := 16) (by decide +kernel), List.mem_of_getElem? (i := 574) (by decide +kernel), List.mem_of_getElem? (i := 575) (by decide +kernel)⟩
theorem lw_p19 : lw_okq (⟨"StructureEditor$Layout", "goThrough", "(II)V"⟩, 14) := ⟨⟨by decide +kernel, by decide +kernel⟩, List.mem_of_getElem? (i := 222) (by decide +kernel), List.mem_of_getElem? (i := 583) (by decide +kernel), List.mem_of_getElem? (i := 584) (by decide +kernel)⟩
theorem lw_p20 : lw_okq (⟨"StructureEditor$Layout", "makeStep", "()Z"⟩, 14) := ⟨⟨by decide +kernel, by decide +kernel⟩, List.mem_of_getElem? (i := 222) (by decide +kernel), List.mem_of_getElem? (i := 587) (by decide +kernel), List.mem_of_getElem? (i := 588) (by decide +kernel)⟩
theorem lw_p21 : lw_okq (⟨"StructureEditor$Layout", "repeatStructure", "(II)V"⟩, 14) := ⟨⟨by decide +kernel, by decide +kernel⟩, List.mem_of_getElem? (i := 222) (by decide +kernel), List.mem_of_getElem? (i := 591) (by decide +kernel), List.mem_of_getElem? (i := 592) (by decide +kernel)⟩
theorem lw_p22 : lw_okq (⟨"StructureEditor$Layout", "repetitionsOf", "(LStructureEditor$Item;)I"⟩, 14) := ⟨⟨by decide +kernel, by decide +kernel⟩, List.mem_of_getElem? (i := 222) (by decide +kernel), List.mem_of_getElem? (i := 595) (by decide +kernel), List.mem_of_getElem? (i := 596) (by decide +kernel)⟩
theorem lw_p23 : lw_okq (⟨"StructureEditor$Layout", "align", "(I)V"⟩, 14) := ⟨⟨by decide +kernel, by decide +kernel⟩, List.mem_of_getElem? (i := 222) (by decide +kernel), List.mem_of_getElem? (i := 607) (by decide +kernel), List.mem_of_getElem? (i := 608) (by decide +kernel)⟩
theorem lw_p24 : lw_okq (⟨"StructureEditor$Layout", "layFields", "(II)V"⟩, 14) := ⟨⟨by decide +kernel, by decide +kernel⟩, List.mem_of_getElem? (i := 222) (by decide +kernel), List.mem_of_getElem? (i := 611) (by decide +kernel), List.mem_of_getElem? (i := 612) (by decide +kernel)⟩
theorem lw_p25 : lw_okq (⟨"StructureEditor$Layout", "layField", "(LStructureEditor$Item;I)V"⟩, 14) := ⟨⟨by decide +kernel, by decide +kernel⟩, List.mem_of_getElem? (i := 222) (by decide +kernel), List.mem_of_getElem? (i := 615) (by decide +kernel), List.mem_of_getElem? (i := 616) (by decide +kernel)⟩
theorem lw_p26 : lw_okq (⟨"StructureEditor", "updateWrongFields", "()Z"⟩, 12) := ⟨⟨by decide +kernel, by decide +kernel⟩, List.mem_of_getElem? (i := 16) (by decide +kernel), List.mem_of_getElem? (i := 627) (by decide +kernel), List.mem_of_getElem? (i := 628) (by decide +kernel)⟩
theorem lw_p27 : lw_okq (⟨"StructureEditor$History", "dropOldest", "()V"⟩, 4) := ⟨⟨by decide +kernel, by decide +kernel⟩, List.mem_of_getElem? (i := 68) (by decide +kernel), List.mem_of_getElem? (i := 665) (by decide +kernel), List.mem_of_getElem? (i := 666) (by decide +kernel)⟩
theorem lw_p28 : lw_okq (⟨"StructureEditor", "fieldsOf", "(I)I"⟩, 12) := ⟨⟨by decide +kernel, by decide +kernel⟩, List.mem_of_getElem? (i := 16) (by decide +kernel), List.mem_of_getElem? (i := 711) (by decide +kernel), List.mem_of_getElem? (i := 712) (by decide +kernel)⟩
theorem lw_p29 : lw_okq (⟨"StructureEditor", "overlayProperty", "(II)I"⟩, 12) := ⟨⟨by decide +kernel, by decide +kernel⟩, List.mem_of_getElem? (i := 16) (by decide +kernel), List.mem_of_getElem? (i := 727) (by decide +kernel), List.mem_of_getElem? (i := 728) (by decide +kernel)⟩
theorem lw_p30 : lw_okq (⟨"StructureEditor", "wrongFields", "()I"⟩, 12) := ⟨⟨by decide +kernel, by decide +kernel⟩, List.mem_of_getElem? (i := 16) (by decide +kernel), List.mem_of_getElem? (i := 731) (by decide +kernel), List.mem_of_getElem? (i := 732) (by decide +kernel)⟩
theorem lw_p31 : lw_okq (⟨"StructureEditor", "layOutField", "(II)Z"⟩, 12) := ⟨⟨by decide +kernel, by decide +kernel⟩, List.mem_of_getElem? (i := 16) (by decide +kernel), List.mem_of_getElem? (i := 739) (by decide +kernel), List.mem_of_getElem? (i := 740) (by decide +kernel)⟩
def lw_privs_2 : List (MethodName × Nat) := [(⟨"StructureEditor", "endChange", "(Z)I"⟩, 12), (⟨"StructureEditor", "updateRound", "()Z"⟩, 12), (⟨"StructureEditor", "layOut", "(I)Z"⟩, 12), (⟨"StructureEditor$Layout", "goThrough", "(II)V"⟩, 14), (⟨"StructureEditor$Layout", "makeStep", "()Z"⟩, 14), (⟨"StructureEditor$Layout", "repeatStructure", "(II)V"⟩, 14), (⟨"StructureEditor$Layout", "repetitionsOf", "(LStructureEditor$Item;)I"⟩, 14), (⟨"StructureEditor$Layout", "align", "(I)V"⟩, 14), (⟨"StructureEditor$Layout", "layFields", "(II)V"⟩, 14), (⟨"StructureEditor$Layout", "layField", "(LStructureEditor$Item;I)V"⟩, 14), (⟨"StructureEditor", "updateWrongFields", "()Z"⟩, 12), (⟨"StructureEditor$History", "dropOldest", "()V"⟩, 4), (⟨"StructureEditor", "fieldsOf", "(I)I"⟩, 12), (⟨"StructureEditor", "overlayProperty", "(II)I"⟩, 12), (⟨"StructureEditor", "wrongFields", "()I"⟩, 12), (⟨"StructureEditor", "layOutField", "(II)Z"⟩, 12)]
theorem lw_r2 : ∀ q ∈ lw_privs_2, lw_okq q := List.forall_mem_cons.mpr ⟨lw_p16, List.forall_mem_cons.mpr ⟨lw_p17, List.forall_mem_cons.mpr ⟨lw_p18, List.forall_mem_cons.mpr ⟨lw_p19, List.forall_mem_cons.mpr ⟨lw_p20, List.forall_mem_cons.mpr ⟨lw_p21, List.forall_mem_cons.mpr ⟨lw_p22, List.forall_mem_cons.mpr ⟨lw_p23, List.forall_mem_cons.mpr ⟨lw_p24, List.forall_mem_cons.mpr ⟨lw_p25, List.forall_mem_cons.mpr ⟨lw_p26, List.forall_mem_cons.mpr ⟨lw_p27, List.forall_mem_cons.mpr ⟨lw_p28, List.forall_mem_cons.mpr ⟨lw_p29, List.forall_mem_cons.mpr ⟨lw_p30, List.forall_mem_cons.mpr ⟨lw_p31, fun _ h => absurd h List.not_mem_nil⟩⟩⟩⟩⟩⟩⟩⟩⟩⟩⟩⟩⟩⟩⟩⟩
theorem lw_p32 : lw_okq (⟨"StructureEditor$Layout", "isSought", "(LStructureEditor$Field;)Z"⟩, 14) := ⟨⟨by decide +kernel, by decide +kernel⟩, List.mem_of_getElem? (i := 222) (by decide +kernel), List.mem_of_getElem? (i := 781) (by decide +kernel), List.mem_of_getElem? (i := 782) (by decide +kernel)⟩
theorem lw_p33 : lw_okq (⟨"StructureEditor", "nextDistances", "(II)V"⟩, 12) := ⟨⟨by decide +kernel, by decide +kernel⟩, List.mem_of_getElem? (i := 16) (by decide +kernel), List.mem_of_getElem? (i := 855) (by decide +kernel), List.mem_of_getElem? (i := 856) (by decide +kernel)⟩
theorem lw_p34 : lw_okq (⟨"StructureEditor", "numberOf", "(I)I"⟩, 12) := ⟨⟨by decide +kernel, by decide +kernel⟩, List.mem_of_getElem? (i := 16) (by decide +kernel), List.mem_of_getElem? (i := 863) (by decide +kernel), List.mem_of_getElem? (i := 864) (by decide +kernel)⟩
theorem lw_p35 : lw_okq (⟨"StructureEditor", "wrongFieldsOfAll", "()I"⟩, 12) := ⟨⟨by decide +kernel, by decide +kernel⟩, List.mem_of_getElem? (i := 16) (by decide +kernel), List.mem_of_getElem? (i := 871) (by decide +kernel), List.mem_of_getElem? (i := 872) (by decide +kernel)⟩
theorem lw_p36 : lw_okq (⟨"StructureEditor", "mixOverlay", "(JI)J"⟩, 12) := ⟨⟨by decide +kernel, by decide +kernel⟩, List.mem_of_getElem? (i := 16) (by decide +kernel), List.mem_of_getElem? (i := 884) (by decide +kernel), List.mem_of_getElem? (i := 885) (by decide +kernel)⟩
theorem lw_p37 : lw_okq (⟨"StructureEditor", "mixField", "(JLStructureEditor$Field;)J"⟩, 12) := ⟨⟨by decide +kernel, by decide +kernel⟩, List.mem_of_getElem? (i := 16) (by decide +kernel), List.mem_of_getElem? (i := 888) (by decide +kernel), List.mem_of_getElem? (i := 889) (by decide +kernel)⟩
theorem lw_p38 : lw_okq (⟨"StructureEditorModel", "blanks", "()V"⟩, 45) := ⟨⟨by decide +kernel, by decide +kernel⟩, List.mem_of_getElem? (i := 893) (by decide +kernel), List.mem_of_getElem? (i := 1051) (by decide +kernel), List.mem_of_getElem? (i := 1052) (by decide +kernel)⟩
theorem lw_p39 : lw_okq (⟨"StructureEditorModel", "next", "()I"⟩, 45) := ⟨⟨by decide +kernel, by decide +kernel⟩, List.mem_of_getElem? (i := 893) (by decide +kernel), List.mem_of_getElem? (i := 1055) (by decide +kernel), List.mem_of_getElem? (i := 1056) (by decide +kernel)⟩
theorem lw_p40 : lw_okq (⟨"StructureEditorModel", "closes", "()V"⟩, 45) := ⟨⟨by decide +kernel, by decide +kernel⟩, List.mem_of_getElem? (i := 893) (by decide +kernel), List.mem_of_getElem? (i := 1059) (by decide +kernel), List.mem_of_getElem? (i := 1060) (by decide +kernel)⟩
theorem lw_p41 : lw_okq (⟨"StructureEditorModel", "takes", "(I)Z"⟩, 45) := ⟨⟨by decide +kernel, by decide +kernel⟩, List.mem_of_getElem? (i := 893) (by decide +kernel), List.mem_of_getElem? (i := 1063) (by decide +kernel), List.mem_of_getElem? (i := 1064) (by decide +kernel)⟩
theorem lw_p42 : lw_okq (⟨"StructureEditorModel", "readOf", "(II)I"⟩, 45) := ⟨⟨by decide +kernel, by decide +kernel⟩, List.mem_of_getElem? (i := 893) (by decide +kernel), List.mem_of_getElem? (i := 1067) (by decide +kernel), List.mem_of_getElem? (i := 1068) (by decide +kernel)⟩
theorem lw_p43 : lw_okq (⟨"StructureEditorModel", "of", "(III)I"⟩, 45) := ⟨⟨by decide +kernel, by decide +kernel⟩, List.mem_of_getElem? (i := 893) (by decide +kernel), List.mem_of_getElem? (i := 1071) (by decide +kernel), List.mem_of_getElem? (i := 1072) (by decide +kernel)⟩
theorem lw_p44 : lw_okq (⟨"StructureEditorModel", "writes", "(III)V"⟩, 45) := ⟨⟨by decide +kernel, by decide +kernel⟩, List.mem_of_getElem? (i := 893) (by decide +kernel), List.mem_of_getElem? (i := 1075) (by decide +kernel), List.mem_of_getElem? (i := 1076) (by decide +kernel)⟩
theorem lw_p45 : lw_okq (⟨"StructureEditorModel", "readsCount", "(I)V"⟩, 45) := ⟨⟨by decide +kernel, by decide +kernel⟩, List.mem_of_getElem? (i := 893) (by decide +kernel), List.mem_of_getElem? (i := 1079) (by decide +kernel), List.mem_of_getElem? (i := 1080) (by decide +kernel)⟩
theorem lw_p46 : lw_okq (⟨"StructureEditorModel", "number", "()I"⟩, 45) := ⟨⟨by decide +kernel, by decide +kernel⟩, List.mem_of_getElem? (i := 893) (by decide +kernel), List.mem_of_getElem? (i := 1085) (by decide +kernel), List.mem_of_getElem? (i := 1086) (by decide +kernel)⟩
theorem lw_p47 : lw_okq (⟨"StructureEditorModel", "faults", "(I)V"⟩, 45) := ⟨⟨by decide +kernel, by decide +kernel⟩, List.mem_of_getElem? (i := 893) (by decide +kernel), List.mem_of_getElem? (i := 1089) (by decide +kernel), List.mem_of_getElem? (i := 1090) (by decide +kernel)⟩
def lw_privs_3 : List (MethodName × Nat) := [(⟨"StructureEditor$Layout", "isSought", "(LStructureEditor$Field;)Z"⟩, 14), (⟨"StructureEditor", "nextDistances", "(II)V"⟩, 12), (⟨"StructureEditor", "numberOf", "(I)I"⟩, 12), (⟨"StructureEditor", "wrongFieldsOfAll", "()I"⟩, 12), (⟨"StructureEditor", "mixOverlay", "(JI)J"⟩, 12), (⟨"StructureEditor", "mixField", "(JLStructureEditor$Field;)J"⟩, 12), (⟨"StructureEditorModel", "blanks", "()V"⟩, 45), (⟨"StructureEditorModel", "next", "()I"⟩, 45), (⟨"StructureEditorModel", "closes", "()V"⟩, 45), (⟨"StructureEditorModel", "takes", "(I)Z"⟩, 45), (⟨"StructureEditorModel", "readOf", "(II)I"⟩, 45), (⟨"StructureEditorModel", "of", "(III)I"⟩, 45), (⟨"StructureEditorModel", "writes", "(III)V"⟩, 45), (⟨"StructureEditorModel", "readsCount", "(I)V"⟩, 45), (⟨"StructureEditorModel", "number", "()I"⟩, 45), (⟨"StructureEditorModel", "faults", "(I)V"⟩, 45)]
theorem lw_r3 : ∀ q ∈ lw_privs_3, lw_okq q := List.forall_mem_cons.mpr ⟨lw_p32, List.forall_mem_cons.mpr ⟨lw_p33, List.forall_mem_cons.mpr ⟨lw_p34, List.forall_mem_cons.mpr ⟨lw_p35, List.forall_mem_cons.mpr ⟨lw_p36, List.forall_mem_cons.mpr ⟨lw_p37, List.forall_mem_cons.mpr ⟨lw_p38, List.forall_mem_cons.mpr ⟨lw_p39, List.forall_mem_cons.mpr ⟨lw_p40, List.forall_mem_cons.mpr ⟨lw_p41, List.forall_mem_cons.mpr ⟨lw_p42, List.forall_mem_cons.mpr ⟨lw_p43, List.forall_mem_cons.mpr ⟨lw_p44, List.forall_mem_cons.mpr ⟨lw_p45, List.forall_mem_cons.mpr ⟨lw_p46, List.forall_mem_cons.mpr ⟨lw_p47, fun _ h => absurd h List.not_mem_nil⟩⟩⟩⟩⟩⟩⟩⟩⟩⟩⟩⟩⟩⟩⟩⟩
theorem lw_p48 : lw_okq (⟨"StructureEditorModel", "blanksBehindNumber", "()V"⟩, 45) := ⟨⟨by decide +kernel, by decide +kernel⟩, List.mem_of_getElem? (i := 893) (by decide +kernel), List.mem_of_getElem? (i := 1093) (by decide +kernel), List.mem_of_getElem? (i := 1094) (by decide +kernel)⟩
theorem lw_p49 : lw_okq (⟨"StructureEditorModel", "integerNamed", "(I)I"⟩, 45) := ⟨⟨by decide +kernel, by decide +kernel⟩, List.mem_of_getElem? (i := 893) (by decide +kernel), List.mem_of_getElem? (i := 1097) (by decide +kernel), List.mem_of_getElem? (i := 1098) (by decide +kernel)⟩
theorem lw_p50 : lw_okq (⟨"StructureEditorModel", "name", "()I"⟩, 45) := ⟨⟨by decide +kernel, by decide +kernel⟩, List.mem_of_getElem? (i := 893) (by decide +kernel), List.mem_of_getElem? (i := 1101) (by decide +kernel), List.mem_of_getElem? (i := 1102) (by decide +kernel)⟩
theorem lw_p51 : lw_okq (⟨"StructureEditorModel", "named", "(II)I"⟩, 45) := ⟨⟨by decide +kernel, by decide +kernel⟩, List.mem_of_getElem? (i := 893) (by decide +kernel), List.mem_of_getElem? (i := 1107) (by decide +kernel), List.mem_of_getElem? (i := 1108) (by decide +kernel)⟩
theorem lw_p52 : lw_okq (⟨"StructureEditorModel", "inBlock", "(III)I"⟩, 45) := ⟨⟨by decide +kernel, by decide +kernel⟩, List.mem_of_getElem? (i := 893) (by decide +kernel), List.mem_of_getElem? (i := 1111) (by decide +kernel), List.mem_of_getElem? (i := 1112) (by decide +kernel)⟩
theorem lw_p53 : lw_okq (⟨"StructureEditorModel", "expects", "(I)V"⟩, 45) := ⟨⟨by decide +kernel, by decide +kernel⟩, List.mem_of_getElem? (i := 893) (by decide +kernel), List.mem_of_getElem? (i := 1115) (by decide +kernel), List.mem_of_getElem? (i := 1116) (by decide +kernel)⟩
theorem lw_p54 : lw_okq (⟨"StructureEditorModel", "readsItem", "()V"⟩, 45) := ⟨⟨by decide +kernel, by decide +kernel⟩, List.mem_of_getElem? (i := 893) (by decide +kernel), List.mem_of_getElem? (i := 1119) (by decide +kernel), List.mem_of_getElem? (i := 1120) (by decide +kernel)⟩
theorem lw_p55 : lw_okq (⟨"StructureEditorModel", "readsNamed", "(I)Z"⟩, 45) := ⟨⟨by decide +kernel, by decide +kernel⟩, List.mem_of_getElem? (i := 893) (by decide +kernel), List.mem_of_getElem? (i := 1123) (by decide +kernel), List.mem_of_getElem? (i := 1124) (by decide +kernel)⟩
theorem lw_p56 : lw_okq (⟨"StructureEditorModel", "readsType", "(I)Z"⟩, 45) := ⟨⟨by decide +kernel, by decide +kernel⟩, List.mem_of_getElem? (i := 893) (by decide +kernel), List.mem_of_getElem? (i := 1127) (by decide +kernel), List.mem_of_getElem? (i := 1128) (by decide +kernel)⟩
theorem lw_p57 : lw_okq (⟨"StructureEditorModel", "readsInteger", "(I)V"⟩, 45) := ⟨⟨by decide +kernel, by decide +kernel⟩, List.mem_of_getElem? (i := 893) (by decide +kernel), List.mem_of_getElem? (i := 1131) (by decide +kernel), List.mem_of_getElem? (i := 1132) (by decide +kernel)⟩
theorem lw_p58 : lw_okq (⟨"StructureEditorModel", "readsCheck", "(II)V"⟩, 45) := ⟨⟨by decide +kernel, by decide +kernel⟩, List.mem_of_getElem? (i := 893) (by decide +kernel), List.mem_of_getElem? (i := 1135) (by decide +kernel), List.mem_of_getElem? (i := 1136) (by decide +kernel)⟩
theorem lw_p59 : lw_okq (⟨"StructureEditorModel", "siblingNamed", "(I)I"⟩, 45) := ⟨⟨by decide +kernel, by decide +kernel⟩, List.mem_of_getElem? (i := 893) (by decide +kernel), List.mem_of_getElem? (i := 1139) (by decide +kernel), List.mem_of_getElem? (i := 1140) (by decide +kernel)⟩
theorem lw_p60 : lw_okq (⟨"StructureEditorModel", "isPresent", "(I)Z"⟩, 45) := ⟨⟨by decide +kernel, by decide +kernel⟩, List.mem_of_getElem? (i := 893) (by decide +kernel), List.mem_of_getElem? (i := 1149) (by decide +kernel), List.mem_of_getElem? (i := 1150) (by decide +kernel)⟩
theorem lw_p61 : lw_okq (⟨"StructureEditorModel", "templateOf", "(I)I"⟩, 45) := ⟨⟨by decide +kernel, by decide +kernel⟩, List.mem_of_getElem? (i := 893) (by decide +kernel), List.mem_of_getElem? (i := 1153) (by decide +kernel), List.mem_of_getElem? (i := 1154) (by decide +kernel)⟩
theorem lw_p62 : lw_okq (⟨"StructureEditorModel", "size", "()I"⟩, 45) := ⟨⟨by decide +kernel, by decide +kernel⟩, List.mem_of_getElem? (i := 893) (by decide +kernel), List.mem_of_getElem? (i := 1175) (by decide +kernel), List.mem_of_getElem? (i := 1176) (by decide +kernel)⟩
theorem lw_p63 : lw_okq (⟨"StructureEditorModel", "matchesAt", "(I)Z"⟩, 45) := ⟨⟨by decide +kernel, by decide +kernel⟩, List.mem_of_getElem? (i := 893) (by decide +kernel), List.mem_of_getElem? (i := 1179) (by decide +kernel), List.mem_of_getElem? (i := 1180) (by decide +kernel)⟩
def lw_privs_4 : List (MethodName × Nat) := [(⟨"StructureEditorModel", "blanksBehindNumber", "()V"⟩, 45), (⟨"StructureEditorModel", "integerNamed", "(I)I"⟩, 45), (⟨"StructureEditorModel", "name", "()I"⟩, 45), (⟨"StructureEditorModel", "named", "(II)I"⟩, 45), (⟨"StructureEditorModel", "inBlock", "(III)I"⟩, 45), (⟨"StructureEditorModel", "expects", "(I)V"⟩, 45), (⟨"StructureEditorModel", "readsItem", "()V"⟩, 45), (⟨"StructureEditorModel", "readsNamed", "(I)Z"⟩, 45), (⟨"StructureEditorModel", "readsType", "(I)Z"⟩, 45), (⟨"StructureEditorModel", "readsInteger", "(I)V"⟩, 45), (⟨"StructureEditorModel", "readsCheck", "(II)V"⟩, 45), (⟨"StructureEditorModel", "siblingNamed", "(I)I"⟩, 45), (⟨"StructureEditorModel", "isPresent", "(I)Z"⟩, 45), (⟨"StructureEditorModel", "templateOf", "(I)I"⟩, 45), (⟨"StructureEditorModel", "size", "()I"⟩, 45), (⟨"StructureEditorModel", "matchesAt", "(I)Z"⟩, 45)]
theorem lw_r4 : ∀ q ∈ lw_privs_4, lw_okq q := List.forall_mem_cons.mpr ⟨lw_p48, List.forall_mem_cons.mpr ⟨lw_p49, List.forall_mem_cons.mpr ⟨lw_p50, List.forall_mem_cons.mpr ⟨lw_p51, List.forall_mem_cons.mpr ⟨lw_p52, List.forall_mem_cons.mpr ⟨lw_p53, List.forall_mem_cons.mpr ⟨lw_p54, List.forall_mem_cons.mpr ⟨lw_p55, List.forall_mem_cons.mpr ⟨lw_p56, List.forall_mem_cons.mpr ⟨lw_p57, List.forall_mem_cons.mpr ⟨lw_p58, List.forall_mem_cons.mpr ⟨lw_p59, List.forall_mem_cons.mpr ⟨lw_p60, List.forall_mem_cons.mpr ⟨lw_p61, List.forall_mem_cons.mpr ⟨lw_p62, List.forall_mem_cons.mpr ⟨lw_p63, fun _ h => absurd h List.not_mem_nil⟩⟩⟩⟩⟩⟩⟩⟩⟩⟩⟩⟩⟩⟩⟩⟩
theorem lw_p64 : lw_okq (⟨"StructureEditorModel", "keeps", "()V"⟩, 45) := ⟨⟨by decide +kernel, by decide +kernel⟩, List.mem_of_getElem? (i := 893) (by decide +kernel), List.mem_of_getElem? (i := 1201) (by decide +kernel), List.mem_of_getElem? (i := 1202) (by decide +kernel)⟩
theorem lw_p65 : lw_okq (⟨"StructureEditorModel", "opens", "(II)V"⟩, 45) := ⟨⟨by decide +kernel, by decide +kernel⟩, List.mem_of_getElem? (i := 893) (by decide +kernel), List.mem_of_getElem? (i := 1208) (by decide +kernel), List.mem_of_getElem? (i := 1209) (by decide +kernel)⟩
theorem lw_p66 : lw_okq (⟨"StructureEditorModel", "offsetOf", "(I)I"⟩, 45) := ⟨⟨by decide +kernel, by decide +kernel⟩, List.mem_of_getElem? (i := 893) (by decide +kernel), List.mem_of_getElem? (i := 1212) (by decide +kernel), List.mem_of_getElem? (i := 1213) (by decide +kernel)⟩
theorem lw_p67 : lw_okq (⟨"StructureEditorModel", "moves", "(II)V"⟩, 45) := ⟨⟨by decide +kernel, by decide +kernel⟩, List.mem_of_getElem? (i := 893) (by decide +kernel), List.mem_of_getElem? (i := 1216) (by decide +kernel), List.mem_of_getElem? (i := 1217) (by decide +kernel)⟩
theorem lw_p68 : lw_okq (⟨"StructureEditorModel", "stays", "(Z)Z"⟩, 45) := ⟨⟨by decide +kernel, by decide +kernel⟩, List.mem_of_getElem? (i := 893) (by decide +kernel), List.mem_of_getElem? (i := 1220) (by decide +kernel), List.mem_of_getElem? (i := 1221) (by decide +kernel)⟩
theorem lw_p69 : lw_okq (⟨"StructureEditorModel", "updates", "()I"⟩, 45) := ⟨⟨by decide +kernel, by decide +kernel⟩, List.mem_of_getElem? (i := 893) (by decide +kernel), List.mem_of_getElem? (i := 1224) (by decide +kernel), List.mem_of_getElem? (i := 1225) (by decide +kernel)⟩
theorem lw_p70 : lw_okq (⟨"StructureEditorModel", "rounds", "()Z"⟩, 45) := ⟨⟨by decide +kernel, by decide +kernel⟩, List.mem_of_getElem? (i := 893) (by decide +kernel), List.mem_of_getElem? (i := 1228) (by decide +kernel), List.mem_of_getElem? (i := 1229) (by decide +kernel)⟩
theorem lw_p71 : lw_okq (⟨"StructureEditorModel", "laysOut", "(I)V"⟩, 45) := ⟨⟨by decide +kernel, by decide +kernel⟩, List.mem_of_getElem? (i := 893) (by decide +kernel), List.mem_of_getElem? (i := 1232) (by decide +kernel), List.mem_of_getElem? (i := 1233) (by decide +kernel)⟩
theorem lw_p72 : lw_okq (⟨"StructureEditorModel", "goesIn", "()V"⟩, 45) := ⟨⟨by decide +kernel, by decide +kernel⟩, List.mem_of_getElem? (i := 893) (by decide +kernel), List.mem_of_getElem? (i := 1236) (by decide +kernel), List.mem_of_getElem? (i := 1237) (by decide +kernel)⟩
theorem lw_p73 : lw_okq (⟨"StructureEditorModel", "passes", "(III)I"⟩, 45) := ⟨⟨by decide +kernel, by decide +kernel⟩, List.mem_of_getElem? (i := 893) (by decide +kernel), List.mem_of_getElem? (i := 1240) (by decide +kernel), List.mem_of_getElem? (i := 1241) (by decide +kernel)⟩
theorem lw_p74 : lw_okq (⟨"StructureEditorModel", "aligns", "(II)V"⟩, 45) := ⟨⟨by decide +kernel, by decide +kernel⟩, List.mem_of_getElem? (i := 893) (by decide +kernel), List.mem_of_getElem? (i := 1244) (by decide +kernel), List.mem_of_getElem? (i := 1245) (by decide +kernel)⟩
theorem lw_p75 : lw_okq (⟨"StructureEditorModel", "enters", "(II)V"⟩, 45) := ⟨⟨by decide +kernel, by decide +kernel⟩, List.mem_of_getElem? (i := 893) (by decide +kernel), List.mem_of_getElem? (i := 1248) (by decide +kernel), List.mem_of_getElem? (i := 1249) (by decide +kernel)⟩
theorem lw_p76 : lw_okq (⟨"StructureEditorModel", "countOf", "(II)I"⟩, 45) := ⟨⟨by decide +kernel, by decide +kernel⟩, List.mem_of_getElem? (i := 893) (by decide +kernel), List.mem_of_getElem? (i := 1252) (by decide +kernel), List.mem_of_getElem? (i := 1253) (by decide +kernel)⟩
theorem lw_p77 : lw_okq (⟨"StructureEditorModel", "laysAll", "(II)V"⟩, 45) := ⟨⟨by decide +kernel, by decide +kernel⟩, List.mem_of_getElem? (i := 893) (by decide +kernel), List.mem_of_getElem? (i := 1257) (by decide +kernel), List.mem_of_getElem? (i := 1258) (by decide +kernel)⟩
theorem lw_p78 : lw_okq (⟨"StructureEditorModel", "lays", "(III)Z"⟩, 45) := ⟨⟨by decide +kernel, by decide +kernel⟩, List.mem_of_getElem? (i := 893) (by decide +kernel), List.mem_of_getElem? (i := 1261) (by decide +kernel), List.mem_of_getElem? (i := 1262) (by decide +kernel)⟩
theorem lw_p79 : lw_okq (⟨"StructureEditorModel", "valueOf", "(I)J"⟩, 45) := ⟨⟨by decide +kernel, by decide +kernel⟩, List.mem_of_getElem? (i := 893) (by decide +kernel), List.mem_of_getElem? (i := 1265) (by decide +kernel), List.mem_of_getElem? (i := 1266) (by decide +kernel)⟩
def lw_privs_5 : List (MethodName × Nat) := [(⟨"StructureEditorModel", "keeps", "()V"⟩, 45), (⟨"StructureEditorModel", "opens", "(II)V"⟩, 45), (⟨"StructureEditorModel", "offsetOf", "(I)I"⟩, 45), (⟨"StructureEditorModel", "moves", "(II)V"⟩, 45), (⟨"StructureEditorModel", "stays", "(Z)Z"⟩, 45), (⟨"StructureEditorModel", "updates", "()I"⟩, 45), (⟨"StructureEditorModel", "rounds", "()Z"⟩, 45), (⟨"StructureEditorModel", "laysOut", "(I)V"⟩, 45), (⟨"StructureEditorModel", "goesIn", "()V"⟩, 45), (⟨"StructureEditorModel", "passes", "(III)I"⟩, 45), (⟨"StructureEditorModel", "aligns", "(II)V"⟩, 45), (⟨"StructureEditorModel", "enters", "(II)V"⟩, 45), (⟨"StructureEditorModel", "countOf", "(II)I"⟩, 45), (⟨"StructureEditorModel", "laysAll", "(II)V"⟩, 45), (⟨"StructureEditorModel", "lays", "(III)Z"⟩, 45), (⟨"StructureEditorModel", "valueOf", "(I)J"⟩, 45)]
theorem lw_r5 : ∀ q ∈ lw_privs_5, lw_okq q := List.forall_mem_cons.mpr ⟨lw_p64, List.forall_mem_cons.mpr ⟨lw_p65, List.forall_mem_cons.mpr ⟨lw_p66, List.forall_mem_cons.mpr ⟨lw_p67, List.forall_mem_cons.mpr ⟨lw_p68, List.forall_mem_cons.mpr ⟨lw_p69, List.forall_mem_cons.mpr ⟨lw_p70, List.forall_mem_cons.mpr ⟨lw_p71, List.forall_mem_cons.mpr ⟨lw_p72, List.forall_mem_cons.mpr ⟨lw_p73, List.forall_mem_cons.mpr ⟨lw_p74, List.forall_mem_cons.mpr ⟨lw_p75, List.forall_mem_cons.mpr ⟨lw_p76, List.forall_mem_cons.mpr ⟨lw_p77, List.forall_mem_cons.mpr ⟨lw_p78, List.forall_mem_cons.mpr ⟨lw_p79, fun _ h => absurd h List.not_mem_nil⟩⟩⟩⟩⟩⟩⟩⟩⟩⟩⟩⟩⟩⟩⟩⟩
theorem lw_p80 : lw_okq (⟨"StructureEditorModel", "read", "(IIZZ)J"⟩, 45) := ⟨⟨by decide +kernel, by decide +kernel⟩, List.mem_of_getElem? (i := 893) (by decide +kernel), List.mem_of_getElem? (i := 1269) (by decide +kernel), List.mem_of_getElem? (i := 1270) (by decide +kernel)⟩
theorem lw_p81 : lw_okq (⟨"StructureEditorModel", "isWrong", "(I)Z"⟩, 45) := ⟨⟨by decide +kernel, by decide +kernel⟩, List.mem_of_getElem? (i := 893) (by decide +kernel), List.mem_of_getElem? (i := 1274) (by decide +kernel), List.mem_of_getElem? (i := 1275) (by decide +kernel)⟩
theorem lw_p82 : lw_okq (⟨"StructureEditorModel", "expectedOf", "(I)I"⟩, 45) := ⟨⟨by decide +kernel, by decide +kernel⟩, List.mem_of_getElem? (i := 893) (by decide +kernel), List.mem_of_getElem? (i := 1278) (by decide +kernel), List.mem_of_getElem? (i := 1279) (by decide +kernel)⟩
theorem lw_p83 : lw_okq (⟨"StructureEditorModel", "puts", "(IJ)V"⟩, 45) := ⟨⟨by decide +kernel, by decide +kernel⟩, List.mem_of_getElem? (i := 893) (by decide +kernel), List.mem_of_getElem? (i := 1288) (by decide +kernel), List.mem_of_getElem? (i := 1289) (by decide +kernel)⟩
theorem lw_p84 : lw_okq (⟨"StructureEditorModel", "wrongs", "()I"⟩, 45) := ⟨⟨by decide +kernel, by decide +kernel⟩, List.mem_of_getElem? (i := 893) (by decide +kernel), List.mem_of_getElem? (i := 1326) (by decide +kernel), List.mem_of_getElem? (i := 1327) (by decide +kernel)⟩
theorem lw_p85 : lw_okq (⟨"StructureEditorModel", "hasField", "(II)Z"⟩, 45) := ⟨⟨by decide +kernel, by decide +kernel⟩, List.mem_of_getElem? (i := 893) (by decide +kernel), List.mem_of_getElem? (i := 1334) (by decide +kernel), List.mem_of_getElem? (i := 1335) (by decide +kernel)⟩
theorem lw_p86 : lw_okq (⟨"StructureEditorModel", "partOf", "(II)I"⟩, 45) := ⟨⟨by decide +kernel, by decide +kernel⟩, List.mem_of_getElem? (i := 893) (by decide +kernel), List.mem_of_getElem? (i := 1339) (by decide +kernel), List.mem_of_getElem? (i := 1340) (by decide +kernel)⟩
theorem lw_p87 : lw_okq (⟨"StructureEditorModel", "fits", "(IJ)Z"⟩, 45) := ⟨⟨by decide +kernel, by decide +kernel⟩, List.mem_of_getElem? (i := 893) (by decide +kernel), List.mem_of_getElem? (i := 1364) (by decide +kernel), List.mem_of_getElem? (i := 1365) (by decide +kernel)⟩
theorem lw_p88 : lw_okq (⟨"StructureEditorModel", "present", "()I"⟩, 45) := ⟨⟨by decide +kernel, by decide +kernel⟩, List.mem_of_getElem? (i := 893) (by decide +kernel), List.mem_of_getElem? (i := 1411) (by decide +kernel), List.mem_of_getElem? (i := 1412) (by decide +kernel)⟩
theorem lw_p89 : lw_okq (⟨"StructureEditorModel", "allWrong", "()I"⟩, 45) := ⟨⟨by decide +kernel, by decide +kernel⟩, List.mem_of_getElem? (i := 893) (by decide +kernel), List.mem_of_getElem? (i := 1415) (by decide +kernel), List.mem_of_getElem? (i := 1416) (by decide +kernel)⟩
theorem lw_p90 : lw_okq (⟨"StructureEditorModel", "mixes", "(J)V"⟩, 45) := ⟨⟨by decide +kernel, by decide +kernel⟩, List.mem_of_getElem? (i := 893) (by decide +kernel), List.mem_of_getElem? (i := 1424) (by decide +kernel), List.mem_of_getElem? (i := 1425) (by decide +kernel)⟩
theorem lw_p91 : lw_okq (⟨"StructureEditorModel", "mixesOverlay", "(I)V"⟩, 45) := ⟨⟨by decide +kernel, by decide +kernel⟩, List.mem_of_getElem? (i := 893) (by decide +kernel), List.mem_of_getElem? (i := 1429) (by decide +kernel), List.mem_of_getElem? (i := 1430) (by decide +kernel)⟩
def lw_privs_6 : List (MethodName × Nat) := [(⟨"StructureEditorModel", "read", "(IIZZ)J"⟩, 45), (⟨"StructureEditorModel", "isWrong", "(I)Z"⟩, 45), (⟨"StructureEditorModel", "expectedOf", "(I)I"⟩, 45), (⟨"StructureEditorModel", "puts", "(IJ)V"⟩, 45), (⟨"StructureEditorModel", "wrongs", "()I"⟩, 45), (⟨"StructureEditorModel", "hasField", "(II)Z"⟩, 45), (⟨"StructureEditorModel", "partOf", "(II)I"⟩, 45), (⟨"StructureEditorModel", "fits", "(IJ)Z"⟩, 45), (⟨"StructureEditorModel", "present", "()I"⟩, 45), (⟨"StructureEditorModel", "allWrong", "()I"⟩, 45), (⟨"StructureEditorModel", "mixes", "(J)V"⟩, 45), (⟨"StructureEditorModel", "mixesOverlay", "(I)V"⟩, 45)]
theorem lw_r6 : ∀ q ∈ lw_privs_6, lw_okq q := List.forall_mem_cons.mpr ⟨lw_p80, List.forall_mem_cons.mpr ⟨lw_p81, List.forall_mem_cons.mpr ⟨lw_p82, List.forall_mem_cons.mpr ⟨lw_p83, List.forall_mem_cons.mpr ⟨lw_p84, List.forall_mem_cons.mpr ⟨lw_p85, List.forall_mem_cons.mpr ⟨lw_p86, List.forall_mem_cons.mpr ⟨lw_p87, List.forall_mem_cons.mpr ⟨lw_p88, List.forall_mem_cons.mpr ⟨lw_p89, List.forall_mem_cons.mpr ⟨lw_p90, List.forall_mem_cons.mpr ⟨lw_p91, fun _ h => absurd h List.not_mem_nil⟩⟩⟩⟩⟩⟩⟩⟩⟩⟩⟩⟩
def lw_privs : List (MethodName × Nat) := lw_privs_1 ++ (lw_privs_2 ++ (lw_privs_3 ++ (lw_privs_4 ++ (lw_privs_5 ++ (lw_privs_6)))))
def lw_tbl : List Cond := k2_sels lw_privs ++ tables_1
theorem lw_privs_ok : ∀ q ∈ lw_privs, lw_okq q := by
  show ∀ q ∈ lw_privs_1 ++ (lw_privs_2 ++ (lw_privs_3 ++ (lw_privs_4 ++ (lw_privs_5 ++ (lw_privs_6))))), lw_okq q
  exact List.forall_mem_append.mpr ⟨lw_r1, List.forall_mem_append.mpr ⟨lw_r2, List.forall_mem_append.mpr ⟨lw_r3, List.forall_mem_append.mpr ⟨lw_r4, List.forall_mem_append.mpr ⟨lw_r5, lw_r6⟩⟩⟩⟩⟩
-- ===== end of PART A; then your names; then what follows =====
end
section
def RX0 : String := "StructureEditor$ByteRow"
def TX0 : u_T := fun k => match k with
  | 0 => ("StructureEditor$ByteRow", "bytes", "[I", true)
  | _ => ("StructureEditor$ByteRow", "size", "I", false)
def tyX0 : Nat → FieldType := fun k => match k with
  | 0 => .array .int
  | _ => .int
theorem nmX0 : ∀ a, a < 2 → ∀ b, b < 2 → a ≠ b → (TX0 a).2.1 ≠ (TX0 b).2.1 := by decide +kernel
theorem tyX0_ok : ∀ k, k < 2 → parseFieldDescriptor (TX0 k).2.2.1 = some (tyX0 k) := by decide +kernel
abbrev cX0_init : ByteArray := prog_2_method_1_code
def yX0_init : MethodName := ⟨RX0, "<init>", "(I)V"⟩
abbrev cX0_has : ByteArray := prog_2_method_2_code
def yX0_has : MethodName := ⟨RX0, "has", "(I)Z"⟩
abbrev cX0_get : ByteArray := prog_2_method_3_code
def yX0_get : MethodName := ⟨RX0, "get", "(I)I"⟩
abbrev cX0_put : ByteArray := prog_2_method_4_code
def yX0_put : MethodName := ⟨RX0, "put", "(II)V"⟩
abbrev cX0_putAll : ByteArray := prog_2_method_5_code
def yX0_putAll : MethodName := ⟨RX0, "putAll", "(ILStructureEditor$ByteRow;)V"⟩
abbrev cX0_append : ByteArray := prog_2_method_6_code
def yX0_append : MethodName := ⟨RX0, "append", "(I)Z"⟩
abbrev cX0_become : ByteArray := prog_2_method_7_code
def yX0_become : MethodName := ⟨RX0, "become", "(LStructureEditor$ByteRow;II)V"⟩
abbrev cX0_openGap : ByteArray := prog_2_method_8_code
def yX0_openGap : MethodName := ⟨RX0, "openGap", "(II)V"⟩
abbrev cX0_closeGap : ByteArray := prog_2_method_9_code
def yX0_closeGap : MethodName := ⟨RX0, "closeGap", "(II)V"⟩
abbrev cX0_read : ByteArray := prog_2_method_10_code
def yX0_read : MethodName := ⟨RX0, "read", "(LStructureEditor$Field;)J"⟩
abbrev cX0_write : ByteArray := prog_2_method_11_code
def yX0_write : MethodName := ⟨RX0, "write", "(LStructureEditor$Field;J)V"⟩
def RX1 : String := "StructureEditor$Checks"
def TX1 : u_T := fun k => match k with
  | _ => ("", "", "", false)
def tyX1 : Nat → FieldType := fun k => match k with
  | _ => .int
abbrev cX1_expectedOf : ByteArray := prog_3_method_2_code
def yX1_expectedOf : MethodName := ⟨RX1, "expectedOf", "(LStructureEditor$Field;LStructureEditor$ByteRow;)I"⟩
abbrev cX1_isWrong : ByteArray := prog_3_method_3_code
def yX1_isWrong : MethodName := ⟨RX1, "isWrong", "(LStructureEditor$Field;LStructureEditor$ByteRow;)Z"⟩
abbrev cX1_repairOf : ByteArray := prog_3_method_4_code
def yX1_repairOf : MethodName := ⟨RX1, "repairOf", "(LStructureEditor$Field;LStructureEditor$ByteRow;I)I"⟩
abbrev cX1_repairOfCrc : ByteArray := prog_3_method_5_code
def yX1_repairOfCrc : MethodName := ⟨RX1, "repairOfCrc", "(LStructureEditor$Field;LStructureEditor$ByteRow;I)I"⟩
abbrev cX1_feed : ByteArray := prog_3_method_6_code
def yX1_feed : MethodName := ⟨RX1, "feed", "(II)I"⟩
abbrev cX1_halve : ByteArray := prog_3_method_7_code
def yX1_halve : MethodName := ⟨RX1, "halve", "(I)I"⟩
def RX2 : String := "StructureEditor$Document"
def TX2 : u_T := fun k => match k with
  | 0 => ("StructureEditor$Document", "buffer", "LStructureEditor$ByteRow;", true)
  | 1 => ("StructureEditor$Document", "templateOf", "[I", true)
  | _ => ("StructureEditor$Document", "offsetOf", "[I", true)
def tyX2 : Nat → FieldType := fun k => match k with
  | 0 => .object "StructureEditor$ByteRow"
  | 1 => .array .int
  | _ => .array .int
theorem nmX2 : ∀ a, a < 3 → ∀ b, b < 3 → a ≠ b → (TX2 a).2.1 ≠ (TX2 b).2.1 := by decide +kernel
theorem tyX2_ok : ∀ k, k < 3 → parseFieldDescriptor (TX2 k).2.2.1 = some (tyX2 k) := by decide +kernel
abbrev cX2_init : ByteArray := prog_4_method_1_code
def yX2_init : MethodName := ⟨RX2, "<init>", "()V"⟩
abbrev cX2_isPresent : ByteArray := prog_4_method_2_code
def yX2_isPresent : MethodName := ⟨RX2, "isPresent", "(I)Z"⟩
abbrev cX2_drop : ByteArray := prog_4_method_3_code
def yX2_drop : MethodName := ⟨RX2, "drop", "(I)V"⟩
abbrev cX2_presentOverlays : ByteArray := prog_4_method_4_code
def yX2_presentOverlays : MethodName := ⟨RX2, "presentOverlays", "()I"⟩
abbrev cX2_uses : ByteArray := prog_4_method_5_code
def yX2_uses : MethodName := ⟨RX2, "uses", "(I)Z"⟩
abbrev cX2_become : ByteArray := prog_4_method_6_code
def yX2_become : MethodName := ⟨RX2, "become", "(LStructureEditor$Document;)V"⟩
abbrev cX2_openGap : ByteArray := prog_4_method_7_code
def yX2_openGap : MethodName := ⟨RX2, "openGap", "(II)V"⟩
abbrev cX2_closeGap : ByteArray := prog_4_method_8_code
def yX2_closeGap : MethodName := ⟨RX2, "closeGap", "(II)V"⟩
def RX3 : String := "StructureEditor$Field"
def TX3 : u_T := fun k => match k with
  | 0 => ("StructureEditor$Field", "start", "I", false)
  | 1 => ("StructureEditor$Field", "size", "I", false)
  | 2 => ("StructureEditor$Field", "kind", "I", false)
  | 3 => ("StructureEditor$Field", "isLittle", "Z", false)
  | 4 => ("StructureEditor$Field", "rangeStart", "I", false)
  | 5 => ("StructureEditor$Field", "rangeEnd", "I", false)
  | 6 => ("StructureEditor$Field", "names", "I", false)
  | _ => ("StructureEditor$Field", "path", "[I", true)
def tyX3 : Nat → FieldType := fun k => match k with
  | 0 => .int
  | 1 => .int
  | 2 => .int
  | 3 => .boolean
  | 4 => .int
  | 5 => .int
  | 6 => .int
  | _ => .array .int
theorem nmX3 : ∀ a, a < 8 → ∀ b, b < 8 → a ≠ b → (TX3 a).2.1 ≠ (TX3 b).2.1 := by decide +kernel
theorem tyX3_ok : ∀ k, k < 8 → parseFieldDescriptor (TX3 k).2.2.1 = some (tyX3 k) := by decide +kernel
abbrev cX3_init : ByteArray := prog_5_method_1_code
def yX3_init : MethodName := ⟨RX3, "<init>", "()V"⟩
abbrev cX3_isCheck : ByteArray := prog_5_method_2_code
def yX3_isCheck : MethodName := ⟨RX3, "isCheck", "()Z"⟩
abbrev cX3_contains : ByteArray := prog_5_method_3_code
def yX3_contains : MethodName := ⟨RX3, "contains", "(I)Z"⟩
abbrev cX3_takes : ByteArray := prog_5_method_4_code
def yX3_takes : MethodName := ⟨RX3, "takes", "(J)Z"⟩
abbrev cX3_pathName : ByteArray := prog_5_method_5_code
def yX3_pathName : MethodName := ⟨RX3, "pathName", "(I)I"⟩
abbrev cX3_property : ByteArray := prog_5_method_6_code
def yX3_property : MethodName := ⟨RX3, "property", "(I)I"⟩
def RX4 : String := "StructureEditor$History"
def TX4 : u_T := fun k => match k with
  | 0 => ("StructureEditor$History", "live", "LStructureEditor$Document;", true)
  | 1 => ("StructureEditor$History", "states", "[LStructureEditor$Document;", true)
  | 2 => ("StructureEditor$History", "now", "I", false)
  | _ => ("StructureEditor$History", "last", "I", false)
def tyX4 : Nat → FieldType := fun k => match k with
  | 0 => .object "StructureEditor$Document"
  | 1 => .array (.object "StructureEditor$Document")
  | 2 => .int
  | _ => .int
theorem nmX4 : ∀ a, a < 4 → ∀ b, b < 4 → a ≠ b → (TX4 a).2.1 ≠ (TX4 b).2.1 := by decide +kernel
theorem tyX4_ok : ∀ k, k < 4 → parseFieldDescriptor (TX4 k).2.2.1 = some (tyX4 k) := by decide +kernel
abbrev cX4_init : ByteArray := prog_6_method_1_code
def yX4_init : MethodName := ⟨RX4, "<init>", "(LStructureEditor$Document;)V"⟩
abbrev cX4_keep : ByteArray := prog_6_method_2_code
def yX4_keep : MethodName := ⟨RX4, "keep", "()V"⟩
abbrev cX4_takeBack : ByteArray := prog_6_method_3_code
def yX4_takeBack : MethodName := ⟨RX4, "takeBack", "()V"⟩
abbrev cX4_commit : ByteArray := prog_6_method_4_code
def yX4_commit : MethodName := ⟨RX4, "commit", "()V"⟩
abbrev cX4_back : ByteArray := prog_6_method_5_code
def yX4_back : MethodName := ⟨RX4, "back", "()Z"⟩
abbrev cX4_forward : ByteArray := prog_6_method_6_code
def yX4_forward : MethodName := ⟨RX4, "forward", "()Z"⟩
abbrev cX4_dropOldest : ByteArray := prog_6_method_7_code
def yX4_dropOldest : MethodName := ⟨RX4, "dropOldest", "()V"⟩
def RX5 : String := "StructureEditor$Item"
def TX5 : u_T := fun k => match k with
  | 0 => ("StructureEditor$Item", "kind", "I", false)
  | 1 => ("StructureEditor$Item", "name", "I", false)
  | 2 => ("StructureEditor$Item", "size", "I", false)
  | 3 => ("StructureEditor$Item", "isLittle", "Z", false)
  | 4 => ("StructureEditor$Item", "parent", "I", false)
  | 5 => ("StructureEditor$Item", "end", "I", false)
  | 6 => ("StructureEditor$Item", "condition", "I", false)
  | 7 => ("StructureEditor$Item", "conditionValue", "I", false)
  | 8 => ("StructureEditor$Item", "isCounted", "Z", false)
  | 9 => ("StructureEditor$Item", "counter", "I", false)
  | 10 => ("StructureEditor$Item", "number", "I", false)
  | 11 => ("StructureEditor$Item", "rangeFirst", "I", false)
  | _ => ("StructureEditor$Item", "rangeLast", "I", false)
def tyX5 : Nat → FieldType := fun k => match k with
  | 0 => .int
  | 1 => .int
  | 2 => .int
  | 3 => .boolean
  | 4 => .int
  | 5 => .int
  | 6 => .int
  | 7 => .int
  | 8 => .boolean
  | 9 => .int
  | 10 => .int
  | 11 => .int
  | _ => .int
theorem nmX5 : ∀ a, a < 13 → ∀ b, b < 13 → a ≠ b → (TX5 a).2.1 ≠ (TX5 b).2.1 := by decide +kernel
theorem tyX5_ok : ∀ k, k < 13 → parseFieldDescriptor (TX5 k).2.2.1 = some (tyX5 k) := by decide +kernel
abbrev cX5_init : ByteArray := prog_7_method_1_code
def yX5_init : MethodName := ⟨RX5, "<init>", "()V"⟩
abbrev cX5_reset : ByteArray := prog_7_method_2_code
def yX5_reset : MethodName := ⟨RX5, "reset", "(I)V"⟩
abbrev cX5_isPlainInteger : ByteArray := prog_7_method_3_code
def yX5_isPlainInteger : MethodName := ⟨RX5, "isPlainInteger", "()Z"⟩
def RX6 : String := "StructureEditor$Layout"
def TX6 : u_T := fun k => match k with
  | 0 => ("StructureEditor$Layout", "fields", "[LStructureEditor$Field;", true)
  | 1 => ("StructureEditor$Layout", "used", "I", false)
  | 2 => ("StructureEditor$Layout", "reason", "I", false)
  | 3 => ("StructureEditor$Layout", "position", "I", false)
  | 4 => ("StructureEditor$Layout", "buffer", "LStructureEditor$ByteRow;", true)
  | 5 => ("StructureEditor$Layout", "template", "LStructureEditor$Template;", false)
  | 6 => ("StructureEditor$Layout", "offset", "I", false)
  | 7 => ("StructureEditor$Layout", "steps", "I", false)
  | 8 => ("StructureEditor$Layout", "path", "[I", true)
  | 9 => ("StructureEditor$Layout", "itemValue", "[J", true)
  | 10 => ("StructureEditor$Layout", "itemStart", "[I", true)
  | 11 => ("StructureEditor$Layout", "itemEnd", "[I", true)
  | 12 => ("StructureEditor$Layout", "soughtPath", "[I", true)
  | _ => ("StructureEditor$Layout", "soughtNames", "I", false)
def tyX6 : Nat → FieldType := fun k => match k with
  | 0 => .array (.object "StructureEditor$Field")
  | 1 => .int
  | 2 => .int
  | 3 => .int
  | 4 => .object "StructureEditor$ByteRow"
  | 5 => .object "StructureEditor$Template"
  | 6 => .int
  | 7 => .int
  | 8 => .array .int
  | 9 => .array .long
  | 10 => .array .int
  | 11 => .array .int
  | 12 => .array .int
  | _ => .int
theorem nmX6 : ∀ a, a < 14 → ∀ b, b < 14 → a ≠ b → (TX6 a).2.1 ≠ (TX6 b).2.1 := by decide +kernel
theorem tyX6_ok : ∀ k, k < 14 → parseFieldDescriptor (TX6 k).2.2.1 = some (tyX6 k) := by decide +kernel
abbrev cX6_init : ByteArray := prog_8_method_1_code
def yX6_init : MethodName := ⟨RX6, "<init>", "(LStructureEditor$Template;LStructureEditor$ByteRow;)V"⟩
abbrev cX6_compute : ByteArray := prog_8_method_2_code
def yX6_compute : MethodName := ⟨RX6, "compute", "(LStructureEditor$Template;I)V"⟩
abbrev cX6_makeStep : ByteArray := prog_8_method_3_code
def yX6_makeStep : MethodName := ⟨RX6, "makeStep", "()Z"⟩
abbrev cX6_goThrough : ByteArray := prog_8_method_4_code
def yX6_goThrough : MethodName := ⟨RX6, "goThrough", "(II)V"⟩
abbrev cX6_repeatStructure : ByteArray := prog_8_method_5_code
def yX6_repeatStructure : MethodName := ⟨RX6, "repeatStructure", "(II)V"⟩
abbrev cX6_repetitionsOf : ByteArray := prog_8_method_6_code
def yX6_repetitionsOf : MethodName := ⟨RX6, "repetitionsOf", "(LStructureEditor$Item;)I"⟩
abbrev cX6_align : ByteArray := prog_8_method_7_code
def yX6_align : MethodName := ⟨RX6, "align", "(I)V"⟩
abbrev cX6_layFields : ByteArray := prog_8_method_8_code
def yX6_layFields : MethodName := ⟨RX6, "layFields", "(II)V"⟩
abbrev cX6_layField : ByteArray := prog_8_method_9_code
def yX6_layField : MethodName := ⟨RX6, "layField", "(LStructureEditor$Item;I)V"⟩
abbrev cX6_seek : ByteArray := prog_8_method_10_code
def yX6_seek : MethodName := ⟨RX6, "seek", "(I)V"⟩
abbrev cX6_firstSought : ByteArray := prog_8_method_11_code
def yX6_firstSought : MethodName := ⟨RX6, "firstSought", "()I"⟩
abbrev cX6_isSought : ByteArray := prog_8_method_12_code
def yX6_isSought : MethodName := ⟨RX6, "isSought", "(LStructureEditor$Field;)Z"⟩
def RX7 : String := "StructureEditor$Pattern"
def TX7 : u_T := fun k => match k with
  | 0 => ("StructureEditor$Pattern", "high", "[I", true)
  | 1 => ("StructureEditor$Pattern", "low", "[I", true)
  | _ => ("StructureEditor$Pattern", "pairs", "I", false)
def tyX7 : Nat → FieldType := fun k => match k with
  | 0 => .array .int
  | 1 => .array .int
  | _ => .int
theorem nmX7 : ∀ a, a < 3 → ∀ b, b < 3 → a ≠ b → (TX7 a).2.1 ≠ (TX7 b).2.1 := by decide +kernel
theorem tyX7_ok : ∀ k, k < 3 → parseFieldDescriptor (TX7 k).2.2.1 = some (tyX7 k) := by decide +kernel
abbrev cX7_init : ByteArray := prog_9_method_1_code
def yX7_init : MethodName := ⟨RX7, "<init>", "()V"⟩
abbrev cX7_faultOf : ByteArray := prog_9_method_2_code
def yX7_faultOf : MethodName := ⟨RX7, "faultOf", "(LStructureEditor$ByteRow;)I"⟩
abbrev cX7_fits : ByteArray := prog_9_method_3_code
def yX7_fits : MethodName := ⟨RX7, "fits", "(LStructureEditor$ByteRow;I)Z"⟩
abbrev cX7_fitsDigit : ByteArray := prog_9_method_4_code
def yX7_fitsDigit : MethodName := ⟨RX7, "fitsDigit", "(II)Z"⟩
abbrev cX7_digitOf : ByteArray := prog_9_method_5_code
def yX7_digitOf : MethodName := ⟨RX7, "digitOf", "(I)I"⟩
def RX8 : String := "StructureEditor$Template"
def TX8 : u_T := fun k => match k with
  | 0 => ("StructureEditor$Template", "items", "[LStructureEditor$Item;", true)
  | _ => ("StructureEditor$Template", "used", "I", false)
def tyX8 : Nat → FieldType := fun k => match k with
  | 0 => .array (.object "StructureEditor$Item")
  | _ => .int
theorem nmX8 : ∀ a, a < 2 → ∀ b, b < 2 → a ≠ b → (TX8 a).2.1 ≠ (TX8 b).2.1 := by decide +kernel
theorem tyX8_ok : ∀ k, k < 2 → parseFieldDescriptor (TX8 k).2.2.1 = some (tyX8 k) := by decide +kernel
abbrev cX8_init : ByteArray := prog_10_method_1_code
def yX8_init : MethodName := ⟨RX8, "<init>", "()V"⟩
abbrev cX8_append : ByteArray := prog_10_method_2_code
def yX8_append : MethodName := ⟨RX8, "append", "(I)I"⟩
abbrev cX8_sibling : ByteArray := prog_10_method_3_code
def yX8_sibling : MethodName := ⟨RX8, "sibling", "(II)I"⟩
abbrev cX8_lookUp : ByteArray := prog_10_method_4_code
def yX8_lookUp : MethodName := ⟨RX8, "lookUp", "(II)I"⟩
def RX9 : String := "StructureEditor$TemplateParser"
def TX9 : u_T := fun k => match k with
  | 0 => ("StructureEditor$TemplateParser", "text", "LStructureEditor$ByteRow;", true)
  | 1 => ("StructureEditor$TemplateParser", "template", "LStructureEditor$Template;", false)
  | 2 => ("StructureEditor$TemplateParser", "at", "I", false)
  | 3 => ("StructureEditor$TemplateParser", "sign", "I", false)
  | _ => ("StructureEditor$TemplateParser", "fault", "I", false)
def tyX9 : Nat → FieldType := fun k => match k with
  | 0 => .object "StructureEditor$ByteRow"
  | 1 => .object "StructureEditor$Template"
  | 2 => .int
  | 3 => .int
  | _ => .int
theorem nmX9 : ∀ a, a < 5 → ∀ b, b < 5 → a ≠ b → (TX9 a).2.1 ≠ (TX9 b).2.1 := by decide +kernel
theorem tyX9_ok : ∀ k, k < 5 → parseFieldDescriptor (TX9 k).2.2.1 = some (tyX9 k) := by decide +kernel
abbrev cX9_init : ByteArray := prog_11_method_1_code
def yX9_init : MethodName := ⟨RX9, "<init>", "(LStructureEditor$ByteRow;LStructureEditor$Template;)V"⟩
abbrev cX9_faultOf : ByteArray := prog_11_method_2_code
def yX9_faultOf : MethodName := ⟨RX9, "faultOf", "(LStructureEditor$Template;)I"⟩
abbrev cX9_moveTo : ByteArray := prog_11_method_3_code
def yX9_moveTo : MethodName := ⟨RX9, "moveTo", "(I)V"⟩
abbrev cX9_refuse : ByteArray := prog_11_method_4_code
def yX9_refuse : MethodName := ⟨RX9, "refuse", "(I)Z"⟩
abbrev cX9_parseSign : ByteArray := prog_11_method_5_code
def yX9_parseSign : MethodName := ⟨RX9, "parseSign", "(I)Z"⟩
abbrev cX9_parseBlock : ByteArray := prog_11_method_6_code
def yX9_parseBlock : MethodName := ⟨RX9, "parseBlock", "(II)Z"⟩
abbrev cX9_parseItem : ByteArray := prog_11_method_7_code
def yX9_parseItem : MethodName := ⟨RX9, "parseItem", "(II)Z"⟩
abbrev cX9_parseCondition : ByteArray := prog_11_method_8_code
def yX9_parseCondition : MethodName := ⟨RX9, "parseCondition", "(I)Z"⟩
abbrev cX9_parseGap : ByteArray := prog_11_method_9_code
def yX9_parseGap : MethodName := ⟨RX9, "parseGap", "(LStructureEditor$Item;)Z"⟩
abbrev cX9_parseName : ByteArray := prog_11_method_10_code
def yX9_parseName : MethodName := ⟨RX9, "parseName", "(I)Z"⟩
abbrev cX9_parseType : ByteArray := prog_11_method_11_code
def yX9_parseType : MethodName := ⟨RX9, "parseType", "(II)Z"⟩
abbrev cX9_parseInteger : ByteArray := prog_11_method_12_code
def yX9_parseInteger : MethodName := ⟨RX9, "parseInteger", "(LStructureEditor$Item;)Z"⟩
abbrev cX9_parseStructure : ByteArray := prog_11_method_13_code
def yX9_parseStructure : MethodName := ⟨RX9, "parseStructure", "(II)Z"⟩
abbrev cX9_parseCheck : ByteArray := prog_11_method_14_code
def yX9_parseCheck : MethodName := ⟨RX9, "parseCheck", "(III)Z"⟩
abbrev cX9_parseSibling : ByteArray := prog_11_method_15_code
def yX9_parseSibling : MethodName := ⟨RX9, "parseSibling", "(II)I"⟩
abbrev cX9_parseCount : ByteArray := prog_11_method_16_code
def yX9_parseCount : MethodName := ⟨RX9, "parseCount", "(I)Z"⟩
abbrev cX9_parseReference : ByteArray := prog_11_method_17_code
def yX9_parseReference : MethodName := ⟨RX9, "parseReference", "(I)I"⟩
abbrev cX9_parseNumber : ByteArray := prog_11_method_18_code
def yX9_parseNumber : MethodName := ⟨RX9, "parseNumber", "()I"⟩
abbrev cX9_isName : ByteArray := prog_11_method_19_code
def yX9_isName : MethodName := ⟨RX9, "isName", "(I)Z"⟩
abbrev cX9_isDigit : ByteArray := prog_11_method_20_code
def yX9_isDigit : MethodName := ⟨RX9, "isDigit", "(I)Z"⟩
def RX10 : String := "StructureEditor"
def TX10 : u_T := fun k => match k with
  | 0 => ("StructureEditor", "text", "LStructureEditor$ByteRow;", true)
  | 1 => ("StructureEditor", "clipboard", "LStructureEditor$ByteRow;", true)
  | 2 => ("StructureEditor", "marked", "LStructureEditor$ByteRow;", true)
  | 3 => ("StructureEditor", "document", "LStructureEditor$Document;", true)
  | 4 => ("StructureEditor", "history", "LStructureEditor$History;", true)
  | 5 => ("StructureEditor", "templates", "[LStructureEditor$Template;", true)
  | 6 => ("StructureEditor", "parser", "LStructureEditor$TemplateParser;", true)
  | 7 => ("StructureEditor", "pattern", "LStructureEditor$Pattern;", true)
  | 8 => ("StructureEditor", "layout", "LStructureEditor$Layout;", true)
  | 9 => ("StructureEditor", "distances", "[I", true)
  | 10 => ("StructureEditor", "draft", "LStructureEditor$Template;", false)
  | _ => ("StructureEditor", "following", "Z", false)
def tyX10 : Nat → FieldType := fun k => match k with
  | 0 => .object "StructureEditor$ByteRow"
  | 1 => .object "StructureEditor$ByteRow"
  | 2 => .object "StructureEditor$ByteRow"
  | 3 => .object "StructureEditor$Document"
  | 4 => .object "StructureEditor$History"
  | 5 => .array (.object "StructureEditor$Template")
  | 6 => .object "StructureEditor$TemplateParser"
  | 7 => .object "StructureEditor$Pattern"
  | 8 => .object "StructureEditor$Layout"
  | 9 => .array .int
  | 10 => .object "StructureEditor$Template"
  | _ => .boolean
theorem nmX10 : ∀ a, a < 12 → ∀ b, b < 12 → a ≠ b → (TX10 a).2.1 ≠ (TX10 b).2.1 := by decide +kernel
theorem tyX10_ok : ∀ k, k < 12 → parseFieldDescriptor (TX10 k).2.2.1 = some (tyX10 k) := by decide +kernel
abbrev cX10_init : ByteArray := prog_1_method_1_code
def yX10_init : MethodName := ⟨RX10, "<init>", "()V"⟩
abbrev cX10_type : ByteArray := prog_1_method_2_code
def yX10_type : MethodName := ⟨RX10, "type", "(I)I"⟩
abbrev cX10_clearText : ByteArray := prog_1_method_3_code
def yX10_clearText : MethodName := ⟨RX10, "clearText", "()I"⟩
abbrev cX10_templateFault : ByteArray := prog_1_method_4_code
def yX10_templateFault : MethodName := ⟨RX10, "templateFault", "()I"⟩
abbrev cX10_define : ByteArray := prog_1_method_5_code
def yX10_define : MethodName := ⟨RX10, "define", "(I)I"⟩
abbrev cX10_items : ByteArray := prog_1_method_6_code
def yX10_items : MethodName := ⟨RX10, "items", "(I)I"⟩
abbrev cX10_patternFault : ByteArray := prog_1_method_7_code
def yX10_patternFault : MethodName := ⟨RX10, "patternFault", "()I"⟩
abbrev cX10_find : ByteArray := prog_1_method_8_code
def yX10_find : MethodName := ⟨RX10, "find", "(I)I"⟩
abbrev cX10_matches : ByteArray := prog_1_method_9_code
def yX10_matches : MethodName := ⟨RX10, "matches", "()I"⟩
abbrev cX10_length : ByteArray := prog_1_method_10_code
def yX10_length : MethodName := ⟨RX10, "length", "()I"⟩
abbrev cX10_byteAt : ByteArray := prog_1_method_11_code
def yX10_byteAt : MethodName := ⟨RX10, "byteAt", "(I)I"⟩
abbrev cX10_insert : ByteArray := prog_1_method_12_code
def yX10_insert : MethodName := ⟨RX10, "insert", "(III)I"⟩
abbrev cX10_delete : ByteArray := prog_1_method_13_code
def yX10_delete : MethodName := ⟨RX10, "delete", "(II)I"⟩
abbrev cX10_overwrite : ByteArray := prog_1_method_14_code
def yX10_overwrite : MethodName := ⟨RX10, "overwrite", "(II)I"⟩
abbrev cX10_copy : ByteArray := prog_1_method_15_code
def yX10_copy : MethodName := ⟨RX10, "copy", "(II)I"⟩
abbrev cX10_paste : ByteArray := prog_1_method_16_code
def yX10_paste : MethodName := ⟨RX10, "paste", "(I)I"⟩
abbrev cX10_pasteOver : ByteArray := prog_1_method_17_code
def yX10_pasteOver : MethodName := ⟨RX10, "pasteOver", "(I)I"⟩
abbrev cX10_lay : ByteArray := prog_1_method_18_code
def yX10_lay : MethodName := ⟨RX10, "lay", "(III)I"⟩
abbrev cX10_remove : ByteArray := prog_1_method_19_code
def yX10_remove : MethodName := ⟨RX10, "remove", "(I)I"⟩
abbrev cX10_overlay : ByteArray := prog_1_method_20_code
def yX10_overlay : MethodName := ⟨RX10, "overlay", "(II)I"⟩
abbrev cX10_field : ByteArray := prog_1_method_21_code
def yX10_field : MethodName := ⟨RX10, "field", "(III)I"⟩
abbrev cX10_value : ByteArray := prog_1_method_22_code
def yX10_value : MethodName := ⟨RX10, "value", "(II)J"⟩
abbrev cX10_path : ByteArray := prog_1_method_23_code
def yX10_path : MethodName := ⟨RX10, "path", "(III)I"⟩
abbrev cX10_fieldAt : ByteArray := prog_1_method_24_code
def yX10_fieldAt : MethodName := ⟨RX10, "fieldAt", "(II)I"⟩
abbrev cX10_counterpart : ByteArray := prog_1_method_25_code
def yX10_counterpart : MethodName := ⟨RX10, "counterpart", "(III)I"⟩
abbrev cX10_setField : ByteArray := prog_1_method_26_code
def yX10_setField : MethodName := ⟨RX10, "setField", "(IIJ)I"⟩
abbrev cX10_follow : ByteArray := prog_1_method_27_code
def yX10_follow : MethodName := ⟨RX10, "follow", "(Z)I"⟩
abbrev cX10_refresh : ByteArray := prog_1_method_28_code
def yX10_refresh : MethodName := ⟨RX10, "refresh", "()I"⟩
abbrev cX10_expected : ByteArray := prog_1_method_29_code
def yX10_expected : MethodName := ⟨RX10, "expected", "(II)I"⟩
abbrev cX10_repair : ByteArray := prog_1_method_30_code
def yX10_repair : MethodName := ⟨RX10, "repair", "(II)I"⟩
abbrev cX10_undo : ByteArray := prog_1_method_31_code
def yX10_undo : MethodName := ⟨RX10, "undo", "()I"⟩
abbrev cX10_redo : ByteArray := prog_1_method_32_code
def yX10_redo : MethodName := ⟨RX10, "redo", "()I"⟩
abbrev cX10_mark : ByteArray := prog_1_method_33_code
def yX10_mark : MethodName := ⟨RX10, "mark", "()I"⟩
abbrev cX10_difference : ByteArray := prog_1_method_34_code
def yX10_difference : MethodName := ⟨RX10, "difference", "(I)I"⟩
abbrev cX10_distance : ByteArray := prog_1_method_35_code
def yX10_distance : MethodName := ⟨RX10, "distance", "()I"⟩
abbrev cX10_count : ByteArray := prog_1_method_36_code
def yX10_count : MethodName := ⟨RX10, "count", "(I)I"⟩
abbrev cX10_digest : ByteArray := prog_1_method_37_code
def yX10_digest : MethodName := ⟨RX10, "digest", "()J"⟩
abbrev cX10_isWithin : ByteArray := prog_1_method_38_code
def yX10_isWithin : MethodName := ⟨RX10, "isWithin", "(III)Z"⟩
abbrev cX10_endChange : ByteArray := prog_1_method_39_code
def yX10_endChange : MethodName := ⟨RX10, "endChange", "(Z)I"⟩
abbrev cX10_updateRound : ByteArray := prog_1_method_40_code
def yX10_updateRound : MethodName := ⟨RX10, "updateRound", "()Z"⟩
abbrev cX10_updateWrongFields : ByteArray := prog_1_method_41_code
def yX10_updateWrongFields : MethodName := ⟨RX10, "updateWrongFields", "()Z"⟩
abbrev cX10_layOut : ByteArray := prog_1_method_42_code
def yX10_layOut : MethodName := ⟨RX10, "layOut", "(I)Z"⟩
abbrev cX10_layOutField : ByteArray := prog_1_method_43_code
def yX10_layOutField : MethodName := ⟨RX10, "layOutField", "(II)Z"⟩
abbrev cX10_fieldsOf : ByteArray := prog_1_method_44_code
def yX10_fieldsOf : MethodName := ⟨RX10, "fieldsOf", "(I)I"⟩
abbrev cX10_overlayProperty : ByteArray := prog_1_method_45_code
def yX10_overlayProperty : MethodName := ⟨RX10, "overlayProperty", "(II)I"⟩
abbrev cX10_wrongFields : ByteArray := prog_1_method_46_code
def yX10_wrongFields : MethodName := ⟨RX10, "wrongFields", "()I"⟩
abbrev cX10_wrongFieldsOfAll : ByteArray := prog_1_method_47_code
def yX10_wrongFieldsOfAll : MethodName := ⟨RX10, "wrongFieldsOfAll", "()I"⟩
abbrev cX10_numberOf : ByteArray := prog_1_method_48_code
def yX10_numberOf : MethodName := ⟨RX10, "numberOf", "(I)I"⟩
abbrev cX10_nextDistances : ByteArray := prog_1_method_49_code
def yX10_nextDistances : MethodName := ⟨RX10, "nextDistances", "(II)V"⟩
abbrev cX10_mix : ByteArray := prog_1_method_50_code
def yX10_mix : MethodName := ⟨RX10, "mix", "(JJ)J"⟩
abbrev cX10_mixOverlay : ByteArray := prog_1_method_51_code
def yX10_mixOverlay : MethodName := ⟨RX10, "mixOverlay", "(JI)J"⟩
abbrev cX10_mixField : ByteArray := prog_1_method_52_code
def yX10_mixField : MethodName := ⟨RX10, "mixField", "(JLStructureEditor$Field;)J"⟩
def RX11 : String := "StructureEditorModel"
def TX11 : u_T := fun k => match k with
  | 0 => ("StructureEditorModel", "m", "[I", true)
  | 1 => ("StructureEditorModel", "past", "[I", true)
  | 2 => ("StructureEditorModel", "undos", "I", false)
  | 3 => ("StructureEditorModel", "future", "[I", true)
  | 4 => ("StructureEditorModel", "redos", "I", false)
  | 5 => ("StructureEditorModel", "kept", "[I", true)
  | 6 => ("StructureEditorModel", "follows", "Z", false)
  | 7 => ("StructureEditorModel", "clip", "[I", true)
  | 8 => ("StructureEditorModel", "clipLength", "I", false)
  | 9 => ("StructureEditorModel", "marked", "[I", true)
  | 10 => ("StructureEditorModel", "markedLength", "I", false)
  | 11 => ("StructureEditorModel", "text", "[I", true)
  | 12 => ("StructureEditorModel", "textLength", "I", false)
  | 13 => ("StructureEditorModel", "item", "[I", true)
  | 14 => ("StructureEditorModel", "items", "[I", true)
  | 15 => ("StructureEditorModel", "at", "I", false)
  | 16 => ("StructureEditorModel", "fault", "I", false)
  | 17 => ("StructureEditorModel", "numberAt", "I", false)
  | 18 => ("StructureEditorModel", "nameAt", "I", false)
  | 19 => ("StructureEditorModel", "depth", "I", false)
  | 20 => ("StructureEditorModel", "open", "I", false)
  | 21 => ("StructureEditorModel", "half", "[I", true)
  | 22 => ("StructureEditorModel", "pairs", "I", false)
  | 23 => ("StructureEditorModel", "start", "[I", true)
  | 24 => ("StructureEditorModel", "wide", "[I", true)
  | 25 => ("StructureEditorModel", "sort", "[I", true)
  | 26 => ("StructureEditorModel", "little", "[I", true)
  | 27 => ("StructureEditorModel", "from", "[I", true)
  | 28 => ("StructureEditorModel", "to", "[I", true)
  | 29 => ("StructureEditorModel", "levels", "[I", true)
  | 30 => ("StructureEditorModel", "names", "[I", true)
  | 31 => ("StructureEditorModel", "fields", "I", false)
  | 32 => ("StructureEditorModel", "broken", "I", false)
  | 33 => ("StructureEditorModel", "position", "I", false)
  | 34 => ("StructureEditorModel", "steps", "I", false)
  | 35 => ("StructureEditorModel", "worth", "[J", true)
  | 36 => ("StructureEditorModel", "begins", "[I", true)
  | 37 => ("StructureEditorModel", "ends", "[I", true)
  | 38 => ("StructureEditorModel", "inside", "[I", true)
  | 39 => ("StructureEditorModel", "often", "[I", true)
  | 40 => ("StructureEditorModel", "turn", "[I", true)
  | 41 => ("StructureEditorModel", "deep", "I", false)
  | 42 => ("StructureEditorModel", "wanted", "[I", true)
  | 43 => ("StructureEditorModel", "row", "[I", true)
  | _ => ("StructureEditorModel", "hash", "J", false)
def tyX11 : Nat → FieldType := fun k => match k with
  | 0 => .array .int
  | 1 => .array .int
  | 2 => .int
  | 3 => .array .int
  | 4 => .int
  | 5 => .array .int
  | 6 => .boolean
  | 7 => .array .int
  | 8 => .int
  | 9 => .array .int
  | 10 => .int
  | 11 => .array .int
  | 12 => .int
  | 13 => .array .int
  | 14 => .array .int
  | 15 => .int
  | 16 => .int
  | 17 => .int
  | 18 => .int
  | 19 => .int
  | 20 => .int
  | 21 => .array .int
  | 22 => .int
  | 23 => .array .int
  | 24 => .array .int
  | 25 => .array .int
  | 26 => .array .int
  | 27 => .array .int
  | 28 => .array .int
  | 29 => .array .int
  | 30 => .array .int
  | 31 => .int
  | 32 => .int
  | 33 => .int
  | 34 => .int
  | 35 => .array .long
  | 36 => .array .int
  | 37 => .array .int
  | 38 => .array .int
  | 39 => .array .int
  | 40 => .array .int
  | 41 => .int
  | 42 => .array .int
  | 43 => .array .int
  | _ => .long
theorem nmX11 : ∀ a, a < 45 → ∀ b, b < 45 → a ≠ b → (TX11 a).2.1 ≠ (TX11 b).2.1 := by decide +kernel
theorem tyX11_ok : ∀ k, k < 45 → parseFieldDescriptor (TX11 k).2.2.1 = some (tyX11 k) := by decide +kernel
abbrev cX11_init : ByteArray := prog_13_method_1_code
def yX11_init : MethodName := ⟨RX11, "<init>", "()V"⟩
abbrev cX11_in : ByteArray := prog_13_method_2_code
def yX11_in : MethodName := ⟨RX11, "in", "(JJJ)Z"⟩
abbrev cX11_less : ByteArray := prog_13_method_3_code
def yX11_less : MethodName := ⟨RX11, "less", "(II)I"⟩
abbrev cX11_size : ByteArray := prog_13_method_4_code
def yX11_size : MethodName := ⟨RX11, "size", "()I"⟩
abbrev cX11_isPresent : ByteArray := prog_13_method_5_code
def yX11_isPresent : MethodName := ⟨RX11, "isPresent", "(I)Z"⟩
abbrev cX11_templateOf : ByteArray := prog_13_method_6_code
def yX11_templateOf : MethodName := ⟨RX11, "templateOf", "(I)I"⟩
abbrev cX11_offsetOf : ByteArray := prog_13_method_7_code
def yX11_offsetOf : MethodName := ⟨RX11, "offsetOf", "(I)I"⟩
abbrev cX11_moves : ByteArray := prog_13_method_8_code
def yX11_moves : MethodName := ⟨RX11, "moves", "(II)V"⟩
abbrev cX11_type : ByteArray := prog_13_method_9_code
def yX11_type : MethodName := ⟨RX11, "type", "(I)I"⟩
abbrev cX11_clearText : ByteArray := prog_13_method_10_code
def yX11_clearText : MethodName := ⟨RX11, "clearText", "()I"⟩
abbrev cX11_next : ByteArray := prog_13_method_11_code
def yX11_next : MethodName := ⟨RX11, "next", "()I"⟩
abbrev cX11_blanks : ByteArray := prog_13_method_12_code
def yX11_blanks : MethodName := ⟨RX11, "blanks", "()V"⟩
abbrev cX11_faults : ByteArray := prog_13_method_13_code
def yX11_faults : MethodName := ⟨RX11, "faults", "(I)V"⟩
abbrev cX11_takes : ByteArray := prog_13_method_14_code
def yX11_takes : MethodName := ⟨RX11, "takes", "(I)Z"⟩
abbrev cX11_expects : ByteArray := prog_13_method_15_code
def yX11_expects : MethodName := ⟨RX11, "expects", "(I)V"⟩
abbrev cX11_number : ByteArray := prog_13_method_16_code
def yX11_number : MethodName := ⟨RX11, "number", "()I"⟩
abbrev cX11_blanksBehindNumber : ByteArray := prog_13_method_17_code
def yX11_blanksBehindNumber : MethodName := ⟨RX11, "blanksBehindNumber", "()V"⟩
abbrev cX11_name : ByteArray := prog_13_method_18_code
def yX11_name : MethodName := ⟨RX11, "name", "()I"⟩
abbrev cX11_of : ByteArray := prog_13_method_19_code
def yX11_of : MethodName := ⟨RX11, "of", "(III)I"⟩
abbrev cX11_readOf : ByteArray := prog_13_method_20_code
def yX11_readOf : MethodName := ⟨RX11, "readOf", "(II)I"⟩
abbrev cX11_writes : ByteArray := prog_13_method_21_code
def yX11_writes : MethodName := ⟨RX11, "writes", "(III)V"⟩
abbrev cX11_inBlock : ByteArray := prog_13_method_22_code
def yX11_inBlock : MethodName := ⟨RX11, "inBlock", "(III)I"⟩
abbrev cX11_named : ByteArray := prog_13_method_23_code
def yX11_named : MethodName := ⟨RX11, "named", "(II)I"⟩
abbrev cX11_integerNamed : ByteArray := prog_13_method_24_code
def yX11_integerNamed : MethodName := ⟨RX11, "integerNamed", "(I)I"⟩
abbrev cX11_readsCount : ByteArray := prog_13_method_25_code
def yX11_readsCount : MethodName := ⟨RX11, "readsCount", "(I)V"⟩
abbrev cX11_siblingNamed : ByteArray := prog_13_method_26_code
def yX11_siblingNamed : MethodName := ⟨RX11, "siblingNamed", "(I)I"⟩
abbrev cX11_readsCheck : ByteArray := prog_13_method_27_code
def yX11_readsCheck : MethodName := ⟨RX11, "readsCheck", "(II)V"⟩
abbrev cX11_readsInteger : ByteArray := prog_13_method_28_code
def yX11_readsInteger : MethodName := ⟨RX11, "readsInteger", "(I)V"⟩
abbrev cX11_readsType : ByteArray := prog_13_method_29_code
def yX11_readsType : MethodName := ⟨RX11, "readsType", "(I)Z"⟩
abbrev cX11_readsItem : ByteArray := prog_13_method_30_code
def yX11_readsItem : MethodName := ⟨RX11, "readsItem", "()V"⟩
abbrev cX11_readsNamed : ByteArray := prog_13_method_31_code
def yX11_readsNamed : MethodName := ⟨RX11, "readsNamed", "(I)Z"⟩
abbrev cX11_closes : ByteArray := prog_13_method_32_code
def yX11_closes : MethodName := ⟨RX11, "closes", "()V"⟩
abbrev cX11_templateFault : ByteArray := prog_13_method_33_code
def yX11_templateFault : MethodName := ⟨RX11, "templateFault", "()I"⟩
abbrev cX11_define : ByteArray := prog_13_method_34_code
def yX11_define : MethodName := ⟨RX11, "define", "(I)I"⟩
abbrev cX11_items : ByteArray := prog_13_method_35_code
def yX11_items : MethodName := ⟨RX11, "items", "(I)I"⟩
abbrev cX11_halfOf : ByteArray := prog_13_method_36_code
def yX11_halfOf : MethodName := ⟨RX11, "halfOf", "(I)I"⟩
abbrev cX11_patternFault : ByteArray := prog_13_method_37_code
def yX11_patternFault : MethodName := ⟨RX11, "patternFault", "()I"⟩
abbrev cX11_matchesAt : ByteArray := prog_13_method_38_code
def yX11_matchesAt : MethodName := ⟨RX11, "matchesAt", "(I)Z"⟩
abbrev cX11_find : ByteArray := prog_13_method_39_code
def yX11_find : MethodName := ⟨RX11, "find", "(I)I"⟩
abbrev cX11_matches : ByteArray := prog_13_method_40_code
def yX11_matches : MethodName := ⟨RX11, "matches", "()I"⟩
abbrev cX11_read : ByteArray := prog_13_method_41_code
def yX11_read : MethodName := ⟨RX11, "read", "(IIZZ)J"⟩
abbrev cX11_valueOf : ByteArray := prog_13_method_42_code
def yX11_valueOf : MethodName := ⟨RX11, "valueOf", "(I)J"⟩
abbrev cX11_lays : ByteArray := prog_13_method_43_code
def yX11_lays : MethodName := ⟨RX11, "lays", "(III)Z"⟩
abbrev cX11_countOf : ByteArray := prog_13_method_44_code
def yX11_countOf : MethodName := ⟨RX11, "countOf", "(II)I"⟩
abbrev cX11_laysAll : ByteArray := prog_13_method_45_code
def yX11_laysAll : MethodName := ⟨RX11, "laysAll", "(II)V"⟩
abbrev cX11_aligns : ByteArray := prog_13_method_46_code
def yX11_aligns : MethodName := ⟨RX11, "aligns", "(II)V"⟩
abbrev cX11_enters : ByteArray := prog_13_method_47_code
def yX11_enters : MethodName := ⟨RX11, "enters", "(II)V"⟩
abbrev cX11_goesIn : ByteArray := prog_13_method_48_code
def yX11_goesIn : MethodName := ⟨RX11, "goesIn", "()V"⟩
abbrev cX11_passes : ByteArray := prog_13_method_49_code
def yX11_passes : MethodName := ⟨RX11, "passes", "(III)I"⟩
abbrev cX11_laysOut : ByteArray := prog_13_method_50_code
def yX11_laysOut : MethodName := ⟨RX11, "laysOut", "(I)V"⟩
abbrev cX11_expectedOf : ByteArray := prog_13_method_51_code
def yX11_expectedOf : MethodName := ⟨RX11, "expectedOf", "(I)I"⟩
abbrev cX11_adds : ByteArray := prog_13_method_52_code
def yX11_adds : MethodName := ⟨RX11, "adds", "(III)I"⟩
abbrev cX11_isWrong : ByteArray := prog_13_method_53_code
def yX11_isWrong : MethodName := ⟨RX11, "isWrong", "(I)Z"⟩
abbrev cX11_wrongs : ByteArray := prog_13_method_54_code
def yX11_wrongs : MethodName := ⟨RX11, "wrongs", "()I"⟩
abbrev cX11_puts : ByteArray := prog_13_method_55_code
def yX11_puts : MethodName := ⟨RX11, "puts", "(IJ)V"⟩
abbrev cX11_rounds : ByteArray := prog_13_method_56_code
def yX11_rounds : MethodName := ⟨RX11, "rounds", "()Z"⟩
abbrev cX11_updates : ByteArray := prog_13_method_57_code
def yX11_updates : MethodName := ⟨RX11, "updates", "()I"⟩
abbrev cX11_copies : ByteArray := prog_13_method_58_code
def yX11_copies : MethodName := ⟨RX11, "copies", "([II[II)V"⟩
abbrev cX11_keeps : ByteArray := prog_13_method_59_code
def yX11_keeps : MethodName := ⟨RX11, "keeps", "()V"⟩
abbrev cX11_stays : ByteArray := prog_13_method_60_code
def yX11_stays : MethodName := ⟨RX11, "stays", "(Z)Z"⟩
abbrev cX11_length : ByteArray := prog_13_method_61_code
def yX11_length : MethodName := ⟨RX11, "length", "()I"⟩
abbrev cX11_byteAt : ByteArray := prog_13_method_62_code
def yX11_byteAt : MethodName := ⟨RX11, "byteAt", "(I)I"⟩
abbrev cX11_opens : ByteArray := prog_13_method_63_code
def yX11_opens : MethodName := ⟨RX11, "opens", "(II)V"⟩
abbrev cX11_insert : ByteArray := prog_13_method_64_code
def yX11_insert : MethodName := ⟨RX11, "insert", "(III)I"⟩
abbrev cX11_delete : ByteArray := prog_13_method_65_code
def yX11_delete : MethodName := ⟨RX11, "delete", "(II)I"⟩
abbrev cX11_overwrite : ByteArray := prog_13_method_66_code
def yX11_overwrite : MethodName := ⟨RX11, "overwrite", "(II)I"⟩
abbrev cX11_copy : ByteArray := prog_13_method_67_code
def yX11_copy : MethodName := ⟨RX11, "copy", "(II)I"⟩
abbrev cX11_paste : ByteArray := prog_13_method_68_code
def yX11_paste : MethodName := ⟨RX11, "paste", "(I)I"⟩
abbrev cX11_pasteOver : ByteArray := prog_13_method_69_code
def yX11_pasteOver : MethodName := ⟨RX11, "pasteOver", "(I)I"⟩
abbrev cX11_lay : ByteArray := prog_13_method_70_code
def yX11_lay : MethodName := ⟨RX11, "lay", "(III)I"⟩
abbrev cX11_remove : ByteArray := prog_13_method_71_code
def yX11_remove : MethodName := ⟨RX11, "remove", "(I)I"⟩
abbrev cX11_overlay : ByteArray := prog_13_method_72_code
def yX11_overlay : MethodName := ⟨RX11, "overlay", "(II)I"⟩
abbrev cX11_hasField : ByteArray := prog_13_method_73_code
def yX11_hasField : MethodName := ⟨RX11, "hasField", "(II)Z"⟩
abbrev cX11_partOf : ByteArray := prog_13_method_74_code
def yX11_partOf : MethodName := ⟨RX11, "partOf", "(II)I"⟩
abbrev cX11_field : ByteArray := prog_13_method_75_code
def yX11_field : MethodName := ⟨RX11, "field", "(III)I"⟩
abbrev cX11_value : ByteArray := prog_13_method_76_code
def yX11_value : MethodName := ⟨RX11, "value", "(II)J"⟩
abbrev cX11_path : ByteArray := prog_13_method_77_code
def yX11_path : MethodName := ⟨RX11, "path", "(III)I"⟩
abbrev cX11_fieldAt : ByteArray := prog_13_method_78_code
def yX11_fieldAt : MethodName := ⟨RX11, "fieldAt", "(II)I"⟩
abbrev cX11_counterpart : ByteArray := prog_13_method_79_code
def yX11_counterpart : MethodName := ⟨RX11, "counterpart", "(III)I"⟩
abbrev cX11_fits : ByteArray := prog_13_method_80_code
def yX11_fits : MethodName := ⟨RX11, "fits", "(IJ)Z"⟩
abbrev cX11_setField : ByteArray := prog_13_method_81_code
def yX11_setField : MethodName := ⟨RX11, "setField", "(IIJ)I"⟩
abbrev cX11_follow : ByteArray := prog_13_method_82_code
def yX11_follow : MethodName := ⟨RX11, "follow", "(Z)I"⟩
abbrev cX11_refresh : ByteArray := prog_13_method_83_code
def yX11_refresh : MethodName := ⟨RX11, "refresh", "()I"⟩
abbrev cX11_expected : ByteArray := prog_13_method_84_code
def yX11_expected : MethodName := ⟨RX11, "expected", "(II)I"⟩
abbrev cX11_repair : ByteArray := prog_13_method_85_code
def yX11_repair : MethodName := ⟨RX11, "repair", "(II)I"⟩
abbrev cX11_undo : ByteArray := prog_13_method_86_code
def yX11_undo : MethodName := ⟨RX11, "undo", "()I"⟩
abbrev cX11_redo : ByteArray := prog_13_method_87_code
def yX11_redo : MethodName := ⟨RX11, "redo", "()I"⟩
abbrev cX11_mark : ByteArray := prog_13_method_88_code
def yX11_mark : MethodName := ⟨RX11, "mark", "()I"⟩
abbrev cX11_difference : ByteArray := prog_13_method_89_code
def yX11_difference : MethodName := ⟨RX11, "difference", "(I)I"⟩
abbrev cX11_distance : ByteArray := prog_13_method_90_code
def yX11_distance : MethodName := ⟨RX11, "distance", "()I"⟩
abbrev cX11_present : ByteArray := prog_13_method_91_code
def yX11_present : MethodName := ⟨RX11, "present", "()I"⟩
abbrev cX11_allWrong : ByteArray := prog_13_method_92_code
def yX11_allWrong : MethodName := ⟨RX11, "allWrong", "()I"⟩
abbrev cX11_count : ByteArray := prog_13_method_93_code
def yX11_count : MethodName := ⟨RX11, "count", "(I)I"⟩
abbrev cX11_mixes : ByteArray := prog_13_method_94_code
def yX11_mixes : MethodName := ⟨RX11, "mixes", "(J)V"⟩
abbrev cX11_mixesOverlay : ByteArray := prog_13_method_95_code
def yX11_mixesOverlay : MethodName := ⟨RX11, "mixesOverlay", "(I)V"⟩
abbrev cX11_digest : ByteArray := prog_13_method_96_code
def yX11_digest : MethodName := ⟨RX11, "digest", "()J"⟩
def RJ9 : String := "java/lang/Math"
def TJ9 : u_T := fun k => match k with
  | _ => ("", "", "", false)
def tyJ9 : Nat → FieldType := fun k => match k with
  | _ => .int
abbrev cJ9_floorMod_7cf53 : ByteArray := prog_14_method_50_code
def yJ9_floorMod_7cf53 : MethodName := ⟨RJ9, "floorMod", "(II)I"⟩
abbrev cJ9_max_7cf53 : ByteArray := prog_14_method_65_code
def yJ9_max_7cf53 : MethodName := ⟨RJ9, "max", "(II)I"⟩
abbrev cJ9_max_f86c9 : ByteArray := prog_14_method_66_code
def yJ9_max_f86c9 : MethodName := ⟨RJ9, "max", "(JJ)J"⟩
abbrev cJ9_min_7cf53 : ByteArray := prog_14_method_69_code
def yJ9_min_7cf53 : MethodName := ⟨RJ9, "min", "(II)I"⟩
abbrev cJ9_min_f86c9 : ByteArray := prog_14_method_70_code
def yJ9_min_f86c9 : MethodName := ⟨RJ9, "min", "(JJ)J"⟩
def RJ10 : String := "java/lang/System"
def TJ10 : u_T := fun k => match k with
  | _ => ("", "", "", false)
def tyJ10 : Nat → FieldType := fun k => match k with
  | _ => .int
def RL : String := "StructureEditorLaw"
abbrev cL_law : ByteArray := code
def yL_law : MethodName := ⟨RL, "law", "([I)Z"⟩
/-- the cells in the order of their making: (sort, slots); sort 0 int[], 1 long[], 2 Document[], 3 Template[], 4 Item[], 5 Field[], 100 + c an object of class c -/
def zTL : List (Nat × Nat) := [(110, 12), (100, 2), (0, 120), (100, 2), (0, 32), (100, 2), (0, 200), (102, 3), (100, 2), (0, 200), (0, 4), (0, 4), (104, 4), (2, 13), (102, 3), (100, 2), (0, 200), (0, 4), (0, 4), (102, 3), (100, 2), (0, 200), (0, 4), (0, 4), (102, 3), (100, 2), (0, 200), (0, 4), (0, 4), (102, 3), (100, 2), (0, 200), (0, 4), (0, 4), (102, 3), (100, 2), (0, 200), (0, 4), (0, 4), (102, 3), (100, 2), (0, 200), (0, 4), (0, 4), (102, 3), (100, 2), (0, 200), (0, 4), (0, 4), (102, 3), (100, 2), (0, 200), (0, 4), (0, 4), (102, 3), (100, 2), (0, 200), (0, 4), (0, 4), (102, 3), (100, 2), (0, 200), (0, 4), (0, 4), (102, 3), (100, 2), (0, 200), (0, 4), (0, 4), (102, 3), (100, 2), (0, 200), (0, 4), (0, 4), (102, 3), (100, 2), (0, 200), (0, 4), (0, 4), (3, 4), (108, 2), (4, 24), (105, 13), (105, 13), (105, 13), (105, 13), (105, 13), (105, 13), (105, 13), (105, 13), (105, 13), (105, 13), (105, 13), (105, 13), (105, 13), (105, 13), (105, 13), (105, 13), (105, 13), (105, 13), (105, 13), (105, 13), (105, 13), (105, 13), (105, 13), (105, 13), (108, 2), (4, 24), (105, 13), (105, 13), (105, 13), (105, 13), (105, 13), (105, 13), (105, 13), (105, 13), (105, 13), (105, 13), (105, 13), (105, 13), (105, 13), (105, 13), (105, 13), (105, 13), (105, 13), (105, 13), (105, 13), (105, 13), (105, 13), (105, 13), (105, 13), (105, 13), (108, 2), (4, 24), (105, 13), (105, 13), (105, 13), (105, 13), (105, 13), (105, 13), (105, 13), (105, 13), (105, 13), (105, 13), (105, 13), (105, 13), (105, 13), (105, 13), (105, 13), (105, 13), (105, 13), (105, 13), (105, 13), (105, 13), (105, 13), (105, 13), (105, 13), (105, 13), (108, 2), (4, 24), (105, 13), (105, 13), (105, 13), (105, 13), (105, 13), (105, 13), (105, 13), (105, 13), (105, 13), (105, 13), (105, 13), (105, 13), (105, 13), (105, 13), (105, 13), (105, 13), (105, 13), (105, 13), (105, 13), (105, 13), (105, 13), (105, 13), (105, 13), (105, 13), (108, 2), (4, 24), (105, 13), (105, 13), (105, 13), (105, 13), (105, 13), (105, 13), (105, 13), (105, 13), (105, 13), (105, 13), (105, 13), (105, 13), (105, 13), (105, 13), (105, 13), (105, 13), (105, 13), (105, 13), (105, 13), (105, 13), (105, 13), (105, 13), (105, 13), (105, 13), (109, 5), (107, 3), (0, 16), (0, 16), (106, 14), (5, 60), (103, 8), (0, 4), (103, 8), (0, 4), (103, 8), (0, 4), (103, 8), (0, 4), (103, 8), (0, 4), (103, 8), (0, 4), (103, 8), (0, 4), (103, 8), (0, 4), (103, 8), (0, 4), (103, 8), (0, 4), (103, 8), (0, 4), (103, 8), (0, 4), (103, 8), (0, 4), (103, 8), (0, 4), (103, 8), (0, 4), (103, 8), (0, 4), (103, 8), (0, 4), (103, 8), (0, 4), (103, 8), (0, 4), (103, 8), (0, 4), (103, 8), (0, 4), (103, 8), (0, 4), (103, 8), (0, 4), (103, 8), (0, 4), (103, 8), (0, 4), (103, 8), (0, 4), (103, 8), (0, 4), (103, 8), (0, 4), (103, 8), (0, 4), (103, 8), (0, 4), (103, 8), (0, 4), (103, 8), (0, 4), (103, 8), (0, 4), (103, 8), (0, 4), (103, 8), (0, 4), (103, 8), (0, 4), (103, 8), (0, 4), (103, 8), (0, 4), (103, 8), (0, 4), (103, 8), (0, 4), (103, 8), (0, 4), (103, 8), (0, 4), (103, 8), (0, 4), (103, 8), (0, 4), (103, 8), (0, 4), (103, 8), (0, 4), (103, 8), (0, 4), (103, 8), (0, 4), (103, 8), (0, 4), (103, 8), (0, 4), (103, 8), (0, 4), (103, 8), (0, 4), (103, 8), (0, 4), (103, 8), (0, 4), (103, 8), (0, 4), (103, 8), (0, 4), (103, 8), (0, 4), (103, 8), (0, 4), (103, 8), (0, 4), (103, 8), (0, 4), (0, 4), (1, 24), (0, 24), (0, 24), (0, 4), (0, 201), (111, 45), (0, 213), (0, 2556), (0, 2556), (0, 213), (0, 32), (0, 200), (0, 120), (0, 1680), (0, 5), (0, 32), (0, 60), (0, 60), (0, 60), (0, 60), (0, 60), (0, 60), (0, 60), (0, 240), (1, 24), (0, 24), (0, 24), (0, 4), (0, 4), (0, 4), (0, 4), (0, 201)]
def zTAU (a : Nat) : Nat × Nat := match a with
  | 0 => (99, 0)
  | k + 1 => zTL.getD k (99, 0)
def zcl : List vw_C := [(RX0, TX0, 2), (RX1, TX1, 0), (RX2, TX2, 3), (RX3, TX3, 8), (RX4, TX4, 4), (RX5, TX5, 13), (RX6, TX6, 14), (RX7, TX7, 3), (RX8, TX8, 2), (RX9, TX9, 5), (RX10, TX10, 12), (RX11, TX11, 45)]
def zty (c : Nat) : Nat → FieldType := match c with
  | 0 => tyX0
  | 1 => tyX1
  | 2 => tyX2
  | 3 => tyX3
  | 4 => tyX4
  | 5 => tyX5
  | 6 => tyX6
  | 7 => tyX7
  | 8 => tyX8
  | 9 => tyX9
  | 10 => tyX10
  | 11 => tyX11
  | _ => fun _ => .int
def zN (c : Nat) : Nat := match c with
  | 0 => 2
  | 1 => 0
  | 2 => 3
  | 3 => 8
  | 4 => 4
  | 5 => 13
  | 6 => 14
  | 7 => 3
  | 8 => 2
  | 9 => 5
  | 10 => 12
  | 11 => 45
  | _ => 0
end
section
/-! The small machine: ints and longs are whole numbers in their range, cells are numbered from 1 on, a heap is three tables (ints, longs, references; 0 is null). -/
/-- the tables' words that hold at every later state of the tables -/
def zgw : List Cond := lw_tbl.filter goodWord
theorem zgw_of {w : Cond} (i : Nat) (h : lw_tbl[i]? = some w) (hg : goodWord w = true) : w ∈ zgw := List.mem_filter.mpr ⟨List.mem_of_getElem? h, hg⟩
theorem zgw_good : GoodIn zgw zgw := fun w hw => ⟨hw, good_of_word (List.mem_filter.mp hw).2⟩
abbrev zHp : Type := (Nat → Nat → Int) × (Nat → Nat → Int) × (Nat → Nat → Nat)
abbrev zG : Type := Launch × Nat × va_G × (Nat → ClassId)
abbrev zM : Type := MethodName × ByteArray × Nat × Option FieldType
abbrev zV : Type := Int ⊕ Int ⊕ Nat
abbrev vI (z : Int) : zV := .inl z
abbrev vL (z : Int) : zV := .inr (.inl z)
abbrev vR (a : Nat) : zV := .inr (.inr a)
def zII (z : Int) : Prop := -2147483648 ≤ z ∧ z ≤ 2147483647
def zIL (z : Int) : Prop := -9223372036854775808 ≤ z ∧ z ≤ 9223372036854775807
def zv (B : Nat) : zV → Value
  | .inl z => .int (Int32.ofInt z)
  | .inr (.inl z) => .long (Int64.ofInt z)
  | .inr (.inr a) => .ref (B + a)
def zok : zV → Prop
  | .inl z => zII z
  | .inr (.inl z) => zIL z
  | .inr (.inr _) => True
def zcat : zV → Nat
  | .inr (.inl _) => 2
  | _ => 1
theorem zcat_v (B : Nat) (v : zV) : (zv B v).category = zcat v := by
  rcases v with z | z | a <;> rfl
def zrO (B r : Nat) : Option Nat := if r = 0 then none else some (B + r)
def zfv (B : Nat) (h : zHp) (a : Nat) (t : FieldType) (j : Nat) : Value := match t with
  | .long => .long (Int64.ofInt (h.2.1 a j))
  | .object _ => va_rf (zrO B (h.2.2 a j))
  | .array _ => va_rf (zrO B (h.2.2 a j))
  | _ => .int (Int32.ofInt (h.1 a j))
def zfl (B : Nat) (h : zHp) (a c : Nat) : List Value := (List.range (zN c)).map (fun j => zfv B h a (zty c j) j)
def zent (G : zG) (h : zHp) (a : Nat) (t : Nat × Nat) : va_E :=
  if t.1 = 0 then .inl (G.2.2.2 0, t.2, .inl (fun j => Int32.ofInt (h.1 a j)))
  else if t.1 = 1 then .inl (G.2.2.2 1, t.2, .inr (.inl (fun j => Int64.ofInt (h.2.1 a j))))
  else if t.1 < 100 then .inl (G.2.2.2 t.1, t.2, .inr (.inr (.inr (.inr (fun j => zrO G.2.1 (h.2.2 a j))))))
  else .inr (t.1 - 100, zfl G.2.1 h a (t.1 - 100))
def zl (G : zG) (n : Nat) (h : zHp) : va_W := (List.range n).map (fun k => (G.2.1 + (k + 1), zent G h (k + 1) (zTAU (k + 1))))
def zT (n a : Nat) : Nat × Nat := if 1 ≤ a ∧ a ≤ n then zTAU a else (99, 0)
def zSL : Nat → Nat
  | 0 => 0
  | n + 1 => zSL n + (zTAU (n + 1)).2
theorem zSL_le {a b : Nat} (h : a ≤ b) : zSL a ≤ zSL b := by
  induction b with
  | zero => rw [show a = 0 by omega]; exact Nat.le_refl _
  | succ b ih =>
    by_cases e : a = b + 1
    · subst e; exact Nat.le_refl _
    · exact Nat.le_trans (ih (by omega)) (Nat.le_add_right _ _)
theorem zT_in {n a c : Nat} (h : (zT n a).1 = c) (hc : c ≠ 99) : 1 ≤ a ∧ a ≤ n ∧ zT n a = zTAU a := by
  unfold zT at h ⊢
  split at h
  · rename_i q; exact ⟨q.1, q.2, by rw [if_pos q]⟩
  · exact absurd h.symm hc
theorem zl_get {G : zG} {n a : Nat} {h : zHp} (h1 : 1 ≤ a) (h2 : a ≤ n) : (zl G n h)[a - 1]? = some (G.2.1 + a, zent G h a (zTAU a)) := by
  obtain ⟨k, rfl⟩ : ∃ k, a = k + 1 := ⟨a - 1, by omega⟩
  rw [zl, List.getElem?_map, List.getElem?_range (by omega)]
  rfl
theorem zl_lt {G : zG} {n k : Nat} {h : zHp} {q : Nat × va_E} (hq : (zl G n h)[k]? = some q) : k < n ∧ q = (G.2.1 + (k + 1), zent G h (k + 1) (zTAU (k + 1))) := by
  rw [zl, List.getElem?_map] at hq
  by_cases hk : k < n
  · rw [List.getElem?_range hk] at hq
    exact ⟨hk, (Option.some.inj hq).symm⟩
  · rw [List.getElem?_eq_none (by simp; omega)] at hq
    cases hq
def zA (G : zG) : Nat → Prop := fun q => G.2.1 < q
theorem zD (G : zG) (n : Nat) (h : zHp) : va_D (zA G) (zl G n h) := by
  refine ⟨fun i j p q hp hq e => ?_, fun k q hq => ?_⟩
  · obtain ⟨-, rfl⟩ := zl_lt hp
    obtain ⟨-, rfl⟩ := zl_lt hq
    simp only at e
    omega
  · obtain ⟨-, rfl⟩ := zl_lt hq
    show G.2.1 < G.2.1 + (k + 1)
    omega
theorem zl_set {G : zG} {n a : Nat} {h h' : zHp} (h1 : 1 ≤ a) (h2 : a ≤ n) (ho : ∀ b, b ≠ a → zent G h' b (zTAU b) = zent G h b (zTAU b)) :
    (zl G n h).set (a - 1) (G.2.1 + a, zent G h' a (zTAU a)) = zl G n h' := by
  apply List.ext_getElem?
  intro k
  obtain ⟨j, rfl⟩ : ∃ j, a = j + 1 := ⟨a - 1, by omega⟩
  rw [List.getElem?_set]
  by_cases hk : j + 1 - 1 = k
  · rw [if_pos hk]
    have hk' : k = j := by omega
    subst hk'
    have hl : (zl G n h).length = n := by simp [zl]
    rw [if_pos (by rw [hl]; omega)]
    exact (zl_get (a := k + 1) (by omega) h2).symm
  · rw [if_neg hk]
    by_cases hn : k < n
    · have e1 := zl_get (G := G) (n := n) (h := h) (a := k + 1) (by omega) (by omega)
      have e2 := zl_get (G := G) (n := n) (h := h') (a := k + 1) (by omega) (by omega)
      rw [show k + 1 - 1 = k by omega] at e1 e2
      rw [e1, e2, ho (k + 1) (by omega)]
    · rw [List.getElem?_eq_none (by simp [zl]; omega), List.getElem?_eq_none (by simp [zl]; omega)]
theorem zl_push {G : zG} {n : Nat} {h : zHp} : zl G (n + 1) h = zl G n h ++ [(G.2.1 + (n + 1), zent G h (n + 1) (zTAU (n + 1)))] := by
  simp [zl, List.range_succ]
def zZ (n : Nat) (h : zHp) : Prop := ∀ a, n < a → ∀ i, h.1 a i = 0 ∧ h.2.1 a i = 0 ∧ h.2.2 a i = 0
def zRg (h : zHp) : Prop := ∀ a i, zII (h.1 a i) ∧ zIL (h.2.1 a i)
def ztys (G : zG) : List (ClassId × FieldType) := [(G.2.2.2 0, .int), (G.2.2.2 1, .long), (G.2.2.2 2, .object RX2), (G.2.2.2 3, .object RX8), (G.2.2.2 4, .object RX5), (G.2.2.2 5, .object RX3)]
def zHe (G : zG) (n : Nat) (h : zHp) (H : Heap) : Prop := va_P G.2.2.1 zcl (zl G n h) H ∧ H.size = G.2.1 + n + 1 ∧ zZ n h ∧ zRg h
def zH (G : zG) (n0 n : Nat) (h : zHp) (s : State) (H : Heap) (locs : List Loc) : Prop := zHe G n h H ∧ va_S (zA G) s.heap H locs ∧ s.heap.size = G.2.1 + n0 + 1
/-- what the tables say of the classes, of arrays of references, and of the private constructor that a nest mate calls -/
def zKx (G : zG) (s : State) : Prop := va_K G.2.2.1 zcl (ztys G) s ∧ (va_AO RX2 s ∧ va_AO RX8 s ∧ va_AO RX5 s ∧ va_AO RX3 s) ∧ va_Nw (.methodLinkNest RX8 15 yX5_init RX10) s
def zX (G : zG) (X : Array Value → State → Prop) (M : zM) (p : Program) (s : State) (m : MethodId) (args : Array Value) (meth : Method) (c : Code) : Prop :=
  p.tables.exec = Jvm.exec ∧ c.code = M.2.1 ∧ meth.sig.returnType = M.2.2.2 ∧ meth.locks = false ∧ c.maxLocals = M.2.2.1 ∧ s.vm.findClass M.1.cls = some m.cls ∧ (∀ w ∈ zgw, w.before args s = true) ∧ meth.name = M.1.name ∧ zKx G s ∧ X args s
abbrev zLs : Type := List (Nat × zV)
def zlm (B : Nat) (ls : zLs) : List (Nat × Value) := ls.map (fun q => (q.1, zv B q.2))
/-- the machine at an instruction of method M: from every real state that holds this picture it comes to an end that Z allows -/
def wq (G : zG) (R : Room) (Z : List Frame → Array Value → State → State → Prop) (X : Array Value → State → Prop) (M : zM) (n0 n pc : Nat) (ls : zLs) (st : List zV) (h : zHp) : Prop :=
  ∀ (p : Program) (e : Env) (s : State) (m : MethodId) (args : Array Value) (below : List Frame) (meth : Method) (c : Code) (H : Heap) (locs : List Loc) (lr : Array Slot),
    zX G X M p s m args meth c → zH G n0 n h s H locs → lv_has lr M.2.2.1 (zlm G.2.1 ls) → n0 ≤ n → (∀ q ∈ ls, zok q.2) → (∀ v ∈ st, zok v) →
    W p G.1 e R s m args below meth c H locs (n - n0) (zSL n - zSL n0) (Z below args s) (F0 m pc lr (st.map (zv G.2.1)))
def zRm (d n0 nE : Nat) : Room := { frames := d, cells := nE - n0, slots := zSL nE - zSL n0, locals := 100 * d }
def zQc (G : zG) (nE : Nat) (Q : Option zV → zHp → Prop) : Array Value → State → Outcome → State → Prop := fun _ st o t =>
  ∃ (v : Option zV) (h' : zHp), o = .returned (v.map (zv G.2.1)) ∧ Q v h' ∧ (∀ x ∈ v.toList, zok x) ∧ zHe G nE h' t.heap ∧ va_F (zA G) st t
def zFin (G : zG) (n0 nE : Nat) (Q : Option zV → zHp → Prop) : List Frame → Array Value → State → State → Prop := fun below args s =>
  MQ below (zQc G nE Q) args s (nE - n0) (zSL nE - zSL n0) (zA G)
abbrev wp (G : zG) (d n0 nE : Nat) (M : zM) (n pc : Nat) (ls : zLs) (st : List zV) (h : zHp) (Q : Option zV → zHp → Prop) : Prop :=
  wq G (zRm d n0 nE) (zFin G n0 nE Q) (fun _ _ => True) M n0 n pc ls st h
end
section
theorem zi_of {z : Int} (h : zII z) : (Int32.ofInt z).toInt = z := by
  have h1 := h.1
  have h2 := h.2
  rw [Int32.toInt_ofInt]
  show z.bmod (2 ^ 32) = z
  rw [Int.bmod_eq_of_le (by omega) (by omega)]
theorem zl_of {z : Int} (h : zIL z) : (Int64.ofInt z).toInt = z := by
  have h1 := h.1
  have h2 := h.2
  rw [Int64.toInt_ofInt]
  show z.bmod (2 ^ 64) = z
  rw [Int.bmod_eq_of_le (by omega) (by omega)]
theorem zi_rng (x : Int32) : zII x.toInt := by
  have h1 := Int32.le_toInt x
  have h2 := Int32.toInt_lt x
  exact ⟨by omega, by omega⟩
theorem zl_rng (x : Int64) : zIL x.toInt := by
  have h1 := Int64.le_toInt x
  have h2 := Int64.toInt_lt x
  exact ⟨by omega, by omega⟩
theorem zi_lt {x y : Int} (hx : zII x) (hy : zII y) : Int32.ofInt x < Int32.ofInt y ↔ x < y := by rw [Int32.lt_iff_toInt_lt, zi_of hx, zi_of hy]
theorem zi_le {x y : Int} (hx : zII x) (hy : zII y) : Int32.ofInt x ≤ Int32.ofInt y ↔ x ≤ y := by rw [Int32.le_iff_toInt_le, zi_of hx, zi_of hy]
theorem zi_eq {x y : Int} (hx : zII x) (hy : zII y) : Int32.ofInt x = Int32.ofInt y ↔ x = y := by rw [← Int32.toInt_inj, zi_of hx, zi_of hy]
theorem zl_lt' {x y : Int} (hx : zIL x) (hy : zIL y) : Int64.ofInt x < Int64.ofInt y ↔ x < y := by rw [Int64.lt_iff_toInt_lt, zl_of hx, zl_of hy]
theorem zl_eq {x y : Int} (hx : zIL x) (hy : zIL y) : Int64.ofInt x = Int64.ofInt y ↔ x = y := by rw [← Int64.toInt_inj, zl_of hx, zl_of hy]
theorem zII0 : zII 0 := ⟨by omega, by omega⟩
theorem zi_0 : Int32.ofInt 0 = 0 := rfl
theorem zi_lt0 {x : Int} (hx : zII x) : Int32.ofInt x < 0 ↔ x < 0 := by rw [← zi_0]; exact zi_lt hx zII0
theorem zi_le0 {x : Int} (hx : zII x) : Int32.ofInt x ≤ 0 ↔ x ≤ 0 := by rw [← zi_0]; exact zi_le hx zII0
theorem zi_ge0 {x : Int} (hx : zII x) : 0 ≤ Int32.ofInt x ↔ 0 ≤ x := by rw [← zi_0]; exact zi_le zII0 hx
theorem zi_gt0 {x : Int} (hx : zII x) : 0 < Int32.ofInt x ↔ 0 < x := by rw [← zi_0]; exact zi_lt zII0 hx
theorem zi_eq0 {x : Int} (hx : zII x) : Int32.ofInt x = 0 ↔ x = 0 := by rw [← zi_0]; exact zi_eq hx zII0
theorem zi_nat {x : Int} (hx : zII x) : (Int32.ofInt x).toNatClampNeg = x.toNat := by
  show (Int32.ofInt x).toInt.toNat = _
  rw [zi_of hx]
theorem zi_in {x : Int} {n : Nat} (hx : zII x) (h0 : 0 ≤ x) (h1 : x < n) : vp_in (Int32.ofInt x) n := by
  rw [vp_in_iff, zi_of hx]
  exact ⟨h0, h1⟩
def zxor (x y : Int) : Int := (Int32.ofInt x ^^^ Int32.ofInt y).toInt
def zand (x y : Int) : Int := (Int32.ofInt x &&& Int32.ofInt y).toInt
def zandL (x y : Int) : Int := (Int64.ofInt x &&& Int64.ofInt y).toInt
def zorL (x y : Int) : Int := (Int64.ofInt x ||| Int64.ofInt y).toInt
def zshl (x y : Int) : Int := (Int64.ofInt x <<< ((Int32.ofInt y).toInt64 &&& 63)).toInt
def zshr (x y : Int) : Int := (Int64.ofInt x >>> ((Int32.ofInt y).toInt64 &&& 63)).toInt
def w32 (z : Int) : Int := z.bmod (2 ^ 32)
def w64 (z : Int) : Int := z.bmod (2 ^ 64)
theorem w32_of {z : Int} (h : zII z) : w32 z = z := by
  unfold w32
  rw [Int.bmod_eq_of_le (by have := h.1; omega) (by have := h.2; omega)]
theorem w64_of {z : Int} (h : zIL z) : w64 z = z := by
  unfold w64
  rw [Int.bmod_eq_of_le (by have := h.1; omega) (by have := h.2; omega)]
theorem w32_I (z : Int) : Int32.ofInt (w32 z) = Int32.ofInt z := by
  apply Int32.toInt_inj.mp
  rw [Int32.toInt_ofInt, Int32.toInt_ofInt, w32, Int.bmod_bmod]
theorem w64_L (z : Int) : Int64.ofInt (w64 z) = Int64.ofInt z := by
  apply Int64.toInt_inj.mp
  rw [Int64.toInt_ofInt, Int64.toInt_ofInt, w64, Int.bmod_bmod]
theorem w32_r (z : Int) : zII (w32 z) := by
  have h := zi_rng (Int32.ofInt z)
  rw [Int32.toInt_ofInt] at h
  exact h
theorem w64_r (z : Int) : zIL (w64 z) := by
  have h := zl_rng (Int64.ofInt z)
  rw [Int64.toInt_ofInt] at h
  exact h
theorem zi_back (x : Int32) : Int32.ofInt x.toInt = x := Int32.ofInt_toInt x
theorem zl_back (x : Int64) : Int64.ofInt x.toInt = x := Int64.ofInt_toInt x
theorem z_tdiv {x y : Int} (h0 : 0 < y) : (0 ≤ x → 0 ≤ x.tdiv y ∧ x.tdiv y ≤ x) ∧ (x < 0 → x ≤ x.tdiv y ∧ x.tdiv y ≤ 0) := by
  have h2 : (x.tdiv y).natAbs ≤ x.natAbs := by rw [Int.natAbs_tdiv]; exact Nat.div_le_self _ _
  constructor
  · intro h
    have h3 : 0 ≤ x.tdiv y := Int.tdiv_nonneg h (Int.le_of_lt h0)
    omega
  · intro h
    have h3 : 0 ≤ (-x).tdiv y := Int.tdiv_nonneg (by omega) (Int.le_of_lt h0)
    rw [Int.neg_tdiv] at h3
    omega
theorem zi_div {x y : Int} (hx : zII x) (hy : zII y) (h0 : 0 < y) : Int32.ofInt x / Int32.ofInt y = Int32.ofInt (x.tdiv y) ∧ zII (x.tdiv y) := by
  have e : (Int32.ofInt x / Int32.ofInt y).toInt = (x.tdiv y).bmod (2 ^ 32) := by rw [Int32.toInt_div, zi_of hx, zi_of hy]
  have hr : zII (x.tdiv y) := by
    have h2 := z_tdiv (x := x) h0
    have := hx.1
    have := hx.2
    exact ⟨by omega, by omega⟩
  refine ⟨?_, hr⟩
  apply Int32.toInt_inj.mp
  rw [e, Int32.toInt_ofInt]
theorem zl_div {x y : Int} (hx : zIL x) (hy : zIL y) (h0 : 0 < y) : Int64.ofInt x / Int64.ofInt y = Int64.ofInt (x.tdiv y) ∧ zIL (x.tdiv y) := by
  have e : (Int64.ofInt x / Int64.ofInt y).toInt = (x.tdiv y).bmod (2 ^ 64) := by rw [Int64.toInt_div, zl_of hx, zl_of hy]
  have hr : zIL (x.tdiv y) := by
    have h2 := z_tdiv (x := x) h0
    have := hx.1
    have := hx.2
    exact ⟨by omega, by omega⟩
  refine ⟨?_, hr⟩
  apply Int64.toInt_inj.mp
  rw [e, Int64.toInt_ofInt]
theorem zi_rem {x y : Int} (hx : zII x) (hy : zII y) (h0 : 0 < y) : Int32.ofInt x - Int32.ofInt x / Int32.ofInt y * Int32.ofInt y = Int32.ofInt (x.tmod y) ∧ zII (x.tmod y) := by
  have hd := (zi_div hx hy h0).1
  have hr : zII (x.tmod y) := by
    have h2 : (x.tmod y).natAbs ≤ x.natAbs := by rw [Int.natAbs_tmod]; exact Nat.mod_le _ _
    have h3 : 0 ≤ x → 0 ≤ x.tmod y := fun h => Int.tmod_nonneg y h
    have h4 : x < 0 → 0 ≤ (-x).tmod y := fun h => Int.tmod_nonneg y (by omega)
    rw [Int.neg_tmod] at h4
    have := hx.1
    have := hx.2
    exact ⟨by omega, by omega⟩
  refine ⟨?_, hr⟩
  rw [hd, ← Int32.ofInt_mul, ← Int32.ofInt_sub, Int.tmod_def, Int.mul_comm]
theorem zi_i2l {x : Int} (hx : zII x) : (Int32.ofInt x).toInt64 = Int64.ofInt x ∧ zIL x := by
  have hl : zIL x := ⟨by have := hx.1; omega, by have := hx.2; omega⟩
  refine ⟨?_, hl⟩
  apply Int64.toInt_inj.mp
  rw [Int32.toInt_toInt64, zi_of hx, zl_of hl]
theorem zl_l2i {x : Int} (hx : zIL x) : (Int64.ofInt x).toInt32 = Int32.ofInt (w32 x) := by
  rw [w32_I]
  apply Int32.toInt_inj.mp
  rw [Int64.toInt_toInt32, zl_of hx, Int32.toInt_ofInt]
theorem zcons {v : zV} {st : List zV} (h : zok v) (hs : ∀ w ∈ st, zok w) : ∀ w ∈ v :: st, zok w := List.forall_mem_cons.mpr ⟨h, hs⟩
theorem zhd {v : zV} {st : List zV} (hs : ∀ w ∈ v :: st, zok w) : zok v := (List.forall_mem_cons.mp hs).1
theorem ztl {v : zV} {st : List zV} (hs : ∀ w ∈ v :: st, zok w) : ∀ w ∈ st, zok w := (List.forall_mem_cons.mp hs).2
theorem zlm_at {B : Nat} {ls : zLs} {lr : Array Slot} {nL : Nat} (h : lv_has lr nL (zlm B ls)) (k : Nat) {i : Nat} {v : zV} (hk : ls[k]? = some (i, v)) : lr[i]? = some (.val (zv B v)) := by
  refine h.2.2 (i, zv B v) ?_
  exact List.mem_map.mpr ⟨(i, v), List.mem_of_getElem? hk, rfl⟩
theorem zls_ok {ls : zLs} (h : ∀ q ∈ ls, zok q.2) {k i : Nat} {v : zV} (hk : ls[k]? = some (i, v)) : zok v := h (i, v) (List.mem_of_getElem? hk)
def zins (q : Nat × zV) : zLs → zLs
  | [] => [q]
  | r :: rs => if q.1 < r.1 then q :: r :: rs else r :: zins q rs
theorem zins_mem {q x : Nat × zV} : ∀ {l : zLs}, x ∈ zins q l → x = q ∨ x ∈ l
  | [], h => by
    rw [zins] at h
    exact Or.inl (List.mem_singleton.mp h)
  | r :: rs, h => by
    rw [zins] at h
    split at h
    · rcases List.mem_cons.mp h with h | h
      · exact Or.inl h
      · exact Or.inr h
    · rcases List.mem_cons.mp h with h | h
      · exact Or.inr (by rw [h]; exact List.mem_cons_self)
      · rcases zins_mem h with h | h
        · exact Or.inl h
        · exact Or.inr (List.mem_cons_of_mem _ h)
def zkeep1 (i : Nat) (ls : zLs) : zLs := ls.filter (fun q => !(q.1 == i) && !(q.1 + 1 == i && zcat q.2 == 2))
def zkeep2 (i : Nat) (ls : zLs) : zLs := ls.filter (fun q => !(q.1 == i) && (!(q.1 == i + 1) && !(q.1 + 1 == i && zcat q.2 == 2)))
def zput1 (i : Nat) (v : zV) (ls : zLs) : zLs := zins (i, v) (zkeep1 i ls)
def zput2 (i : Nat) (v : zV) (ls : zLs) : zLs := zins (i, v) (zkeep2 i ls)
theorem zput1_has {B : Nat} {ls : zLs} {i nL : Nat} {v : zV} {lr : Array Slot} (h : lv_has lr nL ((i, zv B v) :: (zlm B ls).filter (fun q => !(q.1 == i) && !(q.1 + 1 == i && q.2.category == 2)))) : lv_has lr nL (zlm B (zput1 i v ls)) := by
  refine ⟨h.1, h.2.1, fun q hq => h.2.2 q ?_⟩
  obtain ⟨x, hx, rfl⟩ := List.mem_map.mp hq
  rcases zins_mem hx with rfl | hx
  · exact List.mem_cons_self
  · obtain ⟨h1, h2⟩ := List.mem_filter.mp hx
    refine List.mem_cons_of_mem _ (List.mem_filter.mpr ⟨List.mem_map.mpr ⟨x, h1, rfl⟩, ?_⟩)
    simpa [zcat_v] using h2
theorem zput2_has {B : Nat} {ls : zLs} {i nL : Nat} {v : zV} {lr : Array Slot} (h : lv_has lr nL ((i, zv B v) :: (zlm B ls).filter (fun q => !(q.1 == i) && (!(q.1 == i + 1) && !(q.1 + 1 == i && q.2.category == 2))))) : lv_has lr nL (zlm B (zput2 i v ls)) := by
  refine ⟨h.1, h.2.1, fun q hq => h.2.2 q ?_⟩
  obtain ⟨x, hx, rfl⟩ := List.mem_map.mp hq
  rcases zins_mem hx with rfl | hx
  · exact List.mem_cons_self
  · obtain ⟨h1, h2⟩ := List.mem_filter.mp hx
    refine List.mem_cons_of_mem _ (List.mem_filter.mpr ⟨List.mem_map.mpr ⟨x, h1, rfl⟩, ?_⟩)
    simpa [zcat_v] using h2
theorem zput1_ok {ls : zLs} {i : Nat} {v : zV} (h : ∀ q ∈ ls, zok q.2) (hv : zok v) : ∀ q ∈ zput1 i v ls, zok q.2 := by
  intro q hq
  rcases zins_mem hq with rfl | hq
  · exact hv
  · exact h q (List.mem_filter.mp hq).1
theorem zput2_ok {ls : zLs} {i : Nat} {v : zV} (h : ∀ q ∈ ls, zok q.2) (hv : zok v) : ∀ q ∈ zput2 i v ls, zok q.2 := by
  intro q hq
  rcases zins_mem hq with rfl | hq
  · exact hv
  · exact h q (List.mem_filter.mp hq).1
section RULES
variable {G : zG} {R : Room} {Z : List Frame → Array Value → State → State → Prop} {X : Array Value → State → Prop} {M : zM} {n0 n pc : Nat} {ls : zLs} {st : List zV} {h : zHp}
theorem wq_sub {ls' : zLs} (hs : ∀ q ∈ ls', q ∈ ls) (k : wq G R Z X M n0 n pc ls' st h) : wq G R Z X M n0 n pc ls st h := by
  intro p e s m args below meth c H locs lr hX hH hl hn h1 h2
  refine k p e s m args below meth c H locs lr hX hH ⟨hl.1, hl.2.1, fun q hq => hl.2.2 q ?_⟩ hn (fun q hq => h1 q (hs q hq)) h2
  obtain ⟨x, hx, rfl⟩ := List.mem_map.mp hq
  exact List.mem_map.mpr ⟨x, hs x hx, rfl⟩
theorem wq_iconst {z : Int} (hz : zII z) (d : decode M.2.1 pc = .ok (.iconst z, 1)) (k : wq G R Z X M n0 n (pc + 1) ls (vI z :: st) h) : wq G R Z X M n0 n pc ls (st) h := by
  intro p e s m args below meth c H locs lr hX hH hl hn h1 h2
  exact lv_iconst hX.1 hX.2.1 d rfl (k p e s m args below meth c H locs lr hX hH hl hn h1 (zcons hz h2))
theorem wq_bipush {z : Int} (hz : zII z) (e9 : (Int8.ofInt z).toInt32 = Int32.ofInt z) (d : decode M.2.1 pc = .ok (.bipush z, 2)) (k : wq G R Z X M n0 n (pc + 2) ls (vI z :: st) h) : wq G R Z X M n0 n pc ls (st) h := by
  intro p e s m args below meth c H locs lr hX hH hl hn h1 h2
  exact lv_bipush hX.1 hX.2.1 d e9 (k p e s m args below meth c H locs lr hX hH hl hn h1 (zcons hz h2))
theorem wq_sipush {z : Int} (hz : zII z) (e9 : (Int16.ofInt z).toInt32 = Int32.ofInt z) (d : decode M.2.1 pc = .ok (.sipush z, 3)) (k : wq G R Z X M n0 n (pc + 3) ls (vI z :: st) h) : wq G R Z X M n0 n pc ls (st) h := by
  intro p e s m args below meth c H locs lr hX hH hl hn h1 h2
  exact lv_sipush hX.1 hX.2.1 d e9 (k p e s m args below meth c H locs lr hX hH hl hn h1 (zcons hz h2))
theorem wq_lconst {i : Fin 2} {z : Int} (hz : zIL z) (e9 : Int64.ofNat (i : Nat) = Int64.ofInt z) (d : decode M.2.1 pc = .ok (.lconst i, 1)) (k : wq G R Z X M n0 n (pc + 1) ls (vL z :: st) h) : wq G R Z X M n0 n pc ls (st) h := by
  intro p e s m args below meth c H locs lr hX hH hl hn h1 h2
  exact lv_lconst hX.1 hX.2.1 d e9 (k p e s m args below meth c H locs lr hX hH hl hn h1 (zcons hz h2))
theorem wq_ldc {i : Nat} {z : Int} (hz : zII z) (hw : Cond.constant M.1.cls i (Int32.ofInt z) ∈ zgw) (d : decode M.2.1 pc = .ok (.ldc i, 2)) (k : wq G R Z X M n0 n (pc + 2) ls (vI z :: st) h) : wq G R Z X M n0 n pc ls (st) h := by
  intro p e s m args below meth c H locs lr hX hH hl hn h1 h2
  exact lv_ldc hX.1 hX.2.1 hX.2.2.2.2.2.1 (hX.2.2.2.2.2.2.1 _ hw) d (k p e s m args below meth c H locs lr hX hH hl hn h1 (zcons hz h2))
theorem wq_ldc_w {i : Nat} {z : Int} (hz : zII z) (hw : Cond.constant M.1.cls i (Int32.ofInt z) ∈ zgw) (d : decode M.2.1 pc = .ok (.ldc_w i, 3)) (k : wq G R Z X M n0 n (pc + 3) ls (vI z :: st) h) : wq G R Z X M n0 n pc ls (st) h := by
  intro p e s m args below meth c H locs lr hX hH hl hn h1 h2
  exact lv_ldcw hX.1 hX.2.1 hX.2.2.2.2.2.1 (hX.2.2.2.2.2.2.1 _ hw) d (k p e s m args below meth c H locs lr hX hH hl hn h1 (zcons hz h2))
theorem wq_ldc2_w {i : Nat} {z : Int} (hz : zIL z) (hw : Cond.constantLong M.1.cls i (Int64.ofInt z) ∈ zgw) (d : decode M.2.1 pc = .ok (.ldc2_w i, 3)) (k : wq G R Z X M n0 n (pc + 3) ls (vL z :: st) h) : wq G R Z X M n0 n pc ls (st) h := by
  intro p e s m args below meth c H locs lr hX hH hl hn h1 h2
  exact lv_ldc2 hX.1 hX.2.1 hX.2.2.2.2.2.1 (hX.2.2.2.2.2.2.1 _ hw) d (k p e s m args below meth c H locs lr hX hH hl hn h1 (zcons hz h2))
theorem wq_iload_n {i : Fin 4} {j : Nat} {x : Int} (q : Nat) (hj : (i : Nat) = j) (hq : ls[q]? = some (j, vI x)) (d : decode M.2.1 pc = .ok (.iload_n i, 1)) (k : wq G R Z X M n0 n (pc + 1) ls (vI x :: st) h) : wq G R Z X M n0 n pc ls (st) h := by
  intro p e s m args below meth c H locs lr hX hH hl hn h1 h2
  exact lv_iload_n hX.1 hX.2.1 d hj (zlm_at hl q hq) (k p e s m args below meth c H locs lr hX hH hl hn h1 (zcons (zls_ok h1 hq) h2))
theorem wq_iload {j : Nat} {x : Int} (q : Nat) (hq : ls[q]? = some (j, vI x)) (d : decode M.2.1 pc = .ok (.iload j, 2)) (k : wq G R Z X M n0 n (pc + 2) ls (vI x :: st) h) : wq G R Z X M n0 n pc ls (st) h := by
  intro p e s m args below meth c H locs lr hX hH hl hn h1 h2
  exact lv_iload hX.1 hX.2.1 d (zlm_at hl q hq) (k p e s m args below meth c H locs lr hX hH hl hn h1 (zcons (zls_ok h1 hq) h2))
theorem wq_istore_n {j : Nat} {x : Int} {ls' : zLs} {i : Fin 4} (hj : (i : Nat) = j) (hn9 : j < M.2.2.1) (hl9 : zput1 j (vI x) ls = ls') (d : decode M.2.1 pc = .ok (.istore_n i, 1)) (k : wq G R Z X M n0 n (pc + 1) ls' st h) : wq G R Z X M n0 n pc ls (vI x :: st) h := by
  intro p e s m args below meth c H locs lr hX hH hl hn h1 h2
  subst hl9
  exact lv_istore_n hX.1 hX.2.1 d hj hl hn9 rfl (fun lr' hl' => k p e s m args below meth c H locs lr' hX hH (zput1_has (v := vI x) hl') hn (zput1_ok h1 (zhd h2)) (ztl h2))
theorem wq_istore {j : Nat} {x : Int} {ls' : zLs}  (hn9 : j < M.2.2.1) (hl9 : zput1 j (vI x) ls = ls') (d : decode M.2.1 pc = .ok (.istore j, 2)) (k : wq G R Z X M n0 n (pc + 2) ls' st h) : wq G R Z X M n0 n pc ls (vI x :: st) h := by
  intro p e s m args below meth c H locs lr hX hH hl hn h1 h2
  subst hl9
  exact lv_istore hX.1 hX.2.1 d hl hn9 rfl (fun lr' hl' => k p e s m args below meth c H locs lr' hX hH (zput1_has (v := vI x) hl') hn (zput1_ok h1 (zhd h2)) (ztl h2))
theorem wq_lload_n {i : Fin 4} {j : Nat} {x : Int} (q : Nat) (hj : (i : Nat) = j) (hq : ls[q]? = some (j, vL x)) (d : decode M.2.1 pc = .ok (.lload_n i, 1)) (k : wq G R Z X M n0 n (pc + 1) ls (vL x :: st) h) : wq G R Z X M n0 n pc ls (st) h := by
  intro p e s m args below meth c H locs lr hX hH hl hn h1 h2
  exact lv_lload_n hX.1 hX.2.1 d hj (zlm_at hl q hq) (k p e s m args below meth c H locs lr hX hH hl hn h1 (zcons (zls_ok h1 hq) h2))
theorem wq_lload {j : Nat} {x : Int} (q : Nat) (hq : ls[q]? = some (j, vL x)) (d : decode M.2.1 pc = .ok (.lload j, 2)) (k : wq G R Z X M n0 n (pc + 2) ls (vL x :: st) h) : wq G R Z X M n0 n pc ls (st) h := by
  intro p e s m args below meth c H locs lr hX hH hl hn h1 h2
  exact lv_lload hX.1 hX.2.1 d (zlm_at hl q hq) (k p e s m args below meth c H locs lr hX hH hl hn h1 (zcons (zls_ok h1 hq) h2))
theorem wq_lstore_n {j : Nat} {x : Int} {ls' : zLs} {i : Fin 4} (hj : (i : Nat) = j) (hn9 : j + 1 < M.2.2.1) (hl9 : zput2 j (vL x) ls = ls') (d : decode M.2.1 pc = .ok (.lstore_n i, 1)) (k : wq G R Z X M n0 n (pc + 1) ls' st h) : wq G R Z X M n0 n pc ls (vL x :: st) h := by
  intro p e s m args below meth c H locs lr hX hH hl hn h1 h2
  subst hl9
  exact lv_lstore_n hX.1 hX.2.1 d hj hl hn9 rfl (fun lr' hl' => k p e s m args below meth c H locs lr' hX hH (zput2_has (v := vL x) hl') hn (zput2_ok h1 (zhd h2)) (ztl h2))
theorem wq_lstore {j : Nat} {x : Int} {ls' : zLs}  (hn9 : j + 1 < M.2.2.1) (hl9 : zput2 j (vL x) ls = ls') (d : decode M.2.1 pc = .ok (.lstore j, 2)) (k : wq G R Z X M n0 n (pc + 2) ls' st h) : wq G R Z X M n0 n pc ls (vL x :: st) h := by
  intro p e s m args below meth c H locs lr hX hH hl hn h1 h2
  subst hl9
  exact lv_lstore hX.1 hX.2.1 d hl hn9 rfl (fun lr' hl' => k p e s m args below meth c H locs lr' hX hH (zput2_has (v := vL x) hl') hn (zput2_ok h1 (zhd h2)) (ztl h2))
theorem wq_aload_n {i : Fin 4} {j : Nat} {x : Nat} (q : Nat) (hj : (i : Nat) = j) (hq : ls[q]? = some (j, vR x)) (d : decode M.2.1 pc = .ok (.aload_n i, 1)) (k : wq G R Z X M n0 n (pc + 1) ls (vR x :: st) h) : wq G R Z X M n0 n pc ls (st) h := by
  intro p e s m args below meth c H locs lr hX hH hl hn h1 h2
  exact lv_aload_n hX.1 hX.2.1 d hj (zlm_at hl q hq) (k p e s m args below meth c H locs lr hX hH hl hn h1 (zcons (zls_ok h1 hq) h2))
theorem wq_aload {j : Nat} {x : Nat} (q : Nat) (hq : ls[q]? = some (j, vR x)) (d : decode M.2.1 pc = .ok (.aload j, 2)) (k : wq G R Z X M n0 n (pc + 2) ls (vR x :: st) h) : wq G R Z X M n0 n pc ls (st) h := by
  intro p e s m args below meth c H locs lr hX hH hl hn h1 h2
  exact lv_aload hX.1 hX.2.1 d (zlm_at hl q hq) (k p e s m args below meth c H locs lr hX hH hl hn h1 (zcons (zls_ok h1 hq) h2))
theorem wq_astore_n {j : Nat} {x : Nat} {ls' : zLs} {i : Fin 4} (hj : (i : Nat) = j) (hn9 : j < M.2.2.1) (hl9 : zput1 j (vR x) ls = ls') (d : decode M.2.1 pc = .ok (.astore_n i, 1)) (k : wq G R Z X M n0 n (pc + 1) ls' st h) : wq G R Z X M n0 n pc ls (vR x :: st) h := by
  intro p e s m args below meth c H locs lr hX hH hl hn h1 h2
  subst hl9
  exact lv_astore_n hX.1 hX.2.1 d hj hl hn9 rfl (fun lr' hl' => k p e s m args below meth c H locs lr' hX hH (zput1_has (v := vR x) hl') hn (zput1_ok h1 (zhd h2)) (ztl h2))
theorem wq_astore {j : Nat} {x : Nat} {ls' : zLs}  (hn9 : j < M.2.2.1) (hl9 : zput1 j (vR x) ls = ls') (d : decode M.2.1 pc = .ok (.astore j, 2)) (k : wq G R Z X M n0 n (pc + 2) ls' st h) : wq G R Z X M n0 n pc ls (vR x :: st) h := by
  intro p e s m args below meth c H locs lr hX hH hl hn h1 h2
  subst hl9
  exact lv_astore hX.1 hX.2.1 d hl hn9 rfl (fun lr' hl' => k p e s m args below meth c H locs lr' hX hH (zput1_has (v := vR x) hl') hn (zput1_ok h1 (zhd h2)) (ztl h2))
theorem wq_iinc {j : Nat} {x z y : Int} {ls' : zLs} (q : Nat) (hq : ls[q]? = some (j, vI x)) (hy : x + z = y) (hr : zII y) (hn9 : j < M.2.2.1) (hl9 : zput1 j (vI y) ls = ls') (d : decode M.2.1 pc = .ok (.iinc j z, 3)) (k : wq G R Z X M n0 n (pc + 3) ls' st h) : wq G R Z X M n0 n pc ls st h := by
  intro p e s m args below meth c H locs lr hX hH hl hn h1 h2
  subst hl9
  have hq' : (zlm G.2.1 ls)[q]? = some (j, Value.int (Int32.ofInt x)) := by rw [zlm, List.getElem?_map, hq]; rfl
  exact lv_iinc hX.1 hX.2.1 d hl hq' (v := Int32.ofInt y) (by rw [← hy, Int32.ofInt_add]) hn9 rfl (fun lr' hl' => k p e s m args below meth c H locs lr' hX hH (zput1_has (v := vI y) hl') hn (zput1_ok h1 hr) h2)
theorem wq_iadd {x y : Int} (hr : zII (x + y)) (d : decode M.2.1 pc = .ok (.iadd, 1)) (k : wq G R Z X M n0 n (pc + 1) ls (vI (x + y) :: st) h) : wq G R Z X M n0 n pc ls (vI y :: vI x :: st) h := by
  intro p e s m args below meth c H locs lr hX hH hl hn h1 h2
  refine lv_iadd hX.1 hX.2.1 d ?_
  rw [← Int32.ofInt_add]
  exact k p e s m args below meth c H locs lr hX hH hl hn h1 (zcons hr (ztl (ztl h2)))
theorem wq_iadd_w {x y : Int} (d : decode M.2.1 pc = .ok (.iadd, 1)) (k : wq G R Z X M n0 n (pc + 1) ls (vI (w32 (x + y)) :: st) h) : wq G R Z X M n0 n pc ls (vI y :: vI x :: st) h := by
  intro p e s m args below meth c H locs lr hX hH hl hn h1 h2
  refine lv_iadd hX.1 hX.2.1 d ?_
  rw [← Int32.ofInt_add, ← w32_I]
  exact k p e s m args below meth c H locs lr hX hH hl hn h1 (zcons (w32_r _) (ztl (ztl h2)))
theorem wq_ladd {x y : Int} (hr : zIL (x + y)) (d : decode M.2.1 pc = .ok (.ladd, 1)) (k : wq G R Z X M n0 n (pc + 1) ls (vL (x + y) :: st) h) : wq G R Z X M n0 n pc ls (vL y :: vL x :: st) h := by
  intro p e s m args below meth c H locs lr hX hH hl hn h1 h2
  refine lv_ladd hX.1 hX.2.1 d ?_
  rw [← Int64.ofInt_add]
  exact k p e s m args below meth c H locs lr hX hH hl hn h1 (zcons hr (ztl (ztl h2)))
theorem wq_ladd_w {x y : Int} (d : decode M.2.1 pc = .ok (.ladd, 1)) (k : wq G R Z X M n0 n (pc + 1) ls (vL (w64 (x + y)) :: st) h) : wq G R Z X M n0 n pc ls (vL y :: vL x :: st) h := by
  intro p e s m args below meth c H locs lr hX hH hl hn h1 h2
  refine lv_ladd hX.1 hX.2.1 d ?_
  rw [← Int64.ofInt_add, ← w64_L]
  exact k p e s m args below meth c H locs lr hX hH hl hn h1 (zcons (w64_r _) (ztl (ztl h2)))
theorem wq_isub {x y : Int} (hr : zII (x - y)) (d : decode M.2.1 pc = .ok (.isub, 1)) (k : wq G R Z X M n0 n (pc + 1) ls (vI (x - y) :: st) h) : wq G R Z X M n0 n pc ls (vI y :: vI x :: st) h := by
  intro p e s m args below meth c H locs lr hX hH hl hn h1 h2
  refine lv_isub hX.1 hX.2.1 d ?_
  rw [← Int32.ofInt_sub]
  exact k p e s m args below meth c H locs lr hX hH hl hn h1 (zcons hr (ztl (ztl h2)))
theorem wq_isub_w {x y : Int} (d : decode M.2.1 pc = .ok (.isub, 1)) (k : wq G R Z X M n0 n (pc + 1) ls (vI (w32 (x - y)) :: st) h) : wq G R Z X M n0 n pc ls (vI y :: vI x :: st) h := by
  intro p e s m args below meth c H locs lr hX hH hl hn h1 h2
  refine lv_isub hX.1 hX.2.1 d ?_
  rw [← Int32.ofInt_sub, ← w32_I]
  exact k p e s m args below meth c H locs lr hX hH hl hn h1 (zcons (w32_r _) (ztl (ztl h2)))
theorem wq_lsub {x y : Int} (hr : zIL (x - y)) (d : decode M.2.1 pc = .ok (.lsub, 1)) (k : wq G R Z X M n0 n (pc + 1) ls (vL (x - y) :: st) h) : wq G R Z X M n0 n pc ls (vL y :: vL x :: st) h := by
  intro p e s m args below meth c H locs lr hX hH hl hn h1 h2
  refine lv_lsub hX.1 hX.2.1 d ?_
  rw [← Int64.ofInt_sub]
  exact k p e s m args below meth c H locs lr hX hH hl hn h1 (zcons hr (ztl (ztl h2)))
theorem wq_lsub_w {x y : Int} (d : decode M.2.1 pc = .ok (.lsub, 1)) (k : wq G R Z X M n0 n (pc + 1) ls (vL (w64 (x - y)) :: st) h) : wq G R Z X M n0 n pc ls (vL y :: vL x :: st) h := by
  intro p e s m args below meth c H locs lr hX hH hl hn h1 h2
  refine lv_lsub hX.1 hX.2.1 d ?_
  rw [← Int64.ofInt_sub, ← w64_L]
  exact k p e s m args below meth c H locs lr hX hH hl hn h1 (zcons (w64_r _) (ztl (ztl h2)))
theorem wq_imul {x y : Int} (hr : zII (x * y)) (d : decode M.2.1 pc = .ok (.imul, 1)) (k : wq G R Z X M n0 n (pc + 1) ls (vI (x * y) :: st) h) : wq G R Z X M n0 n pc ls (vI y :: vI x :: st) h := by
  intro p e s m args below meth c H locs lr hX hH hl hn h1 h2
  refine lv_imul hX.1 hX.2.1 d ?_
  rw [← Int32.ofInt_mul]
  exact k p e s m args below meth c H locs lr hX hH hl hn h1 (zcons hr (ztl (ztl h2)))
theorem wq_imul_w {x y : Int} (d : decode M.2.1 pc = .ok (.imul, 1)) (k : wq G R Z X M n0 n (pc + 1) ls (vI (w32 (x * y)) :: st) h) : wq G R Z X M n0 n pc ls (vI y :: vI x :: st) h := by
  intro p e s m args below meth c H locs lr hX hH hl hn h1 h2
  refine lv_imul hX.1 hX.2.1 d ?_
  rw [← Int32.ofInt_mul, ← w32_I]
  exact k p e s m args below meth c H locs lr hX hH hl hn h1 (zcons (w32_r _) (ztl (ztl h2)))
theorem wq_lmul {x y : Int} (hr : zIL (x * y)) (d : decode M.2.1 pc = .ok (.lmul, 1)) (k : wq G R Z X M n0 n (pc + 1) ls (vL (x * y) :: st) h) : wq G R Z X M n0 n pc ls (vL y :: vL x :: st) h := by
  intro p e s m args below meth c H locs lr hX hH hl hn h1 h2
  refine lv_lmul hX.1 hX.2.1 d ?_
  rw [← Int64.ofInt_mul]
  exact k p e s m args below meth c H locs lr hX hH hl hn h1 (zcons hr (ztl (ztl h2)))
theorem wq_lmul_w {x y : Int} (d : decode M.2.1 pc = .ok (.lmul, 1)) (k : wq G R Z X M n0 n (pc + 1) ls (vL (w64 (x * y)) :: st) h) : wq G R Z X M n0 n pc ls (vL y :: vL x :: st) h := by
  intro p e s m args below meth c H locs lr hX hH hl hn h1 h2
  refine lv_lmul hX.1 hX.2.1 d ?_
  rw [← Int64.ofInt_mul, ← w64_L]
  exact k p e s m args below meth c H locs lr hX hH hl hn h1 (zcons (w64_r _) (ztl (ztl h2)))
theorem wq_idiv {x y : Int} (h0 : 0 < y) (d : decode M.2.1 pc = .ok (.idiv, 1)) (k : wq G R Z X M n0 n (pc + 1) ls (vI (x.tdiv y) :: st) h) : wq G R Z X M n0 n pc ls (vI y :: vI x :: st) h := by
  intro p e s m args below meth c H locs lr hX hH hl hn h1 h2
  have q := zi_div (zhd (ztl h2)) (zhd h2) h0
  refine lv_idiv hX.1 hX.2.1 d (fun e => by have e := (zi_eq0 (zhd h2)).mp e; omega) ?_
  rw [q.1]
  exact k p e s m args below meth c H locs lr hX hH hl hn h1 (zcons q.2 (ztl (ztl h2)))
theorem wq_irem {x y : Int} (h0 : 0 < y) (d : decode M.2.1 pc = .ok (.irem, 1)) (k : wq G R Z X M n0 n (pc + 1) ls (vI (x.tmod y) :: st) h) : wq G R Z X M n0 n pc ls (vI y :: vI x :: st) h := by
  intro p e s m args below meth c H locs lr hX hH hl hn h1 h2
  have q := zi_rem (zhd (ztl h2)) (zhd h2) h0
  refine lv_irem hX.1 hX.2.1 d (fun e => by have e := (zi_eq0 (zhd h2)).mp e; omega) ?_
  rw [q.1]
  exact k p e s m args below meth c H locs lr hX hH hl hn h1 (zcons q.2 (ztl (ztl h2)))
theorem wq_ldiv {x y : Int} (h0 : 0 < y) (d : decode M.2.1 pc = .ok (.ldiv, 1)) (k : wq G R Z X M n0 n (pc + 1) ls (vL (x.tdiv y) :: st) h) : wq G R Z X M n0 n pc ls (vL y :: vL x :: st) h := by
  intro p e s m args below meth c H locs lr hX hH hl hn h1 h2
  have q := zl_div (zhd (ztl h2)) (zhd h2) h0
  refine lv_ldiv hX.1 hX.2.1 d (fun e => by have e := (zl_eq (y := 0) (zhd h2) ⟨by omega, by omega⟩).mp e; omega) ?_
  rw [q.1]
  exact k p e s m args below meth c H locs lr hX hH hl hn h1 (zcons q.2 (ztl (ztl h2)))
theorem wq_ixor {x y : Int} (d : decode M.2.1 pc = .ok (.ixor, 1)) (k : wq G R Z X M n0 n (pc + 1) ls (vI (zxor x y) :: st) h) : wq G R Z X M n0 n pc ls (vI y :: vI x :: st) h := by
  intro p e s m args below meth c H locs lr hX hH hl hn h1 h2
  refine lv_ixor hX.1 hX.2.1 d ?_
  have q := k p e s m args below meth c H locs lr hX hH hl hn h1 (zcons (zi_rng _) (ztl (ztl h2)))
  simp only [List.map_cons, zv, zxor, zi_back] at q
  exact q
theorem wq_iand {x y : Int} (d : decode M.2.1 pc = .ok (.iand, 1)) (k : wq G R Z X M n0 n (pc + 1) ls (vI (zand x y) :: st) h) : wq G R Z X M n0 n pc ls (vI y :: vI x :: st) h := by
  intro p e s m args below meth c H locs lr hX hH hl hn h1 h2
  refine lv_iand hX.1 hX.2.1 d ?_
  have q := k p e s m args below meth c H locs lr hX hH hl hn h1 (zcons (zi_rng _) (ztl (ztl h2)))
  simp only [List.map_cons, zv, zand, zi_back] at q
  exact q
theorem wq_land {x y : Int} (d : decode M.2.1 pc = .ok (.land, 1)) (k : wq G R Z X M n0 n (pc + 1) ls (vL (zandL x y) :: st) h) : wq G R Z X M n0 n pc ls (vL y :: vL x :: st) h := by
  intro p e s m args below meth c H locs lr hX hH hl hn h1 h2
  refine lv_land hX.1 hX.2.1 d ?_
  have q := k p e s m args below meth c H locs lr hX hH hl hn h1 (zcons (zl_rng _) (ztl (ztl h2)))
  simp only [List.map_cons, zv, zandL, zl_back] at q
  exact q
theorem wq_lor {x y : Int} (d : decode M.2.1 pc = .ok (.lor, 1)) (k : wq G R Z X M n0 n (pc + 1) ls (vL (zorL x y) :: st) h) : wq G R Z X M n0 n pc ls (vL y :: vL x :: st) h := by
  intro p e s m args below meth c H locs lr hX hH hl hn h1 h2
  refine lv_lor hX.1 hX.2.1 d ?_
  have q := k p e s m args below meth c H locs lr hX hH hl hn h1 (zcons (zl_rng _) (ztl (ztl h2)))
  simp only [List.map_cons, zv, zorL, zl_back] at q
  exact q
theorem wq_lshl {x y : Int} (d : decode M.2.1 pc = .ok (.lshl, 1)) (k : wq G R Z X M n0 n (pc + 1) ls (vL (zshl x y) :: st) h) : wq G R Z X M n0 n pc ls (vI y :: vL x :: st) h := by
  intro p e s m args below meth c H locs lr hX hH hl hn h1 h2
  refine lv_lshl hX.1 hX.2.1 d rfl ?_
  have q := k p e s m args below meth c H locs lr hX hH hl hn h1 (zcons (zl_rng _) (ztl (ztl h2)))
  simp only [List.map_cons, zv, zshl, zl_back] at q
  exact q
theorem wq_lshr {x y : Int} (d : decode M.2.1 pc = .ok (.lshr, 1)) (k : wq G R Z X M n0 n (pc + 1) ls (vL (zshr x y) :: st) h) : wq G R Z X M n0 n pc ls (vI y :: vL x :: st) h := by
  intro p e s m args below meth c H locs lr hX hH hl hn h1 h2
  refine lv_lshr hX.1 hX.2.1 d rfl ?_
  have q := k p e s m args below meth c H locs lr hX hH hl hn h1 (zcons (zl_rng _) (ztl (ztl h2)))
  simp only [List.map_cons, zv, zshr, zl_back] at q
  exact q
theorem wq_lneg {x : Int} (hr : zIL (-x)) (d : decode M.2.1 pc = .ok (.lneg, 1)) (k : wq G R Z X M n0 n (pc + 1) ls (vL (-x) :: st) h) : wq G R Z X M n0 n pc ls (vL x :: st) h := by
  intro p e s m args below meth c H locs lr hX hH hl hn h1 h2
  refine lv_lneg hX.1 hX.2.1 d ?_
  rw [← Int64.ofInt_neg]
  exact k p e s m args below meth c H locs lr hX hH hl hn h1 (zcons hr (ztl h2))
theorem wq_i2l {x : Int} (d : decode M.2.1 pc = .ok (.i2l, 1)) (k : wq G R Z X M n0 n (pc + 1) ls (vL x :: st) h) : wq G R Z X M n0 n pc ls (vI x :: st) h := by
  intro p e s m args below meth c H locs lr hX hH hl hn h1 h2
  have q := zi_i2l (zhd h2)
  exact lv_i2l hX.1 hX.2.1 d q.1 (k p e s m args below meth c H locs lr hX hH hl hn h1 (zcons q.2 (ztl h2)))
theorem wq_l2i {x : Int} (d : decode M.2.1 pc = .ok (.l2i, 1)) (k : wq G R Z X M n0 n (pc + 1) ls (vI (w32 x) :: st) h) : wq G R Z X M n0 n pc ls (vL x :: st) h := by
  intro p e s m args below meth c H locs lr hX hH hl hn h1 h2
  exact lv_l2i hX.1 hX.2.1 d (zl_l2i (zhd h2)) (k p e s m args below meth c H locs lr hX hH hl hn h1 (zcons (w32_r _) (ztl h2)))
theorem wq_dup {v : zV} (hv : zcat v = 1) (d : decode M.2.1 pc = .ok (.dup, 1)) (k : wq G R Z X M n0 n (pc + 1) ls (v :: v :: st) h) : wq G R Z X M n0 n pc ls (v :: st) h := by
  intro p e s m args below meth c H locs lr hX hH hl hn h1 h2
  exact lv_dup hX.1 hX.2.1 d (by rw [zcat_v]; exact hv) (k p e s m args below meth c H locs lr hX hH hl hn h1 (zcons (zhd h2) h2))
theorem wq_pop {v : zV} (hv : zcat v = 1) (d : decode M.2.1 pc = .ok (.pop, 1)) (k : wq G R Z X M n0 n (pc + 1) ls (st) h) : wq G R Z X M n0 n pc ls (v :: st) h := by
  intro p e s m args below meth c H locs lr hX hH hl hn h1 h2
  exact lv_pop hX.1 hX.2.1 d (by rw [zcat_v]; exact hv) (k p e s m args below meth c H locs lr hX hH hl hn h1 (ztl h2))
theorem wq_dup2 {v w : zV} (hv : zcat v = 1) (hw : zcat w = 1) (d : decode M.2.1 pc = .ok (.dup2, 1)) (k : wq G R Z X M n0 n (pc + 1) ls (v :: w :: v :: w :: st) h) : wq G R Z X M n0 n pc ls (v :: w :: st) h := by
  intro p e s m args below meth c H locs lr hX hH hl hn h1 h2
  exact lv_dup2_11 hX.1 hX.2.1 d (by rw [zcat_v]; exact hv) (by rw [zcat_v]; exact hw) (k p e s m args below meth c H locs lr hX hH hl hn h1 (zcons (zhd h2) (zcons (zhd (ztl h2)) h2)))
theorem wq_if_eq {x : Int} {off : Int} (tgt : Nat) (ht : (pc : Int) + off = (tgt : Int)) (d : decode M.2.1 pc = .ok (.ifCond .eq off, 3)) (kt : x = 0 → wq G R Z X M n0 n tgt ls st h) (kf : x ≠ 0 → wq G R Z X M n0 n (pc + 3) ls st h) : wq G R Z X M n0 n pc ls (vI x :: st) h := by
  intro p e s m args below meth c H locs lr hX hH hl hn h1 h2
  exact lv_if_eq hX.1 hX.2.1 d ht (fun q => kt ((zi_eq0 (zhd h2)).mp q) p e s m args below meth c H locs lr hX hH hl hn h1 (ztl h2)) (fun q => kf (fun z => q ((zi_eq0 (zhd h2)).mpr z)) p e s m args below meth c H locs lr hX hH hl hn h1 (ztl h2))
theorem wq_if_ne {x : Int} {off : Int} (tgt : Nat) (ht : (pc : Int) + off = (tgt : Int)) (d : decode M.2.1 pc = .ok (.ifCond .ne off, 3)) (kt : x ≠ 0 → wq G R Z X M n0 n tgt ls st h) (kf : x = 0 → wq G R Z X M n0 n (pc + 3) ls st h) : wq G R Z X M n0 n pc ls (vI x :: st) h := by
  intro p e s m args below meth c H locs lr hX hH hl hn h1 h2
  exact lv_if_ne hX.1 hX.2.1 d ht (fun q => kt (fun z => q ((zi_eq0 (zhd h2)).mpr z)) p e s m args below meth c H locs lr hX hH hl hn h1 (ztl h2)) (fun q => kf ((zi_eq0 (zhd h2)).mp q) p e s m args below meth c H locs lr hX hH hl hn h1 (ztl h2))
theorem wq_if_lt {x : Int} {off : Int} (tgt : Nat) (ht : (pc : Int) + off = (tgt : Int)) (d : decode M.2.1 pc = .ok (.ifCond .lt off, 3)) (kt : x < 0 → wq G R Z X M n0 n tgt ls st h) (kf : 0 ≤ x → wq G R Z X M n0 n (pc + 3) ls st h) : wq G R Z X M n0 n pc ls (vI x :: st) h := by
  intro p e s m args below meth c H locs lr hX hH hl hn h1 h2
  exact lv_if_lt hX.1 hX.2.1 d ht (fun q => kt ((zi_lt0 (zhd h2)).mp q) p e s m args below meth c H locs lr hX hH hl hn h1 (ztl h2)) (fun q => kf (Int.not_lt.mp (fun z => q ((zi_lt0 (zhd h2)).mpr z))) p e s m args below meth c H locs lr hX hH hl hn h1 (ztl h2))
theorem wq_if_ge {x : Int} {off : Int} (tgt : Nat) (ht : (pc : Int) + off = (tgt : Int)) (d : decode M.2.1 pc = .ok (.ifCond .ge off, 3)) (kt : 0 ≤ x → wq G R Z X M n0 n tgt ls st h) (kf : x < 0 → wq G R Z X M n0 n (pc + 3) ls st h) : wq G R Z X M n0 n pc ls (vI x :: st) h := by
  intro p e s m args below meth c H locs lr hX hH hl hn h1 h2
  exact lv_if_ge hX.1 hX.2.1 d ht (fun q => kt ((zi_ge0 (zhd h2)).mp q) p e s m args below meth c H locs lr hX hH hl hn h1 (ztl h2)) (fun q => kf (Int.not_le.mp (fun z => q ((zi_ge0 (zhd h2)).mpr z))) p e s m args below meth c H locs lr hX hH hl hn h1 (ztl h2))
theorem wq_if_gt {x : Int} {off : Int} (tgt : Nat) (ht : (pc : Int) + off = (tgt : Int)) (d : decode M.2.1 pc = .ok (.ifCond .gt off, 3)) (kt : 0 < x → wq G R Z X M n0 n tgt ls st h) (kf : x ≤ 0 → wq G R Z X M n0 n (pc + 3) ls st h) : wq G R Z X M n0 n pc ls (vI x :: st) h := by
  intro p e s m args below meth c H locs lr hX hH hl hn h1 h2
  exact lv_if_gt hX.1 hX.2.1 d ht (fun q => kt ((zi_gt0 (zhd h2)).mp q) p e s m args below meth c H locs lr hX hH hl hn h1 (ztl h2)) (fun q => kf (Int.not_lt.mp (fun z => q ((zi_gt0 (zhd h2)).mpr z))) p e s m args below meth c H locs lr hX hH hl hn h1 (ztl h2))
theorem wq_if_le {x : Int} {off : Int} (tgt : Nat) (ht : (pc : Int) + off = (tgt : Int)) (d : decode M.2.1 pc = .ok (.ifCond .le off, 3)) (kt : x ≤ 0 → wq G R Z X M n0 n tgt ls st h) (kf : 0 < x → wq G R Z X M n0 n (pc + 3) ls st h) : wq G R Z X M n0 n pc ls (vI x :: st) h := by
  intro p e s m args below meth c H locs lr hX hH hl hn h1 h2
  exact lv_if_le hX.1 hX.2.1 d ht (fun q => kt ((zi_le0 (zhd h2)).mp q) p e s m args below meth c H locs lr hX hH hl hn h1 (ztl h2)) (fun q => kf (Int.not_le.mp (fun z => q ((zi_le0 (zhd h2)).mpr z))) p e s m args below meth c H locs lr hX hH hl hn h1 (ztl h2))
theorem wq_icmp_eq {x y : Int} {off : Int} (tgt : Nat) (ht : (pc : Int) + off = (tgt : Int)) (d : decode M.2.1 pc = .ok (.if_icmp .eq off, 3)) (kt : x = y → wq G R Z X M n0 n tgt ls st h) (kf : x ≠ y → wq G R Z X M n0 n (pc + 3) ls st h) : wq G R Z X M n0 n pc ls (vI y :: vI x :: st) h := by
  intro p e s m args below meth c H locs lr hX hH hl hn h1 h2
  exact lv_icmp_eq hX.1 hX.2.1 d ht (fun q => kt ((zi_eq (zhd (ztl h2)) (zhd h2)).mp q) p e s m args below meth c H locs lr hX hH hl hn h1 (ztl (ztl h2))) (fun q => kf (fun z => q ((zi_eq (zhd (ztl h2)) (zhd h2)).mpr z)) p e s m args below meth c H locs lr hX hH hl hn h1 (ztl (ztl h2)))
theorem wq_icmp_ne {x y : Int} {off : Int} (tgt : Nat) (ht : (pc : Int) + off = (tgt : Int)) (d : decode M.2.1 pc = .ok (.if_icmp .ne off, 3)) (kt : x ≠ y → wq G R Z X M n0 n tgt ls st h) (kf : x = y → wq G R Z X M n0 n (pc + 3) ls st h) : wq G R Z X M n0 n pc ls (vI y :: vI x :: st) h := by
  intro p e s m args below meth c H locs lr hX hH hl hn h1 h2
  exact lv_icmp_ne hX.1 hX.2.1 d ht (fun q => kt (fun z => q ((zi_eq (zhd (ztl h2)) (zhd h2)).mpr z)) p e s m args below meth c H locs lr hX hH hl hn h1 (ztl (ztl h2))) (fun q => kf ((zi_eq (zhd (ztl h2)) (zhd h2)).mp q) p e s m args below meth c H locs lr hX hH hl hn h1 (ztl (ztl h2)))
theorem wq_icmp_lt {x y : Int} {off : Int} (tgt : Nat) (ht : (pc : Int) + off = (tgt : Int)) (d : decode M.2.1 pc = .ok (.if_icmp .lt off, 3)) (kt : x < y → wq G R Z X M n0 n tgt ls st h) (kf : y ≤ x → wq G R Z X M n0 n (pc + 3) ls st h) : wq G R Z X M n0 n pc ls (vI y :: vI x :: st) h := by
  intro p e s m args below meth c H locs lr hX hH hl hn h1 h2
  exact lv_icmp_lt hX.1 hX.2.1 d ht (fun q => kt ((zi_lt (zhd (ztl h2)) (zhd h2)).mp q) p e s m args below meth c H locs lr hX hH hl hn h1 (ztl (ztl h2))) (fun q => kf (Int.not_lt.mp (fun z => q ((zi_lt (zhd (ztl h2)) (zhd h2)).mpr z))) p e s m args below meth c H locs lr hX hH hl hn h1 (ztl (ztl h2)))
theorem wq_icmp_ge {x y : Int} {off : Int} (tgt : Nat) (ht : (pc : Int) + off = (tgt : Int)) (d : decode M.2.1 pc = .ok (.if_icmp .ge off, 3)) (kt : y ≤ x → wq G R Z X M n0 n tgt ls st h) (kf : x < y → wq G R Z X M n0 n (pc + 3) ls st h) : wq G R Z X M n0 n pc ls (vI y :: vI x :: st) h := by
  intro p e s m args below meth c H locs lr hX hH hl hn h1 h2
  exact lv_icmp_ge hX.1 hX.2.1 d ht (fun q => kt ((zi_le (zhd h2) (zhd (ztl h2))).mp q) p e s m args below meth c H locs lr hX hH hl hn h1 (ztl (ztl h2))) (fun q => kf (Int.not_le.mp (fun z => q ((zi_le (zhd h2) (zhd (ztl h2))).mpr z))) p e s m args below meth c H locs lr hX hH hl hn h1 (ztl (ztl h2)))
theorem wq_icmp_gt {x y : Int} {off : Int} (tgt : Nat) (ht : (pc : Int) + off = (tgt : Int)) (d : decode M.2.1 pc = .ok (.if_icmp .gt off, 3)) (kt : y < x → wq G R Z X M n0 n tgt ls st h) (kf : x ≤ y → wq G R Z X M n0 n (pc + 3) ls st h) : wq G R Z X M n0 n pc ls (vI y :: vI x :: st) h := by
  intro p e s m args below meth c H locs lr hX hH hl hn h1 h2
  exact lv_icmp_gt hX.1 hX.2.1 d ht (fun q => kt ((zi_lt (zhd h2) (zhd (ztl h2))).mp q) p e s m args below meth c H locs lr hX hH hl hn h1 (ztl (ztl h2))) (fun q => kf (Int.not_lt.mp (fun z => q ((zi_lt (zhd h2) (zhd (ztl h2))).mpr z))) p e s m args below meth c H locs lr hX hH hl hn h1 (ztl (ztl h2)))
theorem wq_icmp_le {x y : Int} {off : Int} (tgt : Nat) (ht : (pc : Int) + off = (tgt : Int)) (d : decode M.2.1 pc = .ok (.if_icmp .le off, 3)) (kt : x ≤ y → wq G R Z X M n0 n tgt ls st h) (kf : y < x → wq G R Z X M n0 n (pc + 3) ls st h) : wq G R Z X M n0 n pc ls (vI y :: vI x :: st) h := by
  intro p e s m args below meth c H locs lr hX hH hl hn h1 h2
  exact lv_icmp_le hX.1 hX.2.1 d ht (fun q => kt ((zi_le (zhd (ztl h2)) (zhd h2)).mp q) p e s m args below meth c H locs lr hX hH hl hn h1 (ztl (ztl h2))) (fun q => kf (Int.not_le.mp (fun z => q ((zi_le (zhd (ztl h2)) (zhd h2)).mpr z))) p e s m args below meth c H locs lr hX hH hl hn h1 (ztl (ztl h2)))
theorem wq_goto {off : Int} (tgt : Nat) (ht : (pc : Int) + off = (tgt : Int)) (d : decode M.2.1 pc = .ok (.goto off, 3)) (k : wq G R Z X M n0 n tgt ls st h) : wq G R Z X M n0 n pc ls st h := by
  intro p e s m args below meth c H locs lr hX hH hl hn h1 h2
  exact lv_goto hX.1 hX.2.1 d ht (k p e s m args below meth c H locs lr hX hH hl hn h1 h2)
theorem zcmp_val {x y : Int} (hx : zIL x) (hy : zIL y) : lg_cmp (Int64.ofInt x) (Int64.ofInt y) = if y < x then 1 else if x = y then 0 else -1 := by
  unfold lg_cmp
  by_cases a : y < x
  · rw [if_pos ((zl_lt' hy hx).mpr a), if_pos a]
  · rw [if_neg (fun q => a ((zl_lt' hy hx).mp q)), if_neg a]
    by_cases b : x = y
    · rw [if_pos (by rw [b]), if_pos b]
    · rw [if_neg (fun q => b ((zl_eq hx hy).mp q)), if_neg b]
theorem wq_lcmp_eq {x y : Int} {off : Int} (tgt : Nat) (ht : ((pc + 1 : Nat) : Int) + off = (tgt : Int)) (d1 : decode M.2.1 pc = .ok (.lcmp, 1)) (d : decode M.2.1 (pc + 1) = .ok (.ifCond .eq off, 3)) (kt : x = y → wq G R Z X M n0 n tgt ls st h) (kf : x ≠ y → wq G R Z X M n0 n (pc + 1 + 3) ls st h) : wq G R Z X M n0 n pc ls (vL y :: vL x :: st) h := by
  intro p e s m args below meth c H locs lr hX hH hl hn h1 h2
  refine W.lcmp hX.1 hX.2.1 d1 ?_
  rw [zcmp_val (zhd (ztl h2)) (zhd h2)]
  refine lv_if_eq hX.1 hX.2.1 d ht (fun q => kt ?_ p e s m args below meth c H locs lr hX hH hl hn h1 (ztl (ztl h2))) (fun q => kf ?_ p e s m args below meth c H locs lr hX hH hl hn h1 (ztl (ztl h2)))
  · revert q
    by_cases a : y < x
    · rw [if_pos a]; intro q; first | omega | exact absurd q (by decide)
    · rw [if_neg a]
      by_cases b : x = y
      · rw [if_pos b]; intro q; first | omega | exact absurd q (by decide)
      · rw [if_neg b]; intro q; first | omega | exact absurd q (by decide)
  · revert q
    by_cases a : y < x
    · rw [if_pos a]; intro q; first | omega | exact absurd q (by decide)
    · rw [if_neg a]
      by_cases b : x = y
      · rw [if_pos b]; intro q; first | omega | exact absurd q (by decide)
      · rw [if_neg b]; intro q; first | omega | exact absurd q (by decide)
theorem wq_lcmp_ne {x y : Int} {off : Int} (tgt : Nat) (ht : ((pc + 1 : Nat) : Int) + off = (tgt : Int)) (d1 : decode M.2.1 pc = .ok (.lcmp, 1)) (d : decode M.2.1 (pc + 1) = .ok (.ifCond .ne off, 3)) (kt : x ≠ y → wq G R Z X M n0 n tgt ls st h) (kf : x = y → wq G R Z X M n0 n (pc + 1 + 3) ls st h) : wq G R Z X M n0 n pc ls (vL y :: vL x :: st) h := by
  intro p e s m args below meth c H locs lr hX hH hl hn h1 h2
  refine W.lcmp hX.1 hX.2.1 d1 ?_
  rw [zcmp_val (zhd (ztl h2)) (zhd h2)]
  refine lv_if_ne hX.1 hX.2.1 d ht (fun q => kt ?_ p e s m args below meth c H locs lr hX hH hl hn h1 (ztl (ztl h2))) (fun q => kf ?_ p e s m args below meth c H locs lr hX hH hl hn h1 (ztl (ztl h2)))
  · revert q
    by_cases a : y < x
    · rw [if_pos a]; intro q; first | omega | exact absurd q (by decide)
    · rw [if_neg a]
      by_cases b : x = y
      · rw [if_pos b]; intro q; first | omega | exact absurd q (by decide)
      · rw [if_neg b]; intro q; first | omega | exact absurd q (by decide)
  · revert q
    by_cases a : y < x
    · rw [if_pos a]; intro q; first | omega | exact absurd q (by decide)
    · rw [if_neg a]
      by_cases b : x = y
      · rw [if_pos b]; intro q; first | omega | exact absurd q (by decide)
      · rw [if_neg b]; intro q; first | omega | exact absurd q (by decide)
theorem wq_lcmp_lt {x y : Int} {off : Int} (tgt : Nat) (ht : ((pc + 1 : Nat) : Int) + off = (tgt : Int)) (d1 : decode M.2.1 pc = .ok (.lcmp, 1)) (d : decode M.2.1 (pc + 1) = .ok (.ifCond .lt off, 3)) (kt : x < y → wq G R Z X M n0 n tgt ls st h) (kf : y ≤ x → wq G R Z X M n0 n (pc + 1 + 3) ls st h) : wq G R Z X M n0 n pc ls (vL y :: vL x :: st) h := by
  intro p e s m args below meth c H locs lr hX hH hl hn h1 h2
  refine W.lcmp hX.1 hX.2.1 d1 ?_
  rw [zcmp_val (zhd (ztl h2)) (zhd h2)]
  refine lv_if_lt hX.1 hX.2.1 d ht (fun q => kt ?_ p e s m args below meth c H locs lr hX hH hl hn h1 (ztl (ztl h2))) (fun q => kf ?_ p e s m args below meth c H locs lr hX hH hl hn h1 (ztl (ztl h2)))
  · revert q
    by_cases a : y < x
    · rw [if_pos a]; intro q; first | omega | exact absurd q (by decide)
    · rw [if_neg a]
      by_cases b : x = y
      · rw [if_pos b]; intro q; first | omega | exact absurd q (by decide)
      · rw [if_neg b]; intro q; first | omega | exact absurd q (by decide)
  · revert q
    by_cases a : y < x
    · rw [if_pos a]; intro q; first | omega | exact absurd q (by decide)
    · rw [if_neg a]
      by_cases b : x = y
      · rw [if_pos b]; intro q; first | omega | exact absurd q (by decide)
      · rw [if_neg b]; intro q; first | omega | exact absurd q (by decide)
theorem wq_lcmp_ge {x y : Int} {off : Int} (tgt : Nat) (ht : ((pc + 1 : Nat) : Int) + off = (tgt : Int)) (d1 : decode M.2.1 pc = .ok (.lcmp, 1)) (d : decode M.2.1 (pc + 1) = .ok (.ifCond .ge off, 3)) (kt : y ≤ x → wq G R Z X M n0 n tgt ls st h) (kf : x < y → wq G R Z X M n0 n (pc + 1 + 3) ls st h) : wq G R Z X M n0 n pc ls (vL y :: vL x :: st) h := by
  intro p e s m args below meth c H locs lr hX hH hl hn h1 h2
  refine W.lcmp hX.1 hX.2.1 d1 ?_
  rw [zcmp_val (zhd (ztl h2)) (zhd h2)]
  refine lv_if_ge hX.1 hX.2.1 d ht (fun q => kt ?_ p e s m args below meth c H locs lr hX hH hl hn h1 (ztl (ztl h2))) (fun q => kf ?_ p e s m args below meth c H locs lr hX hH hl hn h1 (ztl (ztl h2)))
  · revert q
    by_cases a : y < x
    · rw [if_pos a]; intro q; first | omega | exact absurd q (by decide)
    · rw [if_neg a]
      by_cases b : x = y
      · rw [if_pos b]; intro q; first | omega | exact absurd q (by decide)
      · rw [if_neg b]; intro q; first | omega | exact absurd q (by decide)
  · revert q
    by_cases a : y < x
    · rw [if_pos a]; intro q; first | omega | exact absurd q (by decide)
    · rw [if_neg a]
      by_cases b : x = y
      · rw [if_pos b]; intro q; first | omega | exact absurd q (by decide)
      · rw [if_neg b]; intro q; first | omega | exact absurd q (by decide)
theorem wq_lcmp_gt {x y : Int} {off : Int} (tgt : Nat) (ht : ((pc + 1 : Nat) : Int) + off = (tgt : Int)) (d1 : decode M.2.1 pc = .ok (.lcmp, 1)) (d : decode M.2.1 (pc + 1) = .ok (.ifCond .gt off, 3)) (kt : y < x → wq G R Z X M n0 n tgt ls st h) (kf : x ≤ y → wq G R Z X M n0 n (pc + 1 + 3) ls st h) : wq G R Z X M n0 n pc ls (vL y :: vL x :: st) h := by
  intro p e s m args below meth c H locs lr hX hH hl hn h1 h2
  refine W.lcmp hX.1 hX.2.1 d1 ?_
  rw [zcmp_val (zhd (ztl h2)) (zhd h2)]
  refine lv_if_gt hX.1 hX.2.1 d ht (fun q => kt ?_ p e s m args below meth c H locs lr hX hH hl hn h1 (ztl (ztl h2))) (fun q => kf ?_ p e s m args below meth c H locs lr hX hH hl hn h1 (ztl (ztl h2)))
  · revert q
    by_cases a : y < x
    · rw [if_pos a]; intro q; first | omega | exact absurd q (by decide)
    · rw [if_neg a]
      by_cases b : x = y
      · rw [if_pos b]; intro q; first | omega | exact absurd q (by decide)
      · rw [if_neg b]; intro q; first | omega | exact absurd q (by decide)
  · revert q
    by_cases a : y < x
    · rw [if_pos a]; intro q; first | omega | exact absurd q (by decide)
    · rw [if_neg a]
      by_cases b : x = y
      · rw [if_pos b]; intro q; first | omega | exact absurd q (by decide)
      · rw [if_neg b]; intro q; first | omega | exact absurd q (by decide)
theorem wq_lcmp_le {x y : Int} {off : Int} (tgt : Nat) (ht : ((pc + 1 : Nat) : Int) + off = (tgt : Int)) (d1 : decode M.2.1 pc = .ok (.lcmp, 1)) (d : decode M.2.1 (pc + 1) = .ok (.ifCond .le off, 3)) (kt : x ≤ y → wq G R Z X M n0 n tgt ls st h) (kf : y < x → wq G R Z X M n0 n (pc + 1 + 3) ls st h) : wq G R Z X M n0 n pc ls (vL y :: vL x :: st) h := by
  intro p e s m args below meth c H locs lr hX hH hl hn h1 h2
  refine W.lcmp hX.1 hX.2.1 d1 ?_
  rw [zcmp_val (zhd (ztl h2)) (zhd h2)]
  refine lv_if_le hX.1 hX.2.1 d ht (fun q => kt ?_ p e s m args below meth c H locs lr hX hH hl hn h1 (ztl (ztl h2))) (fun q => kf ?_ p e s m args below meth c H locs lr hX hH hl hn h1 (ztl (ztl h2)))
  · revert q
    by_cases a : y < x
    · rw [if_pos a]; intro q; first | omega | exact absurd q (by decide)
    · rw [if_neg a]
      by_cases b : x = y
      · rw [if_pos b]; intro q; first | omega | exact absurd q (by decide)
      · rw [if_neg b]; intro q; first | omega | exact absurd q (by decide)
  · revert q
    by_cases a : y < x
    · rw [if_pos a]; intro q; first | omega | exact absurd q (by decide)
    · rw [if_neg a]
      by_cases b : x = y
      · rw [if_pos b]; intro q; first | omega | exact absurd q (by decide)
      · rw [if_neg b]; intro q; first | omega | exact absurd q (by decide)
theorem wq_tsw {x : Int} {dflt lo hi : Int} {offs : Array Int} {len : Nat} (td : Nat) (tgts : List Nat) (hd : (pc : Int) + dflt = (td : Int)) (ht : offs.toList.map (fun o => (pc : Int) + o) = tgts.map (fun (t : Nat) => (t : Int))) (hh : hi = lo + tgts.length - 1) (d : decode M.2.1 pc = .ok (.tableswitch dflt lo hi offs, len))
    (kd : x < lo ∨ hi < x → wq G R Z X M n0 n td ls st h) (kc : ∀ (j tg : Nat), tgts[j]? = some tg → x = lo + j → wq G R Z X M n0 n tg ls st h) : wq G R Z X M n0 n pc ls (vI x :: st) h := by
  intro p e s m args below meth c H locs lr hX hH hl hn h1 h2
  have ex := zi_of (zhd h2)
  by_cases ho : x < lo ∨ hi < x
  · exact lv_tableOut hX.1 hX.2.1 d (by rw [ex]; exact ho) hd (kd ho p e s m args below meth c H locs lr hX hH hl hn h1 (ztl h2))
  · have g1 : ¬ x < lo := fun q => ho (Or.inl q)
    have g2 : ¬ hi < x := fun q => ho (Or.inr q)
    have hj : (x - lo).toNat < tgts.length := by omega
    have e1 : (offs.toList.map (fun o => (pc : Int) + o))[(x - lo).toNat]? = some ((tgts[(x - lo).toNat] : Nat) : Int) := by rw [ht, List.getElem?_map, List.getElem?_eq_getElem hj]; rfl
    rw [List.getElem?_map] at e1
    obtain ⟨off, e2, e3⟩ := Option.map_eq_some_iff.mp e1
    refine lv_tableIn hX.1 hX.2.1 d (by rw [ex]; exact g1) (by rw [ex]; exact g2) (off := off) (tgt := tgts[(x - lo).toNat]) (by rw [ex, ← Array.getElem?_toList]; exact e2) e3 ?_
    exact kc (x - lo).toNat _ (List.getElem?_eq_getElem hj) (by omega) p e s m args below meth c H locs lr hX hH hl hn h1 (ztl h2)
theorem wq_lsw {x : Int} {dflt : Int} {ps : Array (Int × Int)} {len : Nat} (hp : (ps.toList.zip (ps.toList.drop 1)).all (fun (a, next) => a.1 < next.1) = true) (d : decode M.2.1 pc = .ok (.lookupswitch dflt ps, len))
    (k : ∀ (off : Int), Op.lookupswitch.offset ps.toList dflt x = off → ∃ tgt : Nat, (pc : Int) + off = (tgt : Int) ∧ wq G R Z X M n0 n tgt ls st h) : wq G R Z X M n0 n pc ls (vI x :: st) h := by
  intro p e s m args below meth c H locs lr hX hH hl hn h1 h2
  have ex := zi_of (zhd h2)
  obtain ⟨tgt, ht, kk⟩ := k _ rfl
  exact lv_lookup hX.1 hX.2.1 d hp (by rw [ex]) ht (kk p e s m args below meth c H locs lr hX hH hl hn h1 (ztl h2))
end RULES
end
section
def gI (h : zHp) (a j : Nat) : Int := h.1 a j
def gL (h : zHp) (a j : Nat) : Int := h.2.1 a j
def gR (h : zHp) (a j : Nat) : Nat := h.2.2 a j
def sI (h : zHp) (a j : Nat) (z : Int) : zHp := (fun b k => if b = a ∧ k = j then z else h.1 b k, h.2.1, h.2.2)
def sL (h : zHp) (a j : Nat) (z : Int) : zHp := (h.1, fun b k => if b = a ∧ k = j then z else h.2.1 b k, h.2.2)
def sR (h : zHp) (a j : Nat) (r : Nat) : zHp := (h.1, h.2.1, fun b k => if b = a ∧ k = j then r else h.2.2 b k)
theorem gI_sI (h : zHp) (a j : Nat) (z : Int) (b k : Nat) : gI (sI h a j z) b k = if b = a ∧ k = j then z else gI h b k := rfl
theorem gL_sL (h : zHp) (a j : Nat) (z : Int) (b k : Nat) : gL (sL h a j z) b k = if b = a ∧ k = j then z else gL h b k := rfl
theorem gR_sR (h : zHp) (a j : Nat) (r b k : Nat) : gR (sR h a j r) b k = if b = a ∧ k = j then r else gR h b k := rfl
theorem gI_sL (h : zHp) (a j : Nat) (z : Int) (b k : Nat) : gI (sL h a j z) b k = gI h b k := rfl
theorem gI_sR (h : zHp) (a j r b k : Nat) : gI (sR h a j r) b k = gI h b k := rfl
theorem gL_sI (h : zHp) (a j : Nat) (z : Int) (b k : Nat) : gL (sI h a j z) b k = gL h b k := rfl
theorem gL_sR (h : zHp) (a j r b k : Nat) : gL (sR h a j r) b k = gL h b k := rfl
theorem gR_sI (h : zHp) (a j : Nat) (z : Int) (b k : Nat) : gR (sI h a j z) b k = gR h b k := rfl
theorem gR_sL (h : zHp) (a j : Nat) (z : Int) (b k : Nat) : gR (sL h a j z) b k = gR h b k := rfl
theorem zRg_sI {h : zHp} (hr : zRg h) {a j : Nat} {z : Int} (hz : zII z) : zRg (sI h a j z) := by
  intro b k
  refine ⟨?_, (hr b k).2⟩
  show zII (if b = a ∧ k = j then z else h.1 b k)
  split
  · exact hz
  · exact (hr b k).1
theorem zRg_sL {h : zHp} (hr : zRg h) {a j : Nat} {z : Int} (hz : zIL z) : zRg (sL h a j z) := by
  intro b k
  refine ⟨(hr b k).1, ?_⟩
  show zIL (if b = a ∧ k = j then z else h.2.1 b k)
  split
  · exact hz
  · exact (hr b k).2
theorem zRg_sR {h : zHp} (hr : zRg h) {a j r : Nat} : zRg (sR h a j r) := hr
theorem sI_row {h : zHp} {a j b : Nat} {z : Int} (hb : b ≠ a) : (sI h a j z).1 b = h.1 b ∧ (sI h a j z).2.1 b = h.2.1 b ∧ (sI h a j z).2.2 b = h.2.2 b := by
  refine ⟨?_, rfl, rfl⟩
  funext k
  show (if b = a ∧ k = j then z else h.1 b k) = _
  rw [if_neg (fun q => hb q.1)]
theorem sL_row {h : zHp} {a j b : Nat} {z : Int} (hb : b ≠ a) : (sL h a j z).1 b = h.1 b ∧ (sL h a j z).2.1 b = h.2.1 b ∧ (sL h a j z).2.2 b = h.2.2 b := by
  refine ⟨rfl, ?_, rfl⟩
  funext k
  show (if b = a ∧ k = j then z else h.2.1 b k) = _
  rw [if_neg (fun q => hb q.1)]
theorem sR_row {h : zHp} {a j b r : Nat} (hb : b ≠ a) : (sR h a j r).1 b = h.1 b ∧ (sR h a j r).2.1 b = h.2.1 b ∧ (sR h a j r).2.2 b = h.2.2 b := by
  refine ⟨rfl, rfl, ?_⟩
  funext k
  show (if b = a ∧ k = j then r else h.2.2 b k) = _
  rw [if_neg (fun q => hb q.1)]
theorem zfv_row {B b j : Nat} {h h' : zHp} (hr : h'.1 b = h.1 b ∧ h'.2.1 b = h.2.1 b ∧ h'.2.2 b = h.2.2 b) (t : FieldType) : zfv B h' b t j = zfv B h b t j := by
  unfold zfv
  cases t <;> simp only [hr.1, hr.2.1, hr.2.2]
theorem zent_row {G : zG} {h h' : zHp} {b : Nat} (t : Nat × Nat) (hr : h'.1 b = h.1 b ∧ h'.2.1 b = h.2.1 b ∧ h'.2.2 b = h.2.2 b) : zent G h' b t = zent G h b t := by
  unfold zent
  rw [hr.1, hr.2.1, hr.2.2]
  have e : ∀ c, zfl G.2.1 h' b c = zfl G.2.1 h b c := fun c => List.map_congr_left (fun j _ => zfv_row hr _)
  rw [e]
theorem zH_put {G : zG} {n0 n a k : Nat} {h h' : zHp} {s : State} {H H1 : Heap} {locs : List Loc} (hH : zH G n0 n h s H locs) (g1 : 1 ≤ a) (g2 : a ≤ n) (e1 : va_at G.2.2.1 zcl (G.2.1 + a, zent G h' a (zTAU a)) H1) (e2 : H1.size = H.size) (e3 : ∀ q : Nat, q ≠ G.2.1 + a → H1[q]? = H[q]?)
    (ho : ∀ b, b ≠ a → h'.1 b = h.1 b ∧ h'.2.1 b = h.2.1 b ∧ h'.2.2 b = h.2.2 b) (hr : zRg h')   : zH G n0 n h' s H1 (locs ++ [⟨G.2.1 + a, k⟩]) := by
  obtain ⟨⟨hP, hz, hZ, -⟩, hS, hB⟩ := hH
  refine ⟨⟨?_, e2.trans hz, ?_, hr⟩, hS.put e2 e3 (show G.2.1 < G.2.1 + a by omega), hB⟩
  · have q := va_P.set hP (zD G n h) (zl_get g1 g2) e1 e3
    rw [zl_set g1 g2 (fun b hb => zent_row _ (ho b hb))] at q
    exact q
  · intro b hb i
    obtain ⟨q1, q2, q3⟩ := ho b (by omega)
    rw [q1, q2, q3]
    exact hZ b hb i
theorem zT_at {n a : Nat} {t : Nat × Nat} (ht : zT n a = t) (h9 : t.1 ≠ 99) : 1 ≤ a ∧ a ≤ n ∧ zTAU a = t := by
  obtain ⟨q1, q2, q3⟩ := zT_in (c := t.1) (by rw [ht]) h9
  exact ⟨q1, q2, by rw [← q3, ht]⟩
theorem zent_0 {G : zG} {h : zHp} {a k : Nat} : zent G h a (0, k) = .inl (G.2.2.2 0, k, .inl (fun j => Int32.ofInt (h.1 a j))) := by unfold zent; rw [if_pos rfl]
theorem zent_1 {G : zG} {h : zHp} {a k : Nat} : zent G h a (1, k) = .inl (G.2.2.2 1, k, .inr (.inl (fun j => Int64.ofInt (h.2.1 a j)))) := by
  unfold zent; simp only; rw [if_neg (by omega)]; rfl
theorem zent_a {G : zG} {h : zHp} {a t k : Nat} (h1 : 2 ≤ t) (h2 : t < 100) : zent G h a (t, k) = .inl (G.2.2.2 t, k, .inr (.inr (.inr (.inr (fun j => zrO G.2.1 (h.2.2 a j)))))) := by
  unfold zent
  simp only
  rw [if_neg (by omega), if_neg (by omega), if_pos h2]
theorem zent_o {G : zG} {h : zHp} {a c k : Nat} : zent G h a (100 + c, k) = .inr (c, zfl G.2.1 h a c) := by
  unfold zent
  simp only
  rw [if_neg (by omega), if_neg (by omega), if_neg (by omega), show 100 + c - 100 = c by omega]
/-- a class's words are in the tables, and its types -/
def zCl (c : Nat) (C : String) (T : u_T) : Prop := zcl[c]? = some (C, T, zN c) ∧ (∀ w ∈ u_ws C T (zN c), w ∈ zgw) ∧ (∀ k, k < zN c → parseFieldDescriptor (T k).2.2.1 = some (zty c k)) ∧ (∀ a, a < zN c → ∀ b, b < zN c → a ≠ b → (T a).2.1 ≠ (T b).2.1)
/-- a field's entry of a class's constants -/
def zFd (own : String) (idx c j : Nat) (C : String) (T : u_T) : Prop := zCl c C T ∧ j < zN c ∧ Cond.fieldLink own idx (T j).1 (T j).2.1 (T j).2.2.1 ∈ zgw
theorem zfl_get {B : Nat} {h : zHp} {a c j : Nat} (hj : j < zN c) : (zfl B h a c)[j]? = some (zfv B h a (zty c j) j) := by
  rw [zfl, List.getElem?_map, List.getElem?_range hj]
  rfl
theorem zfl_set {B : Nat} {h h' : zHp} {a c j : Nat} (hj : j < zN c) (ho : ∀ k, k ≠ j → zfv B h' a (zty c k) k = zfv B h a (zty c k) k) : (zfl B h a c).set j (zfv B h' a (zty c j) j) = zfl B h' a c := by
  apply List.ext_getElem?
  intro k
  have hl : (zfl B h a c).length = zN c := by simp [zfl]
  rw [List.getElem?_set, hl]
  by_cases hk : j = k
  · subst hk
    rw [if_pos rfl, if_pos hj, zfl_get hj]
  · rw [if_neg hk]
    by_cases hn : k < zN c
    · rw [zfl_get hn, zfl_get hn, ho k (fun q => hk q.symm)]
    · rw [List.getElem?_eq_none (by simp [zfl]; omega), List.getElem?_eq_none (by simp [zfl]; omega)]
theorem sI_fv {B : Nat} {h : zHp} {a j k : Nat} {z : Int} (t : FieldType) (hk : k ≠ j) : zfv B (sI h a j z) a t k = zfv B h a t k := by
  have e : (sI h a j z).1 a k = h.1 a k := by
    show (if a = a ∧ k = j then z else h.1 a k) = _
    rw [if_neg (fun q => hk q.2)]
  unfold zfv
  cases t <;> simp only [e] <;> rfl
theorem sL_fv {B : Nat} {h : zHp} {a j k : Nat} {z : Int} (t : FieldType) (hk : k ≠ j) : zfv B (sL h a j z) a t k = zfv B h a t k := by
  have e : (sL h a j z).2.1 a k = h.2.1 a k := by
    show (if a = a ∧ k = j then z else h.2.1 a k) = _
    rw [if_neg (fun q => hk q.2)]
  unfold zfv
  cases t <;> simp only [e] <;> rfl
theorem sR_fv {B : Nat} {h : zHp} {a j k r : Nat} (t : FieldType) (hk : k ≠ j) : zfv B (sR h a j r) a t k = zfv B h a t k := by
  have e : (sR h a j r).2.2 a k = h.2.2 a k := by
    show (if a = a ∧ k = j then r else h.2.2 a k) = _
    rw [if_neg (fun q => hk q.2)]
  unfold zfv
  cases t <;> simp only [e] <;> rfl
section HEAP
variable {G : zG} {R : Room} {Z : List Frame → Array Value → State → State → Prop} {X : Array Value → State → Prop} {M : zM} {n0 n pc : Nat} {ls : zLs} {st : List zV} {h : zHp}
theorem wq_getv {a c j idx : Nat} {C : String} {T : u_T} {v : zV} (hf : zFd M.1.cls idx c j C T) (ht : zT n a = (100 + c, zN c)) (hv : zfv G.2.1 h a (zty c j) j = zv G.2.1 v) (hok : zRg h → zok v) (d : decode M.2.1 pc = .ok (.getfield idx, 3)) (k : wq G R Z X M n0 n (pc + 3) ls (v :: st) h) : wq G R Z X M n0 n pc ls (vR a :: st) h := by
  intro p e s m args below meth c9 H locs lr hX hH hl hn h1 h2
  obtain ⟨⟨c1, c2, c3, c4⟩, f1, f2⟩ := hf
  obtain ⟨q1, q2, q3⟩ := zT_at ht (by simp only; omega)
  have he := zl_get (G := G) (h := h) q1 q2
  rw [q3, zent_o] at he
  refine va_get hX.1 hX.2.1 hX.2.2.2.2.2.2.1 c2 hX.2.2.2.2.2.1 hX.2.2.2.2.2.2.2.2.1.1 hH.1.1 (a - 1) he c1 j f1 (hX.2.2.2.2.2.2.1 _ f2) (fun _ x => x) (zfl_get f1) d ?_
  rw [hv]
  exact k p e s m args below meth c9 H locs lr hX hH hl hn h1 (zcons (hok hH.1.2.2.2) (ztl h2))
theorem wq_getI {a c j idx : Nat} {C : String} {T : u_T} (hf : zFd M.1.cls idx c j C T) (ht : zT n a = (100 + c, zN c)) (hk : ∀ (B : Nat) (h : zHp) (a : Nat), zfv B h a (zty c j) j = .int (Int32.ofInt (h.1 a j))) (d : decode M.2.1 pc = .ok (.getfield idx, 3)) (k : wq G R Z X M n0 n (pc + 3) ls (vI (gI h a j) :: st) h) : wq G R Z X M n0 n pc ls (vR a :: st) h :=
  wq_getv (v := vI (gI h a j)) hf ht (hk _ _ _) (fun hr => (hr a j).1) d k
theorem wq_getL {a c j idx : Nat} {C : String} {T : u_T} (hf : zFd M.1.cls idx c j C T) (ht : zT n a = (100 + c, zN c)) (hk : ∀ (B : Nat) (h : zHp) (a : Nat), zfv B h a (zty c j) j = .long (Int64.ofInt (h.2.1 a j))) (d : decode M.2.1 pc = .ok (.getfield idx, 3)) (k : wq G R Z X M n0 n (pc + 3) ls (vL (gL h a j) :: st) h) : wq G R Z X M n0 n pc ls (vR a :: st) h :=
  wq_getv (v := vL (gL h a j)) hf ht (hk _ _ _) (fun hr => (hr a j).2) d k
theorem wq_getR {a c j idx r : Nat} {C : String} {T : u_T} (hf : zFd M.1.cls idx c j C T) (ht : zT n a = (100 + c, zN c)) (hk : ∀ (B : Nat) (h : zHp) (a : Nat), zfv B h a (zty c j) j = va_rf (zrO B (h.2.2 a j))) (hr : gR h a j = r) (h0 : r ≠ 0) (d : decode M.2.1 pc = .ok (.getfield idx, 3)) (k : wq G R Z X M n0 n (pc + 3) ls (vR r :: st) h) : wq G R Z X M n0 n pc ls (vR a :: st) h := by
  refine wq_getv (v := vR r) hf ht ?_ (fun _ => trivial) d k
  rw [hk, show h.2.2 a j = r from hr, zrO, if_neg h0]
  rfl
theorem wq_putv {a c j idx : Nat} {C : String} {T : u_T} {v : zV} {h' : zHp} (hf : zFd M.1.cls idx c j C T) (ht : zT n a = (100 + c, zN c)) (hfin : (T j).2.2.2 = false ∨ ((T j).2.2.2 = true ∧ M.1.name = "<init>" ∧ (T j).1 = M.1.cls))
    (hv : zfv G.2.1 h' a (zty c j) j = zv G.2.1 v) (hna : narrow (zty c j) (zv G.2.1 v) = zv G.2.1 v) (hfi : fits (zty c j) (zv G.2.1 v) = true) (ho : ∀ b, b ≠ a → h'.1 b = h.1 b ∧ h'.2.1 b = h.2.1 b ∧ h'.2.2 b = h.2.2 b) (ho2 : ∀ k, k ≠ j → zfv G.2.1 h' a (zty c k) k = zfv G.2.1 h a (zty c k) k) (hrg : zok v → zRg h → zRg h')
    (d : decode M.2.1 pc = .ok (.putfield idx, 3)) (k : wq G R Z X M n0 n (pc + 3) ls st h') : wq G R Z X M n0 n pc ls (v :: vR a :: st) h := by
  intro p e s m args below meth c9 H locs lr hX hH hl hn h1 h2
  obtain ⟨⟨c1, c2, c3, c4⟩, f1, f2⟩ := hf
  obtain ⟨q1, q2, q3⟩ := zT_at ht (by simp only; omega)
  have he := zl_get (G := G) (h := h) q1 q2
  rw [q3, zent_o] at he
  have hts := hX.2.2.2.2.2.2.1
  have hK := hX.2.2.2.2.2.2.2.2.1.1
  have hown := hX.2.2.2.2.2.1
  have hap := va_apart (own := M.1.cls) hts c2 (zty c) c3 c4 hK c1
  obtain ⟨r, g1, cell, w1, w2, w3, w4⟩ := hH.1.1 (a - 1) _ he
  have hr : r = (C, T, zN c) := Option.some.inj (g1.symm.trans c1)
  subst hr
  obtain ⟨hS, hfc, kC, hkC, hkind⟩ := hK.1 c _ c1
  obtain ⟨cf, kf, fi, f, hi, hsl⟩ := hS j f1
  have hlay := hts _ (c2 _ (u_in_lay f1))
  have hst := (u_facts hfc hkC (u_lays hts c2 f1) hi).1
  have fin : ∀ H1 : Heap, H1[G.2.1 + a]? = some (cell.setSlot f.slot (zv G.2.1 v)) → H1.size = H.size → (∀ q : Nat, q ≠ G.2.1 + a → H1[q]? = H[q]?) → W p G.1 e R s m args below meth c9 H1 (locs ++ [⟨G.2.1 + a, f.slot⟩]) (n - n0) (zSL n - zSL n0) (Z below args s) (F0 m (pc + 3) lr (st.map (zv G.2.1))) := by
    intro H1 e1 e2 e3
    refine k p e s m args below meth c9 H1 _ lr hX (zH_put hH q1 q2 ?_ e2 e3 ho (hrg (zhd h2) hH.1.2.2.2)) hl hn h1 (ztl (ztl h2))
    rw [q3, zent_o]
    refine ⟨_, c1, ?_⟩
    rw [hsl] at e1
    refine t_OB.to (V := updV (vp_V (zfl G.2.1 h a c)) j (zv G.2.1 v)) ⟨_, e1, w2, w3, t_set w4 hap f1 (zv G.2.1 v)⟩ (fun i _ => ?_)
    rw [vp_updV_set (by simp [zfl]; exact f1), ← hv, zfl_set f1 ho2]
  rcases hfin with hfin | ⟨hfin, hin, hdecl⟩
  · unfold u_lay at hlay
    rw [if_neg (by rw [hfin]; decide)] at hlay
    have h6 := u_store hfc hkC hkind hlay hi (c3 j f1) hna hfi
    exact W.putK hX.1 hX.2.1 (f := f) ⟨hown, hts _ f2, ⟨_, _, _, hi⟩, hst⟩ (by rw [w2]; exact h6) w1 w3 (by rw [hsl]; exact k2_hasslot (w4 j f1)) rfl rfl d fin
  · unfold u_lay at hlay
    rw [if_pos hfin] at hlay
    have hcf : m.cls = cf := by
      obtain ⟨_, _, c', _, _, _, -, -, hf', -, -, -, hown2, -⟩ := Cond.laysFinal_spec hlay
      have e1 : c' = cf := by have := hi.symm.trans hf'; simp at this; exact this.1.symm
      rw [hdecl] at hown2
      rw [← e1]; exact Option.some.inj (hown.symm.trans hown2)
    have h6 := u_fits hfc hkC hkind (Or.inr hlay) hi (c3 j f1) hna hfi
    exact W.putFinK hX.1 hX.2.1 hown (hts _ f2) hi hst hcf (hX.2.2.2.2.2.2.2.1.trans hin) (by rw [w2]; exact h6) w1 w3 (by rw [hsl]; exact k2_hasslot (w4 j f1)) rfl rfl d fin
/-- an int field that isn't final -/
theorem wq_putI {a c j idx : Nat} {C : String} {T : u_T} {z : Int} (hf : zFd M.1.cls idx c j C T) (ht : zT n a = (100 + c, zN c)) (hfin : (T j).2.2.2 = false) (hk : zty c j = .int) (d : decode M.2.1 pc = .ok (.putfield idx, 3)) (k : wq G R Z X M n0 n (pc + 3) ls st (sI h a j z)) : wq G R Z X M n0 n pc ls (vI z :: vR a :: st) h := by
  refine wq_putv hf ht (Or.inl hfin) ?_ (by rw [hk]; rfl) (by rw [hk]; rfl) (fun b hb => sI_row hb) (fun i hi => sI_fv _ hi) (fun hz hr => zRg_sI hr hz) d k
  rw [hk]
  show Value.int (Int32.ofInt (if a = a ∧ j = j then z else h.1 a j)) = _
  rw [if_pos ⟨rfl, rfl⟩]
  rfl
/-- a boolean field that isn't final -/
theorem wq_putZ {a c j idx : Nat} {C : String} {T : u_T} {z : Int} (hz01 : z = 0 ∨ z = 1) (hf : zFd M.1.cls idx c j C T) (ht : zT n a = (100 + c, zN c)) (hfin : (T j).2.2.2 = false) (hk : zty c j = .boolean) (d : decode M.2.1 pc = .ok (.putfield idx, 3)) (k : wq G R Z X M n0 n (pc + 3) ls st (sI h a j z)) : wq G R Z X M n0 n pc ls (vI z :: vR a :: st) h := by
  refine wq_putv hf ht (Or.inl hfin) ?_ (by rw [hk]; rcases hz01 with rfl | rfl <;> rfl) (by rw [hk]; rcases hz01 with rfl | rfl <;> rfl) (fun b hb => sI_row hb) (fun i hi => sI_fv _ hi) (fun hz hr => zRg_sI hr hz) d k
  rw [hk]
  show Value.int (Int32.ofInt (if a = a ∧ j = j then z else h.1 a j)) = _
  rw [if_pos ⟨rfl, rfl⟩]
  rfl
theorem wq_putL {a c j idx : Nat} {C : String} {T : u_T} {z : Int} (hf : zFd M.1.cls idx c j C T) (ht : zT n a = (100 + c, zN c)) (hfin : (T j).2.2.2 = false) (hk : zty c j = .long) (d : decode M.2.1 pc = .ok (.putfield idx, 3)) (k : wq G R Z X M n0 n (pc + 3) ls st (sL h a j z)) : wq G R Z X M n0 n pc ls (vL z :: vR a :: st) h := by
  refine wq_putv hf ht (Or.inl hfin) ?_ (by rw [hk]; rfl) (by rw [hk]; rfl) (fun b hb => sL_row hb) (fun i hi => sL_fv _ hi) (fun hz hr => zRg_sL hr hz) d k
  rw [hk]
  show Value.long (Int64.ofInt (if a = a ∧ j = j then z else h.2.1 a j)) = _
  rw [if_pos ⟨rfl, rfl⟩]
  rfl
theorem wq_putR {a c j idx r : Nat} {C : String} {T : u_T} (h0 : r ≠ 0) (hf : zFd M.1.cls idx c j C T) (ht : zT n a = (100 + c, zN c)) (hfin : (T j).2.2.2 = false ∨ ((T j).2.2.2 = true ∧ M.1.name = "<init>" ∧ (T j).1 = M.1.cls)) (hk : ∀ (B : Nat) (h : zHp) (a : Nat), zfv B h a (zty c j) j = va_rf (zrO B (h.2.2 a j))) (hna : ∀ q, narrow (zty c j) (.ref q) = .ref q) (hfi : ∀ q, fits (zty c j) (.ref q) = true) (d : decode M.2.1 pc = .ok (.putfield idx, 3)) (k : wq G R Z X M n0 n (pc + 3) ls st (sR h a j r)) : wq G R Z X M n0 n pc ls (vR r :: vR a :: st) h := by
  refine wq_putv hf ht hfin ?_ (hna _) (hfi _) (fun b hb => sR_row hb) (fun i hi => sR_fv _ hi) (fun _ hr => zRg_sR hr) d k
  rw [hk]
  show va_rf (zrO _ (if a = a ∧ j = j then r else h.2.2 a j)) = _
  rw [if_pos ⟨rfl, rfl⟩, zrO, if_neg h0]
  rfl
end HEAP
end
section
theorem zi_ofNat (k : Nat) : Int32.ofInt (k : Int) = Int32.ofNat k := by
  show (⟨⟨BitVec.ofInt 32 (k : Int)⟩⟩ : Int32) = ⟨⟨BitVec.ofNat 32 k⟩⟩
  rw [BitVec.ofInt_natCast]
theorem zZ_up {n : Nat} {h : zHp} (hz : zZ n h) : zZ (n + 1) h := fun a ha i => hz a (by omega) i
section ARR
variable {G : zG} {R : Room} {Z : List Frame → Array Value → State → State → Prop} {X : Array Value → State → Prop} {M : zM} {n0 n pc : Nat} {ls : zLs} {st : List zV} {h : zHp}
theorem wq_iald {a len : Nat} {i : Int} (ht : zT n a = (0, len)) (i0 : 0 ≤ i) (i1 : i < len) (d : decode M.2.1 pc = .ok (.iaload, 1)) (k : wq G R Z X M n0 n (pc + 1) ls (vI (gI h a i.toNat) :: st) h) : wq G R Z X M n0 n pc ls (vI i :: vR a :: st) h := by
  intro p e s m args below meth c H locs lr hX hH hl hn h1 h2
  obtain ⟨q1, q2, q3⟩ := zT_at ht (by simp)
  have he := zl_get (G := G) (h := h) q1 q2
  rw [q3, zent_0] at he
  refine va_iald hX.1 hX.2.1 hX.2.2.2.2.2.2.2.2.1.1 hH.1.1 (a - 1) 0 he rfl (zi_in (zhd h2) i0 i1) d ?_
  simp only [zi_nat (show zII i from zhd h2)]
  exact k p e s m args below meth c H locs lr hX hH hl hn h1 (zcons (hH.1.2.2.2 a i.toNat).1 (ztl (ztl h2)))
theorem wq_lald {a len : Nat} {i : Int} (ht : zT n a = (1, len)) (i0 : 0 ≤ i) (i1 : i < len) (d : decode M.2.1 pc = .ok (.laload, 1)) (k : wq G R Z X M n0 n (pc + 1) ls (vL (gL h a i.toNat) :: st) h) : wq G R Z X M n0 n pc ls (vI i :: vR a :: st) h := by
  intro p e s m args below meth c H locs lr hX hH hl hn h1 h2
  obtain ⟨q1, q2, q3⟩ := zT_at ht (by simp)
  have he := zl_get (G := G) (h := h) q1 q2
  rw [q3, zent_1] at he
  refine va_lald hX.1 hX.2.1 hX.2.2.2.2.2.2.2.2.1.1 hH.1.1 (a - 1) 1 he rfl (zi_in (zhd h2) i0 i1) d ?_
  simp only [zi_nat (show zII i from zhd h2)]
  exact k p e s m args below meth c H locs lr hX hH hl hn h1 (zcons (hH.1.2.2.2 a i.toNat).2 (ztl (ztl h2)))
theorem wq_aald {a t len r : Nat} {C : String} {i : Int} (ht : zT n a = (t, len)) (t1 : 2 ≤ t) (t2 : t < 99) (hC : (ztys G)[t]? = some (G.2.2.2 t, .object C)) (i0 : 0 ≤ i) (i1 : i < len) (hr : gR h a i.toNat = r) (r0 : r ≠ 0) (d : decode M.2.1 pc = .ok (.aaload, 1)) (k : wq G R Z X M n0 n (pc + 1) ls (vR r :: st) h) : wq G R Z X M n0 n pc ls (vI i :: vR a :: st) h := by
  intro p e s m args below meth c H locs lr hX hH hl hn h1 h2
  obtain ⟨q1, q2, q3⟩ := zT_at ht (by simp only; omega)
  have he := zl_get (G := G) (h := h) q1 q2
  rw [q3, zent_a t1 (by omega)] at he
  refine va_aldq hX.1 hX.2.1 hX.2.2.2.2.2.2.2.2.1.1 hH.1.1 (a - 1) t he hC (zi_in (zhd h2) i0 i1) d ?_
  simp only [zi_nat (show zII i from zhd h2)]
  rw [show h.2.2 a i.toNat = r from hr, zrO, if_neg r0]
  exact k p e s m args below meth c H locs lr hX hH hl hn h1 (zcons trivial (ztl (ztl h2)))
theorem wq_alen {a t len : Nat} (ht : zT n a = (t, len)) (ht9 : t ≤ 5) (hl9 : len ≤ 2147483647) (d : decode M.2.1 pc = .ok (.arraylength, 1)) (k : wq G R Z X M n0 n (pc + 1) ls (vI (len : Int) :: st) h) : wq G R Z X M n0 n pc ls (vR a :: st) h := by
  intro p e s m args below meth c H locs lr hX hH hl hn h1 h2
  obtain ⟨q1, q2, q3⟩ := zT_at ht (by simp only; omega)
  have he := zl_get (G := G) (h := h) q1 q2
  rw [q3] at he
  have kk := k p e s m args below meth c H locs lr hX hH hl hn h1 (zcons ⟨by omega, by omega⟩ (ztl h2))
  have hv : ∀ {x : vp_A}, x.1 = len → Int32.ofNat x.1 = Int32.ofInt (len : Int) := fun e => by rw [e, zi_ofNat]
  rcases (show t = 0 ∨ t = 1 ∨ t = 2 ∨ t = 3 ∨ t = 4 ∨ t = 5 by omega) with rfl | rfl | rfl | rfl | rfl | rfl
  · rw [zent_0] at he
    exact va_alen hX.1 hX.2.1 hX.2.2.2.2.2.2.2.2.1.1 hH.1.1 (a - 1) 0 he rfl (hv rfl) d kk
  · rw [zent_1] at he
    exact va_alen hX.1 hX.2.1 hX.2.2.2.2.2.2.2.2.1.1 hH.1.1 (a - 1) 1 he rfl (hv rfl) d kk
  · rw [zent_a (by omega) (by omega)] at he
    exact va_alen hX.1 hX.2.1 hX.2.2.2.2.2.2.2.2.1.1 hH.1.1 (a - 1) 2 he rfl (hv rfl) d kk
  · rw [zent_a (by omega) (by omega)] at he
    exact va_alen hX.1 hX.2.1 hX.2.2.2.2.2.2.2.2.1.1 hH.1.1 (a - 1) 3 he rfl (hv rfl) d kk
  · rw [zent_a (by omega) (by omega)] at he
    exact va_alen hX.1 hX.2.1 hX.2.2.2.2.2.2.2.2.1.1 hH.1.1 (a - 1) 4 he rfl (hv rfl) d kk
  · rw [zent_a (by omega) (by omega)] at he
    exact va_alen hX.1 hX.2.1 hX.2.2.2.2.2.2.2.2.1.1 hH.1.1 (a - 1) 5 he rfl (hv rfl) d kk
theorem wq_iast {a len : Nat} {i z : Int} (ht : zT n a = (0, len)) (i0 : 0 ≤ i) (i1 : i < len) (d : decode M.2.1 pc = .ok (.iastore, 1)) (k : wq G R Z X M n0 n (pc + 1) ls st (sI h a i.toNat z)) : wq G R Z X M n0 n pc ls (vI z :: vI i :: vR a :: st) h := by
  intro p e s m args below meth c H locs lr hX hH hl hn h1 h2
  obtain ⟨q1, q2, q3⟩ := zT_at ht (by simp)
  have he := zl_get (G := G) (h := h) q1 q2
  rw [q3, zent_0] at he
  have hi : zII i := zhd (ztl h2)
  refine W.iast hX.1 hX.2.1 (hH.1.1 (a - 1) _ he) ((hX.2.2.2.2.2.2.2.2.1.1.2 0 _ rfl).1 len (fun j => .int (Int32.ofInt (h.1 a j)))) (fun q => by cases q) (by show ¬ (_ < 0 ∨ (arrV _ _ _).slots.size ≤ _); rw [arrV_size]; exact zi_in hi i0 i1) rfl rfl d fun H1 e1 e2 e3 => ?_
  refine k p e s m args below meth c H1 _ lr hX (zH_put hH q1 q2 ?_ e2 e3 (fun b hb => sI_row hb) (zRg_sI hH.1.2.2.2 (zhd h2))) hl hn h1 (ztl (ztl (ztl h2)))
  rw [q3, zent_0]
  show H1[_]? = some (vp_cell _ _)
  rw [e1]
  show some ((vp_cell _ _).setSlot _ _) = _
  rw [vp_cell_i, vp_cell_i, arrV_store, zi_nat hi]
  congr 2
  funext q
  show _ = Value.int (Int32.ofInt (if a = a ∧ q = i.toNat then z else h.1 a q))
  by_cases hq : q = i.toNat
  · rw [if_pos ⟨rfl, hq⟩]
    simp [updV, hq]
  · rw [if_neg (fun x => hq x.2)]
    simp [updV, hq]
theorem wq_last {a len : Nat} {i z : Int} (ht : zT n a = (1, len)) (i0 : 0 ≤ i) (i1 : i < len) (d : decode M.2.1 pc = .ok (.lastore, 1)) (k : wq G R Z X M n0 n (pc + 1) ls st (sL h a i.toNat z)) : wq G R Z X M n0 n pc ls (vL z :: vI i :: vR a :: st) h := by
  intro p e s m args below meth c H locs lr hX hH hl hn h1 h2
  obtain ⟨q1, q2, q3⟩ := zT_at ht (by simp)
  have he := zl_get (G := G) (h := h) q1 q2
  rw [q3, zent_1] at he
  have hi : zII i := zhd (ztl h2)
  refine W.last hX.1 hX.2.1 (hH.1.1 (a - 1) _ he) ((hX.2.2.2.2.2.2.2.2.1.1.2 1 _ rfl).1 len (fun j => .long (Int64.ofInt (h.2.1 a j)))) (fun q => by cases q) (by show ¬ (_ < 0 ∨ (arrV _ _ _).slots.size ≤ _); rw [arrV_size]; exact zi_in hi i0 i1) rfl rfl d fun H1 e1 e2 e3 => ?_
  refine k p e s m args below meth c H1 _ lr hX (zH_put hH q1 q2 ?_ e2 e3 (fun b hb => sL_row hb) (zRg_sL hH.1.2.2.2 (zhd h2))) hl hn h1 (ztl (ztl (ztl h2)))
  rw [q3, zent_1]
  show H1[_]? = some (vp_cell _ _)
  rw [e1]
  show some ((vp_cell _ _).setSlot _ _) = _
  rw [vp_cell_l, vp_cell_l, arrV_store, zi_nat hi]
  congr 2
  funext q
  show _ = Value.long (Int64.ofInt (if a = a ∧ q = i.toNat then z else h.2.1 a q))
  by_cases hq : q = i.toNat
  · rw [if_pos ⟨rfl, hq⟩]
    simp [updV, hq]
  · rw [if_neg (fun x => hq x.2)]
    simp [updV, hq]
theorem wq_aast {a t len r cc : Nat} {C : String} {T : u_T} {i : Int} (ht : zT n a = (t, len)) (t1 : 2 ≤ t) (t2 : t < 99) (hC : (ztys G)[t]? = some (G.2.2.2 t, .object C)) (hr : zT n r = (100 + cc, zN cc)) (r0 : r ≠ 0) (hcl : zcl[cc]? = some (C, T, zN cc)) (i0 : 0 ≤ i) (i1 : i < len) (d : decode M.2.1 pc = .ok (.aastore, 1)) (k : wq G R Z X M n0 n (pc + 1) ls st (sR h a i.toNat r)) : wq G R Z X M n0 n pc ls (vR r :: vI i :: vR a :: st) h := by
  intro p e s m args below meth c H locs lr hX hH hl hn h1 h2
  obtain ⟨q1, q2, q3⟩ := zT_at ht (by simp only; omega)
  have he := zl_get (G := G) (h := h) q1 q2
  rw [q3, zent_a t1 (by omega)] at he
  obtain ⟨w1, w2, w3⟩ := zT_at hr (by simp only; omega)
  have hv := zl_get (G := G) (h := h) w1 w2
  rw [w3, zent_o] at hv
  have hi : zII i := zhd (ztl h2)
  have hK := hX.2.2.2.2.2.2.2.2.1.1
  have hlt : (Int32.ofInt i).toNatClampNeg < len := by rw [zi_nat hi]; omega
  obtain ⟨r', hr', cellV, g1, g2, g3, -⟩ := hH.1.1 (r - 1) _ hv
  have hcls := (hK.1 cc _ hcl).2
  obtain ⟨kA, comp, k1, k2, k3, -⟩ := (hK.2 t _ hC).2
  have hcomp : comp = G.2.2.1.1 cc := Option.some.inj (k3.symm.trans hcls.1)
  subst hcomp
  obtain ⟨kC, hkC, -⟩ := hcls.2
  refine W.aast hX.1 hX.2.1 (hH.1.1 (a - 1) _ he) (fun q h => by cases h) (fun h => by cases h) k1 k2 rfl hkC ⟨fun q => by have := (zi_lt0 hi).mp q; omega, by show _ < (arrV _ _ _).slots.size; rw [arrV_size]; exact hlt⟩ g1 (fun q h => by rw [g3] at h; cases h) (by rw [g2]; exact hkC) (by rw [g2]; exact va_assign hcls) rfl rfl d fun H1 e1 e2 e3 => ?_
  refine k p e s m args below meth c H1 _ lr hX (zH_put hH q1 q2 ?_ e2 e3 (fun b hb => sR_row hb) (zRg_sR hH.1.2.2.2)) hl hn h1 (ztl (ztl (ztl h2)))
  rw [q3, zent_a t1 (by omega)]
  show H1[_]? = some (vp_cell _ _)
  rw [e1]
  show some ((vp_cell _ _).setSlot _ _) = _
  rw [vp_cell_q, vp_cell_q, arrV_store, zi_nat hi]
  congr 2
  funext q
  show _ = va_rf (zrO _ (if a = a ∧ q = i.toNat then r else h.2.2 a q))
  by_cases hq : q = i.toNat
  · rw [if_pos ⟨rfl, hq⟩, zrO, if_neg r0]
    simp [updV, hq, va_rf]
  · rw [if_neg (fun x => hq x.2)]
    simp [updV, hq]
end ARR
end
section
theorem zKx.moved {G : zG} {u U : State} (hW : u.WarmedH U.vm) (h : zKx G u) : zKx G U :=
  ⟨va_K.moved hW.alike h.1, ⟨h.2.1.1.moved hW.alike, h.2.1.2.1.moved hW.alike, h.2.1.2.2.1.moved hW.alike, h.2.1.2.2.2.moved hW.alike⟩, va_Nw.warmM hW h.2.2⟩
theorem zKx.calling {G : zG} {U : State} {g : JFrame} {mk : MethodId} {a : Array Value} (h : zKx G U) : zKx G (U.calling g mk a) :=
  ⟨va_K.moved (u := U) (U := U.calling g mk a) (Vm.Alike.refl U.vm) h.1, ⟨h.2.1.1.moved (u := U) (U := U.calling g mk a) (Vm.Alike.refl U.vm), h.2.1.2.1.moved (u := U) (U := U.calling g mk a) (Vm.Alike.refl U.vm), h.2.1.2.2.1.moved (u := U) (U := U.calling g mk a) (Vm.Alike.refl U.vm), h.2.1.2.2.2.moved (u := U) (U := U.calling g mk a) (Vm.Alike.refl U.vm)⟩, va_Nw.same rfl (u := U) (U := U.calling g mk a) rfl h.2.2⟩
def zar : Nat → List zV → zLs
  | _, [] => []
  | k, v :: vs => (k, v) :: zar (k + zcat v) vs
def zsz (As : List zV) : Nat := (As.map zcat).sum
theorem zar_ok {As : List zV} (h : ∀ v ∈ As, zok v) : ∀ (k : Nat), ∀ q ∈ zar k As, zok q.2 := by
  induction As with
  | nil => intro k q hq; cases hq
  | cons v vs ih =>
    intro k q hq
    rcases List.mem_cons.mp hq with rfl | hq
    · exact zhd h
    · exact ih (ztl h) _ q hq
theorem zar_args {B : Nat} : ∀ (As : List zV) (k : Nat), lv_args k (As.map (zv B)) = zlm B (zar k As)
  | [], _ => rfl
  | v :: vs, k => by
    have ih := zar_args (B := B) vs
    rcases v with z | z | a <;> simp [lv_args, zar, zlm, zcat, zv, Value.category, ih]
theorem zsz_len {B : Nat} : ∀ (As : List zV), (lg_sl (As.map (zv B))).length = zsz As
  | [] => rfl
  | v :: vs => by
    have ih := zsz_len (B := B) vs
    rcases v with z | z | a <;> simp_all [lg_sl, zsz, zcat, zv, Value.category] <;> omega
def zPc (G : zG) (n : Nat) (h : zHp) (As : List zV) : Array Value → State → Prop := fun a U => a = (As.map (zv G.2.1)).toArray ∧ zHe G n h U.heap ∧ zKx G U
theorem zPc_blind {G : zG} {n : Nat} {h : zHp} {As : List zV} : FrameBlind (zPc G n h As) := fun _ _ _ _ q => ⟨q.1, q.2.1, q.2.2.calling⟩
theorem zMet {G : zG} {d nE n : Nat} {M' : zM} {As : List zV} {h : zHp} {Q : Option zV → zHp → Prop} (hw : wp G d n nE M' n 0 (zar 0 As) [] h Q) (hok : ∀ v ∈ As, zok v) (hy : plainName M'.1.cls = true) (hsz : zsz As ≤ M'.2.2.1) :
    Met G.1 M'.1 (Cond.code M'.1 M'.2.1 M'.2.2.1 M'.2.2.2 :: zgw) (zRm d n nE) (zPc G n h As) (zQc G nE Q) (nE - n) (zSL nE - zSL n) (zA G) := by
  refine Met.ofW (cc := M'.2.1) (maxL := M'.2.2.1) (ret := M'.2.2.2) hy rfl ?_
  intro p e s m args below meth c s₁ B hml hP
  obtain ⟨rfl, hHe, hK⟩ := hP
  have hts := atoms_spec (ws := Cond.code M'.1 M'.2.1 M'.2.2.1 M'.2.2.2 :: zgw) B.pre
  have hown : s.vm.findClass M'.1.cls = some m.cls := findClass_of_methodNamed B.named
  have hin : meth.name = M'.1.name := (name_of_methodNamed B.named B.method).1
  rw [lg_entry_eq]
  have hl := lv_entry (As.map (zv G.2.1)) (n := M'.2.2.1) (by rw [zsz_len]; exact hsz)
  rw [zar_args] at hl
  have k := hw p e s m ((As.map (zv G.2.1)).toArray) below meth c s.heap [] _ ⟨B.exec, B.bytes, B.returns, B.notSynchronized, hml, hown, fun w hw => hts w (List.mem_cons_of_mem _ hw), hin, hK, trivial⟩ ⟨hHe, va_S.rf, hHe.2.1⟩ hl (Nat.le_refl n) (zar_ok hok 0) (fun v hv => by cases hv)
  rw [Nat.sub_self, Nat.sub_self] at k
  exact k
/-- what a method's own words say -/
def zMd (M' : zM) (k : Nat) : Prop := plainName M'.1.cls = true ∧ Cond.code M'.1 M'.2.1 M'.2.2.1 M'.2.2.2 ∈ zgw ∧ Cond.initialized M'.1.cls ∈ zgw ∧ (M'.1.cls ≠ "java/lang/invoke/MethodHandle" ∧ M'.1.cls ≠ "java/lang/invoke/VarHandle") ∧ (parseMethodDescriptor M'.1.desc).map (fun d => d.parameters.length) = some k ∧ M'.2.2.1 ≤ 80
def zFit (R : Room) (n0 nE d : Nat) : Prop := d + 1 ≤ R.frames ∧ 100 * d + 99 ≤ R.locals ∧ nE - n0 ≤ R.cells ∧ zSL nE - zSL n0 ≤ R.slots
theorem zFit_rm {d d' n0 n' nE : Nat} (h1 : d + 1 ≤ d') (h2 : n' ≤ nE) : zFit (zRm d' n0 nE) n0 n' d := by
  have := zSL_le h2
  refine ⟨h1, ?_, ?_, ?_⟩
  · show 100 * d + 99 ≤ 100 * d'
    omega
  · show n' - n0 ≤ nE - n0
    omega
  · show zSL n' - zSL n0 ≤ zSL nE - zSL n0
    omega
section CALLS
variable {G : zG} {R : Room} {Z : List Frame → Array Value → State → State → Prop} {X : Array Value → State → Prop} {M : zM} {n0 n pc : Nat} {ls : zLs} {st : List zV} {h : zHp}
theorem zcall_go {d' nE' : Nat} {Q' : Option zV → zHp → Prop} {p : Program} {e : Env} {s : State} {m : MethodId} {args : Array Value} {below : List Frame} {meth : Method} {c : Code} {H : Heap} {locs : List Loc} {lr : Array Slot} {stk : List Value} {a9 : Array Value}
    (hn' : n ≤ nE') (hX : zX G X M p s m args meth c) (hH : zH G n0 n h s H locs) (hl : lv_has lr M.2.2.1 (zlm G.2.1 ls)) (hn : n0 ≤ n) (h1 : ∀ q ∈ ls, zok q.2) (h2 : ∀ v ∈ st, zok v)
    (run : va_Run p G.1 e R s m args below meth c H locs (n - n0) (zSL n - zSL n0) (nE' - n) (zSL nE' - zSL n) (F0 m pc lr stk) (st.map (zv G.2.1)) (zQc G nE' Q' a9) (zA G))
    (k : ∀ (v : Option zV) (h' : zHp), Q' v h' → (∀ x ∈ v.toList, zok x) → wq G R Z X M n0 nE' (pc + 3) ls (v.toList ++ st) h') :
    W p G.1 e R s m args below meth c H locs (n - n0) (zSL n - zSL n0) (Z below args s) (F0 m pc lr stk) := by
  intro T hT X'
  obtain ⟨v, st₀, t, T', L, g0, X'', hL, e1, e2, ⟨v', h', hv, hq, hok, hHe, hF⟩, st'⟩ := run T hT X'
  cases hv
  have z1 := zSL_le hn
  have z2 := zSL_le hn'
  rw [show n - n0 + (nE' - n) = nE' - n0 by omega, show zSL n - zSL n0 + (zSL nE' - zSL n) = zSL nE' - zSL n0 by omega] at X''
  have hS := hH.2.1
  have kk := k v' h' hq hok p e s m args below meth c T'.heap (locs ++ L) lr hX ⟨by rw [e1]; exact hHe, ⟨Nat.le_trans hS.1 (by rw [e1]; rw [← g0]; exact hF.1), fun q w1 w2 => by
      rw [e1, hF.2 q (by rw [g0]; exact Nat.lt_of_lt_of_le w1 hS.1) w2, g0]
      exact hS.2.1 q w1 w2, fun q hq => by
      rcases List.mem_append.mp hq with w | w
      · exact hS.2.2 q w
      · exact hL q w⟩, hH.2.2⟩ hl (by omega) h1 (fun x hx => by
      rcases List.mem_append.mp hx with w | w
      · exact hok x w
      · exact h2 x w) T' rfl X''
  obtain ⟨t2, a1, b1⟩ := kk
  refine ⟨t2, st' t2 ?_, b1⟩
  have ef : ({ F0 m pc lr stk with pc := (F0 m pc lr stk).pc + 3, stack := (v'.map (zv G.2.1)).toList ++ st.map (zv G.2.1) } : JFrame) = F0 m (pc + 3) lr ((v'.toList ++ st).map (zv G.2.1)) := by
    cases v' <;> rfl
  rw [ef]
  exact a1
theorem zcB {d' nE' idx k : Nat} {M' : zM} {s : State} {args : Array Value} (hts : ∀ w ∈ zgw, w.before args s = true) (hm : zMd M' k) (hlk : Cond.methodLink M.1.cls idx M'.1 ∈ zgw) (hR : zFit R n0 nE' d') :
    CallB R s args M.1.cls idx M'.1 M'.2.1 M'.2.2.1 M'.2.2.2 (Cond.code M'.1 M'.2.1 M'.2.2.1 M'.2.2.2 :: zgw) (zRm d' n nE') (nE' - n) (zSL nE' - zSL n) k := by
  obtain ⟨m1, m2, m3, m4, m5, m6⟩ := hm
  refine ⟨rfl, rfl, hR.1, ?_, ?_, List.mem_cons_self, hts _ m2, hts _ m3, m4, ?_, hts _ hlk⟩
  · show 8 + (M'.2.2.1 + 11) + 100 * d' ≤ R.locals
    have := hR.2.1
    omega
  · exact pay_in hts (fun w hw => by
      rcases List.mem_cons.mp hw with rfl | hw
      · exact zgw_good _ m2
      · exact zgw_good _ hw)
  · intro sig hs
    rw [hs] at m5
    exact (Option.some.inj m5).symm
theorem zfit_cells {n nE' d' : Nat} (hR : zFit R n0 nE' d') (hn : n0 ≤ n) (hn' : n ≤ nE') : n - n0 + (nE' - n) ≤ R.cells ∧ zSL n - zSL n0 + (zSL nE' - zSL n) ≤ R.slots := by
  have z1 := zSL_le hn
  have z2 := zSL_le hn'
  have := hR.2.2.1
  have := hR.2.2.2
  constructor <;> omega
theorem wq_callV {idx nE' d' a c : Nat} {M' : zM} {T9 : u_T} {As stk : List zV} {Q' : Option zV → zHp → Prop} (kP : Nat) (hm : zMd M' kP) (hi : Cond.instanceMethod M'.1 ∈ zgw) (hse : Cond.selects M'.1.cls M'.1 M'.1 ∈ zgw) (hlk : Cond.methodLink M.1.cls idx M'.1 ∈ zgw) (hc : zcl[c]? = some (M'.1.cls, T9, zN c)) (ht : zT n a = (100 + c, zN c)) (hst : stk = As.reverse ++ vR a :: st) (hk : As.length = kP) (hsz : zsz (vR a :: As) ≤ M'.2.2.1) (hcat : (st.map zcat).sum ≤ 8) (hn' : n ≤ nE') (hR : zFit R n0 nE' d') (d : decode M.2.1 pc = .ok (.invokevirtual idx, 3))
    (hw : wp G d' n nE' M' n 0 (zar 0 (vR a :: As)) [] h Q') (k : ∀ (v : Option zV) (h' : zHp), Q' v h' → (∀ x ∈ v.toList, zok x) → wq G R Z X M n0 nE' (pc + 3) ls (v.toList ++ st) h') : wq G R Z X M n0 n pc ls stk h := by
  intro p e s m args below meth c9 H locs lr hX hH hl hn h1 h2
  subst hst
  have hok : ∀ v ∈ vR a :: As, zok v := zcons trivial (fun w hw => h2 w (List.mem_append_left _ (List.mem_reverse.mpr hw)))
  have hst : ∀ v ∈ st, zok v := fun w hw => h2 w (List.mem_append_right _ (List.mem_cons_of_mem _ hw))
  have hM := zMet hw hok hm.1 hsz
  obtain ⟨q1, q2, q3⟩ := zT_at ht (by simp only; omega)
  have he := zl_get (G := G) (h := h) q1 q2
  rw [q3, zent_o] at he
  have hK := hX.2.2.2.2.2.2.2.2.1
  refine zcall_go (d' := d') (a9 := ((vR a :: As).map (zv G.2.1)).toArray) hn' hX hH hl hn h1 hst ?_ k
  exact va_runV (C := M'.1.cls) (b := G.2.1 + a) (As := As.map (zv G.2.1)) (rest := st.map (zv G.2.1)) (g := F0 m pc lr ((As.reverse ++ vR a :: st).map (zv G.2.1))) ⟨hX.1, hX.2.1, hX.2.2.2.2.1, hX.2.2.2.2.2.1, hX.2.2.2.2.2.2.1⟩ hM ⟨zcB hX.2.2.2.2.2.2.1 hm hlk hR, hX.2.2.2.2.2.2.1 _ hi, hX.2.2.2.2.2.2.1 _ hse⟩
    ⟨zPc_blind, va_recv hK.1 hH.1.1 hc he, fun U hU hW => ⟨rfl, by rw [hU]; exact hH.1, hK.moved hW⟩⟩ rfl (by rw [List.length_map]; exact hk) hl.1 (by simp [zv]) (lv_room (by
      have e : ((st.map (zv G.2.1)).map fun v => v.category) = st.map zcat := by rw [List.map_map]; exact List.map_congr_left (fun v _ => zcat_v _ v)
      rw [e]; exact hcat)) d (zfit_cells hR hn hn')
theorem wq_callS {idx nE' d' : Nat} {M' : zM} {As stk : List zV} {Q' : Option zV → zHp → Prop} (kP : Nat) (hm : zMd M' kP) (hs : Cond.static M'.1 ∈ zgw) (hlk : Cond.methodLink M.1.cls idx M'.1 ∈ zgw) (hst : stk = As.reverse ++ st) (hk : As.length = kP) (hsz : zsz As ≤ M'.2.2.1) (hcat : (st.map zcat).sum ≤ 8) (hn' : n ≤ nE') (hR : zFit R n0 nE' d') (d : decode M.2.1 pc = .ok (.invokestatic idx, 3))
    (hw : wp G d' n nE' M' n 0 (zar 0 As) [] h Q') (k : ∀ (v : Option zV) (h' : zHp), Q' v h' → (∀ x ∈ v.toList, zok x) → wq G R Z X M n0 nE' (pc + 3) ls (v.toList ++ st) h') : wq G R Z X M n0 n pc ls stk h := by
  intro p e s m args below meth c9 H locs lr hX hH hl hn h1 h2
  subst hst
  have hok : ∀ v ∈ As, zok v := fun w hw => h2 w (List.mem_append_left _ (List.mem_reverse.mpr hw))
  have hst : ∀ v ∈ st, zok v := fun w hw => h2 w (List.mem_append_right _ hw)
  have hM := zMet hw hok hm.1 hsz
  have hK := hX.2.2.2.2.2.2.2.2.1
  refine zcall_go (d' := d') (a9 := (As.map (zv G.2.1)).toArray) hn' hX hH hl hn h1 hst ?_ k
  exact va_runS (As := As.map (zv G.2.1)) (rest := st.map (zv G.2.1)) (g := F0 m pc lr ((As.reverse ++ st).map (zv G.2.1))) ⟨hX.1, hX.2.1, hX.2.2.2.2.1, hX.2.2.2.2.2.1, hX.2.2.2.2.2.2.1⟩ hM ⟨zcB hX.2.2.2.2.2.2.1 hm hlk hR, hX.2.2.2.2.2.2.1 _ hs⟩
    ⟨zPc_blind, fun U hU hW => ⟨rfl, by rw [hU]; exact hH.1, hK.moved hW⟩⟩ rfl (by rw [List.length_map]; exact hk) hl.1 (by simp) (lv_room (by
      have e : ((st.map (zv G.2.1)).map fun v => v.category) = st.map zcat := by rw [List.map_map]; exact List.map_congr_left (fun v _ => zcat_v _ v)
      rw [e]; exact hcat)) d (zfit_cells hR hn hn')
theorem wq_callI {idx nE' d' a : Nat} {M' : zM} {As stk : List zV} {Q' : Option zV → zHp → Prop} (kP : Nat) (hm : zMd M' kP) (hret : M'.2.2.2 = none) (hnm : M'.1.name = "<init>") (hi : Cond.instanceMethod M'.1 ∈ zgw) (hlk : Cond.methodLink M.1.cls idx M'.1 ∈ zgw) (hst : stk = As.reverse ++ vR a :: st) (hk : As.length = kP) (hsz : zsz (vR a :: As) ≤ M'.2.2.1) (hcat : (st.map zcat).sum ≤ 8) (hn' : n ≤ nE') (hR : zFit R n0 nE' d') (d : decode M.2.1 pc = .ok (.invokespecial idx, 3))
    (hw : wp G d' n nE' M' n 0 (zar 0 (vR a :: As)) [] h Q') (k : ∀ (v : Option zV) (h' : zHp), Q' v h' → (∀ x ∈ v.toList, zok x) → wq G R Z X M n0 nE' (pc + 3) ls (v.toList ++ st) h') : wq G R Z X M n0 n pc ls stk h := by
  intro p e s m args below meth c9 H locs lr hX hH hl hn h1 h2
  subst hst
  have hok : ∀ v ∈ vR a :: As, zok v := zcons trivial (fun w hw => h2 w (List.mem_append_left _ (List.mem_reverse.mpr hw)))
  have hst : ∀ v ∈ st, zok v := fun w hw => h2 w (List.mem_append_right _ (List.mem_cons_of_mem _ hw))
  have hM := zMet hw hok hm.1 hsz
  have hK := hX.2.2.2.2.2.2.2.2.1
  have cb := zcB (R := R) (n := n) hX.2.2.2.2.2.2.1 hm hlk hR
  rw [hret] at hM cb
  refine zcall_go (d' := d') (a9 := ((vR a :: As).map (zv G.2.1)).toArray) hn' hX hH hl hn h1 hst ?_ k
  exact va_runI (b := G.2.1 + a) (As := As.map (zv G.2.1)) (rest := st.map (zv G.2.1)) (g := F0 m pc lr ((As.reverse ++ vR a :: st).map (zv G.2.1))) ⟨hX.1, hX.2.1, hX.2.2.2.2.1, hX.2.2.2.2.2.1, hX.2.2.2.2.2.2.1⟩ hM ⟨cb, hnm, hX.2.2.2.2.2.2.1 _ hi⟩
    ⟨zPc_blind, fun U hU hW => ⟨rfl, by rw [hU]; exact hH.1, hK.moved hW⟩⟩ rfl (by rw [List.length_map]; exact hk) hl.1 (by simp [zv]) (lv_room (by
      have e : ((st.map (zv G.2.1)).map fun v => v.category) = st.map zcat := by rw [List.map_map]; exact List.map_congr_left (fun v _ => zcat_v _ v)
      rw [e]; exact hcat)) d (zfit_cells hR hn hn')
theorem wq_objInit {idx a : Nat} (hlk : Cond.methodLink M.1.cls idx Lib.objectInit ∈ zgw) (hi : Cond.instanceMethod Lib.objectInit ∈ zgw) (hcd : Cond.code Lib.objectInit ⟨#[0xb1]⟩ 1 none ∈ zgw) (hcat : (st.map zcat).sum ≤ 8) (hf : 1 ≤ R.frames) (hlo : 20 ≤ R.locals) (d : decode M.2.1 pc = .ok (.invokespecial idx, 3)) (k : wq G R Z X M n0 n (pc + 3) ls st h) : wq G R Z X M n0 n pc ls (vR a :: st) h := by
  intro p e s m args below meth c9 H locs lr hX hH hl hn h1 h2
  have hts := hX.2.2.2.2.2.2.1
  refine W.objInit hX.1 hX.2.1 hX.2.2.2.2.2.1 (hts _ hlk) (hts _ hi) (hts _ hcd) rfl (by rw [hX.2.2.2.2.1]; exact hl.1) rfl d hf ?_ (k p e s m args below meth c9 H locs lr hX hH hl hn h1 (ztl h2))
  have e : ((st.map (zv G.2.1)).map fun v => v.category) = st.map zcat := by rw [List.map_map]; exact List.map_congr_left (fun v _ => zcat_v _ v)
  show 2 * 0 + ((st.map (zv G.2.1)).map fun v => v.category).sum + 12 ≤ R.locals
  rw [e]
  omega
end CALLS
section RETS
variable {G : zG} {d n0 nE : Nat} {M : zM} {pc : Nat} {ls : zLs} {h : zHp} {Q : Option zV → zHp → Prop}
theorem zret_q {v : Option zV} {p : Program} {s : State} {m : MethodId} {args : Array Value} {meth : Method} {c : Code} {H : Heap} {locs : List Loc} (hH : zH G n0 nE h s H locs) (hv : ∀ x ∈ v.toList, zok x) (hq : Q v h) : ∀ t : State, t.heap = H → s.WarmedH t.vm → zQc G nE Q args s (.returned (v.map (zv G.2.1))) t :=
  fun t ht hW => ⟨v, h, rfl, hq, hv, by rw [ht]; exact hH.1, hH.2.1.F ht⟩
theorem wp_iret {z : Int} (hr : M.2.2.2 = some .int) (dd : decode M.2.1 pc = .ok (.ireturn, 1)) (k : Q (some (vI z)) h) : wp G d n0 nE M nE pc ls [vI z] h Q := by
  intro p e s m args below meth c H locs lr hX hH hl hn h1 h2
  have hlocks : meth.locks = false := hX.2.2.2.1
  exact W.iret (v := Int32.ofInt z) hX.1 hX.2.1 (hX.2.2.1.trans hr) (zret_q (v := some (vI z)) (p := p) (m := m) (meth := meth) (c := c) hH (fun x hx => h2 x hx) k) hH.2.1.2.2 dd
theorem wp_zret {z : Int} (hz : z = 0 ∨ z = 1) (hr : M.2.2.2 = some .boolean) (dd : decode M.2.1 pc = .ok (.ireturn, 1)) (k : Q (some (vI z)) h) : wp G d n0 nE M nE pc ls [vI z] h Q := by
  intro p e s m args below meth c H locs lr hX hH hl hn h1 h2
  have hlocks : meth.locks = false := hX.2.2.2.1
  exact W.zret (v := Int32.ofInt z) hX.1 hX.2.1 (hX.2.2.1.trans hr) (by rcases hz with rfl | rfl <;> rfl) (zret_q (v := some (vI z)) (p := p) (m := m) (meth := meth) (c := c) hH (fun x hx => h2 x hx) k) hH.2.1.2.2 dd
theorem wp_lret {z : Int} (hr : M.2.2.2 = some .long) (dd : decode M.2.1 pc = .ok (.lreturn, 1)) (k : Q (some (vL z)) h) : wp G d n0 nE M nE pc ls [vL z] h Q := by
  intro p e s m args below meth c H locs lr hX hH hl hn h1 h2
  have hlocks : meth.locks = false := hX.2.2.2.1
  exact W.lret (v := Int64.ofInt z) hX.1 hX.2.1 (hX.2.2.1.trans hr) (zret_q (v := some (vL z)) (p := p) (m := m) (meth := meth) (c := c) hH (fun x hx => h2 x hx) k) hH.2.1.2.2 dd
theorem wp_vret (hr : M.2.2.2 = none) (dd : decode M.2.1 pc = .ok (.return_, 1)) (k : Q none h) : wp G d n0 nE M nE pc ls [] h Q := by
  intro p e s m args below meth c H locs lr hX hH hl hn h1 h2
  have hlocks : meth.locks = false := hX.2.2.2.1
  exact W.vret hX.1 hX.2.1 (hX.2.2.1.trans hr) (zret_q (v := none) (p := p) (m := m) (meth := meth) (c := c) hH (fun x hx => by cases hx) k) hH.2.1.2.2 dd
end RETS
end
