section
-- ===== PART A: goes FIRST, ahead of the names: the tables' words, and 'selects' of the private methods out of them =====
/-- a private method of a class that the tables say can be made, by its rows of tables_1 -/
def lw_okq (q : MethodName × Nat) : Prop := (q.1.cls ≠ "java/lang/invoke/MethodHandle" ∧ q.1.cls ≠ "java/lang/invoke/VarHandle") ∧ Cond.instantiable q.1.cls q.2 ∈ tables_1 ∧ Cond.privateMethod q.1 ∈ tables_1 ∧ Cond.instanceMethod q.1 ∈ tables_1
theorem lw_p0 : lw_okq (⟨"StructureEditor$TemplateParser", "moveTo", "(I)V"⟩, 5) := ⟨⟨by decide +kernel, by decide +kernel⟩, List.mem_of_getElem? (i := 184) (by decide +kernel), List.mem_of_getElem? (i := 384) (by decide +kernel), List.mem_of_getElem? (i := 385) (by decide +kernel)⟩
theorem lw_p1 : lw_okq (⟨"StructureEditor$TemplateParser", "parseBlock", "(II)Z"⟩, 5) := ⟨⟨by decide +kernel, by decide +kernel⟩, List.mem_of_getElem? (i := 184) (by decide +kernel), List.mem_of_getElem? (i := 389) (by decide +kernel), List.mem_of_getElem? (i := 390) (by decide +kernel)⟩
theorem lw_p2 : lw_okq (⟨"StructureEditor$TemplateParser", "parseItem", "(II)Z"⟩, 5) := ⟨⟨by decide +kernel, by decide +kernel⟩, List.mem_of_getElem? (i := 184) (by decide +kernel), List.mem_of_getElem? (i := 393) (by decide +kernel), List.mem_of_getElem? (i := 394) (by decide +kernel)⟩
theorem lw_p3 : lw_okq (⟨"StructureEditor$TemplateParser", "refuse", "(I)Z"⟩, 5) := ⟨⟨by decide +kernel, by decide +kernel⟩, List.mem_of_getElem? (i := 184) (by decide +kernel), List.mem_of_getElem? (i := 405) (by decide +kernel), List.mem_of_getElem? (i := 406) (by decide +kernel)⟩
theorem lw_p4 : lw_okq (⟨"StructureEditor$TemplateParser", "parseCondition", "(I)Z"⟩, 5) := ⟨⟨by decide +kernel, by decide +kernel⟩, List.mem_of_getElem? (i := 184) (by decide +kernel), List.mem_of_getElem? (i := 409) (by decide +kernel), List.mem_of_getElem? (i := 410) (by decide +kernel)⟩
theorem lw_p5 : lw_okq (⟨"StructureEditor$TemplateParser", "parseReference", "(I)I"⟩, 5) := ⟨⟨by decide +kernel, by decide +kernel⟩, List.mem_of_getElem? (i := 184) (by decide +kernel), List.mem_of_getElem? (i := 413) (by decide +kernel), List.mem_of_getElem? (i := 414) (by decide +kernel)⟩
theorem lw_p6 : lw_okq (⟨"StructureEditor$TemplateParser", "parseSign", "(I)Z"⟩, 5) := ⟨⟨by decide +kernel, by decide +kernel⟩, List.mem_of_getElem? (i := 184) (by decide +kernel), List.mem_of_getElem? (i := 428) (by decide +kernel), List.mem_of_getElem? (i := 429) (by decide +kernel)⟩
theorem lw_p7 : lw_okq (⟨"StructureEditor$TemplateParser", "parseNumber", "()I"⟩, 5) := ⟨⟨by decide +kernel, by decide +kernel⟩, List.mem_of_getElem? (i := 184) (by decide +kernel), List.mem_of_getElem? (i := 432) (by decide +kernel), List.mem_of_getElem? (i := 433) (by decide +kernel)⟩
theorem lw_p8 : lw_okq (⟨"StructureEditor$TemplateParser", "parseGap", "(LStructureEditor$Item;)Z"⟩, 5) := ⟨⟨by decide +kernel, by decide +kernel⟩, List.mem_of_getElem? (i := 184) (by decide +kernel), List.mem_of_getElem? (i := 443) (by decide +kernel), List.mem_of_getElem? (i := 444) (by decide +kernel)⟩
theorem lw_p9 : lw_okq (⟨"StructureEditor$TemplateParser", "parseName", "(I)Z"⟩, 5) := ⟨⟨by decide +kernel, by decide +kernel⟩, List.mem_of_getElem? (i := 184) (by decide +kernel), List.mem_of_getElem? (i := 447) (by decide +kernel), List.mem_of_getElem? (i := 448) (by decide +kernel)⟩
theorem lw_p10 : lw_okq (⟨"StructureEditor$TemplateParser", "parseType", "(II)Z"⟩, 5) := ⟨⟨by decide +kernel, by decide +kernel⟩, List.mem_of_getElem? (i := 184) (by decide +kernel), List.mem_of_getElem? (i := 455) (by decide +kernel), List.mem_of_getElem? (i := 456) (by decide +kernel)⟩
theorem lw_p11 : lw_okq (⟨"StructureEditor$TemplateParser", "parseInteger", "(LStructureEditor$Item;)Z"⟩, 5) := ⟨⟨by decide +kernel, by decide +kernel⟩, List.mem_of_getElem? (i := 184) (by decide +kernel), List.mem_of_getElem? (i := 459) (by decide +kernel), List.mem_of_getElem? (i := 460) (by decide +kernel)⟩
theorem lw_p12 : lw_okq (⟨"StructureEditor$TemplateParser", "parseCount", "(I)Z"⟩, 5) := ⟨⟨by decide +kernel, by decide +kernel⟩, List.mem_of_getElem? (i := 184) (by decide +kernel), List.mem_of_getElem? (i := 463) (by decide +kernel), List.mem_of_getElem? (i := 464) (by decide +kernel)⟩
theorem lw_p13 : lw_okq (⟨"StructureEditor$TemplateParser", "parseStructure", "(II)Z"⟩, 5) := ⟨⟨by decide +kernel, by decide +kernel⟩, List.mem_of_getElem? (i := 184) (by decide +kernel), List.mem_of_getElem? (i := 467) (by decide +kernel), List.mem_of_getElem? (i := 468) (by decide +kernel)⟩
theorem lw_p14 : lw_okq (⟨"StructureEditor$TemplateParser", "parseCheck", "(III)Z"⟩, 5) := ⟨⟨by decide +kernel, by decide +kernel⟩, List.mem_of_getElem? (i := 184) (by decide +kernel), List.mem_of_getElem? (i := 471) (by decide +kernel), List.mem_of_getElem? (i := 472) (by decide +kernel)⟩
theorem lw_p15 : lw_okq (⟨"StructureEditor$TemplateParser", "parseSibling", "(II)I"⟩, 5) := ⟨⟨by decide +kernel, by decide +kernel⟩, List.mem_of_getElem? (i := 184) (by decide +kernel), List.mem_of_getElem? (i := 475) (by decide +kernel), List.mem_of_getElem? (i := 476) (by decide +kernel)⟩
def lw_privs_1 : List (MethodName × Nat) := [(⟨"StructureEditor$TemplateParser", "moveTo", "(I)V"⟩, 5), (⟨"StructureEditor$TemplateParser", "parseBlock", "(II)Z"⟩, 5), (⟨"StructureEditor$TemplateParser", "parseItem", "(II)Z"⟩, 5), (⟨"StructureEditor$TemplateParser", "refuse", "(I)Z"⟩, 5), (⟨"StructureEditor$TemplateParser", "parseCondition", "(I)Z"⟩, 5), (⟨"StructureEditor$TemplateParser", "parseReference", "(I)I"⟩, 5), (⟨"StructureEditor$TemplateParser", "parseSign", "(I)Z"⟩, 5), (⟨"StructureEditor$TemplateParser", "parseNumber", "()I"⟩, 5), (⟨"StructureEditor$TemplateParser", "parseGap", "(LStructureEditor$Item;)Z"⟩, 5), (⟨"StructureEditor$TemplateParser", "parseName", "(I)Z"⟩, 5), (⟨"StructureEditor$TemplateParser", "parseType", "(II)Z"⟩, 5), (⟨"StructureEditor$TemplateParser", "parseInteger", "(LStructureEditor$Item;)Z"⟩, 5), (⟨"StructureEditor$TemplateParser", "parseCount", "(I)Z"⟩, 5), (⟨"StructureEditor$TemplateParser", "parseStructure", "(II)Z"⟩, 5), (⟨"StructureEditor$TemplateParser", "parseCheck", "(III)Z"⟩, 5), (⟨"StructureEditor$TemplateParser", "parseSibling", "(II)I"⟩, 5)]
theorem lw_r1 : ∀ q ∈ lw_privs_1, lw_okq q := List.forall_mem_cons.mpr ⟨lw_p0, List.forall_mem_cons.mpr ⟨lw_p1, List.forall_mem_cons.mpr ⟨lw_p2, List.forall_mem_cons.mpr ⟨lw_p3, List.forall_mem_cons.mpr ⟨lw_p4, List.forall_mem_cons.mpr ⟨lw_p5, List.forall_mem_cons.mpr ⟨lw_p6, List.forall_mem_cons.mpr ⟨lw_p7, List.forall_mem_cons.mpr ⟨lw_p8, List.forall_mem_cons.mpr ⟨lw_p9, List.forall_mem_cons.mpr ⟨lw_p10, List.forall_mem_cons.mpr ⟨lw_p11, List.forall_mem_cons.mpr ⟨lw_p12, List.forall_mem_cons.mpr ⟨lw_p13, List.forall_mem_cons.mpr ⟨lw_p14, List.forall_mem_cons.mpr ⟨lw_p15, fun _ h => absurd h List.not_mem_nil⟩⟩⟩⟩⟩⟩⟩⟩⟩⟩⟩⟩⟩⟩⟩⟩
theorem lw_p16 : lw_okq (⟨"StructureEditor", "endChange", "(Z)I"⟩, 12) := ⟨⟨by decide +kernel, by decide +kernel⟩, List.mem_of_getElem? (i := 16) (by decide +kernel), List.mem_of_getElem? (i := 566) (by decide +kernel), List.mem_of_getElem? (i := 567) (by decide +kernel)⟩
theorem lw_p17 : lw_okq (⟨"StructureEditor", "updateRound", "()Z"⟩, 12) := ⟨⟨by decide +kernel, by decide +kernel⟩, List.mem_of_getElem? (i := 16) (by decide +kernel), List.mem_of_getElem? (i := 570) (by decide +kernel), List.mem_of_getElem? (i := 571) (by decide +kernel)⟩
theorem lw_p18 : lw_okq (⟨"StructureEditor", "layOut", "(I)Z"⟩, 12) := ⟨⟨by decide +kernel, by decide +kernel⟩, List.mem_of_getElem? (i := 16) (by decide +kernel), List.mem_of_getElem? (i := 574) (by decide +kernel), List.mem_of_getElem? (i := 575) (by decide +kernel)⟩
theorem lw_p19 : lw_okq (⟨"StructureEditor$Layout", "goThrough", "(II)V"⟩, 14) := ⟨⟨by decide +kernel, by decide +kernel⟩, List.mem_of_getElem? (i := 222) (by decide +kernel), List.mem_of_getElem? (i := 583) (by decide +kernel), List.mem_of_getElem? (i := 584) (by decide +kernel)⟩
theorem lw_p20 : lw_okq (⟨"StructureEditor$Layout", "makeStep", "()Z"⟩, 14) := ⟨⟨by decide +kernel, by decide +kernel⟩, List.mem_of_getElem? (i := 222) (by decide +kernel), List.mem_of_getElem? (i := 587) (by decide +kernel), List.mem_of_getElem? (i := 588) (by decide +kernel)⟩
theorem lw_p21 : lw_okq (⟨"StructureEditor$Layout", "repeatStructure", "(II)V"⟩, 14) := ⟨⟨by decide +kernel, by decide +kernel⟩, List.mem_of_getElem? (i := 222) (by decide +kernel), List.mem_of_getElem? (i := 591) (by decide +kernel), List.mem_of_getElem? (i := 592) (by decide +kernel)⟩
theorem lw_p22 : lw_okq (⟨"StructureEditor$Layout", "repetitionsOf", "(LStructureEditor$Item;)I"⟩, 14) := ⟨⟨by decide +kernel, by decide +kernel⟩, List.mem_of_getElem? (i := 222) (by decide +kernel), List.mem_of_getElem? (i := 595) (by decide +kernel), List.mem_of_getElem? (i := 596) (by decide +kernel)⟩
theorem lw_p23 : lw_okq (⟨"StructureEditor$Layout", "align", "(I)V"⟩, 14) := ⟨⟨by decide +kernel, by decide +kernel⟩, List.mem_of_getElem? (i := 222) (by decide +kernel), List.mem_of_getElem? (i := 607) (by decide +kernel), List.mem_of_getElem? (i := 608) (by decide +kernel)⟩
theorem lw_p24 : lw_okq (⟨"StructureEditor$Layout", "layFields", "(II)V"⟩, 14) := ⟨⟨by decide +kernel, by decide +kernel⟩, List.mem_of_getElem? (i := 222) (by decide +kernel), List.mem_of_getElem? (i := 611) (by decide +kernel), List.mem_of_getElem? (i := 612) (by decide +kernel)⟩
theorem lw_p25 : lw_okq (⟨"StructureEditor$Layout", "layField", "(LStructureEditor$Item;I)V"⟩, 14) := ⟨⟨by decide +kernel, by decide +kernel⟩, List.mem_of_getElem? (i := 222) (by decide +kernel), List.mem_of_getElem? (i := 615) (by decide +kernel), List.mem_of_getElem? (i := 616) (by decide +kernel)⟩
theorem lw_p26 : lw_okq (⟨"StructureEditor", "updateWrongFields", "()Z"⟩, 12) := ⟨⟨by decide +kernel, by decide +kernel⟩, List.mem_of_getElem? (i := 16) (by decide +kernel), List.mem_of_getElem? (i := 627) (by decide +kernel), List.mem_of_getElem? (i := 628) (by decide +kernel)⟩
theorem lw_p27 : lw_okq (⟨"StructureEditor$History", "dropOldest", "()V"⟩, 4) := ⟨⟨by decide +kernel, by decide +kernel⟩, List.mem_of_getElem? (i := 68) (by decide +kernel), List.mem_of_getElem? (i := 665) (by decide +kernel), List.mem_of_getElem? (i := 666) (by decide +kernel)⟩
theorem lw_p28 : lw_okq (⟨"StructureEditor", "fieldsOf", "(I)I"⟩, 12) := ⟨⟨by decide +kernel, by decide +kernel⟩, List.mem_of_getElem? (i := 16) (by decide +kernel), List.mem_of_getElem? (i := 711) (by decide +kernel), List.mem_of_getElem? (i := 712) (by decide +kernel)⟩
theorem lw_p29 : lw_okq (⟨"StructureEditor", "overlayProperty", "(II)I"⟩, 12) := ⟨⟨by decide +kernel, by decide +kernel⟩, List.mem_of_getElem? (i := 16) (by decide +kernel), List.mem_of_getElem? (i := 727) (by decide +kernel), List.mem_of_getElem? (i := 728) (by decide +kernel)⟩
theorem lw_p30 : lw_okq (⟨"StructureEditor", "wrongFields", "()I"⟩, 12) := ⟨⟨by decide +kernel, by decide +kernel⟩, List.mem_of_getElem? (i := 16) (by decide +kernel), List.mem_of_getElem? (i := 731) (by decide +kernel), List.mem_of_getElem? (i := 732) (by decide +kernel)⟩
theorem lw_p31 : lw_okq (⟨"StructureEditor", "layOutField", "(II)Z"⟩, 12) := ⟨⟨by decide +kernel, by decide +kernel⟩, List.mem_of_getElem? (i := 16) (by decide +kernel), List.mem_of_getElem? (i := 739) (by decide +kernel), List.mem_of_getElem? (i := 740) (by decide +kernel)⟩
def lw_privs_2 : List (MethodName × Nat) := [(⟨"StructureEditor", "endChange", "(Z)I"⟩, 12), (⟨"StructureEditor", "updateRound", "()Z"⟩, 12), (⟨"StructureEditor", "layOut", "(I)Z"⟩, 12), (⟨"StructureEditor$Layout", "goThrough", "(II)V"⟩, 14), (⟨"StructureEditor$Layout", "makeStep", "()Z"⟩, 14), (⟨"StructureEditor$Layout", "repeatStructure", "(II)V"⟩, 14), (⟨"StructureEditor$Layout", "repetitionsOf", "(LStructureEditor$Item;)I"⟩, 14), (⟨"StructureEditor$Layout", "align", "(I)V"⟩, 14), (⟨"StructureEditor$Layout", "layFields", "(II)V"⟩, 14), (⟨"StructureEditor$Layout", "layField", "(LStructureEditor$Item;I)V"⟩, 14), (⟨"StructureEditor", "updateWrongFields", "()Z"⟩, 12), (⟨"StructureEditor$History", "dropOldest", "()V"⟩, 4), (⟨"StructureEditor", "fieldsOf", "(I)I"⟩, 12), (⟨"StructureEditor", "overlayProperty", "(II)I"⟩, 12), (⟨"StructureEditor", "wrongFields", "()I"⟩, 12), (⟨"StructureEditor", "layOutField", "(II)Z"⟩, 12)]
theorem lw_r2 : ∀ q ∈ lw_privs_2, lw_okq q := List.forall_mem_cons.mpr ⟨lw_p16, List.forall_mem_cons.mpr ⟨lw_p17, List.forall_mem_cons.mpr ⟨lw_p18, List.forall_mem_cons.mpr ⟨lw_p19, List.forall_mem_cons.mpr ⟨lw_p20, List.forall_mem_cons.mpr ⟨lw_p21, List.forall_mem_cons.mpr ⟨lw_p22, List.forall_mem_cons.mpr ⟨lw_p23, List.forall_mem_cons.mpr ⟨lw_p24, List.forall_mem_cons.mpr ⟨lw_p25, List.forall_mem_cons.mpr ⟨lw_p26, List.forall_mem_cons.mpr ⟨lw_p27, List.forall_mem_cons.mpr ⟨lw_p28, List.forall_mem_cons.mpr ⟨lw_p29, List.forall_mem_cons.mpr ⟨lw_p30, List.forall_mem_cons.mpr ⟨lw_p31, fun _ h => absurd h List.not_mem_nil⟩⟩⟩⟩⟩⟩⟩⟩⟩⟩⟩⟩⟩⟩⟩⟩
theorem lw_p32 : lw_okq (⟨"StructureEditor$Layout", "isSought", "(LStructureEditor$Field;)Z"⟩, 14) := ⟨⟨by decide +kernel, by decide +kernel⟩, List.mem_of_getElem? (i := 222) (by decide +kernel), List.mem_of_getElem? (i := 781) (by decide +kernel), List.mem_of_getElem? (i := 782) (by decide +kernel)⟩
theorem lw_p33 : lw_okq (⟨"StructureEditor", "nextDistances", "(II)V"⟩, 12) := ⟨⟨by decide +kernel, by decide +kernel⟩, List.mem_of_getElem? (i := 16) (by decide +kernel), List.mem_of_getElem? (i := 855) (by decide +kernel), List.mem_of_getElem? (i := 856) (by decide +kernel)⟩
theorem lw_p34 : lw_okq (⟨"StructureEditor", "numberOf", "(I)I"⟩, 12) := ⟨⟨by decide +kernel, by decide +kernel⟩, List.mem_of_getElem? (i := 16) (by decide +kernel), List.mem_of_getElem? (i := 863) (by decide +kernel), List.mem_of_getElem? (i := 864) (by decide +kernel)⟩
theorem lw_p35 : lw_okq (⟨"StructureEditor", "wrongFieldsOfAll", "()I"⟩, 12) := ⟨⟨by decide +kernel, by decide +kernel⟩, List.mem_of_getElem? (i := 16) (by decide +kernel), List.mem_of_getElem? (i := 871) (by decide +kernel), List.mem_of_getElem? (i := 872) (by decide +kernel)⟩
theorem lw_p36 : lw_okq (⟨"StructureEditor", "mixOverlay", "(JI)J"⟩, 12) := ⟨⟨by decide +kernel, by decide +kernel⟩, List.mem_of_getElem? (i := 16) (by decide +kernel), List.mem_of_getElem? (i := 884) (by decide +kernel), List.mem_of_getElem? (i := 885) (by decide +kernel)⟩
theorem lw_p37 : lw_okq (⟨"StructureEditor", "mixField", "(JLStructureEditor$Field;)J"⟩, 12) := ⟨⟨by decide +kernel, by decide +kernel⟩, List.mem_of_getElem? (i := 16) (by decide +kernel), List.mem_of_getElem? (i := 888) (by decide +kernel), List.mem_of_getElem? (i := 889) (by decide +kernel)⟩
theorem lw_p38 : lw_okq (⟨"StructureEditorModel", "blanks", "()V"⟩, 45) := ⟨⟨by decide +kernel, by decide +kernel⟩, List.mem_of_getElem? (i := 893) (by decide +kernel), List.mem_of_getElem? (i := 1051) (by decide +kernel), List.mem_of_getElem? (i := 1052) (by decide +kernel)⟩
theorem lw_p39 : lw_okq (⟨"StructureEditorModel", "next", "()I"⟩, 45) := ⟨⟨by decide +kernel, by decide +kernel⟩, List.mem_of_getElem? (i := 893) (by decide +kernel), List.mem_of_getElem? (i := 1055) (by decide +kernel), List.mem_of_getElem? (i := 1056) (by decide +kernel)⟩
theorem lw_p40 : lw_okq (⟨"StructureEditorModel", "closes", "()V"⟩, 45) := ⟨⟨by decide +kernel, by decide +kernel⟩, List.mem_of_getElem? (i := 893) (by decide +kernel), List.mem_of_getElem? (i := 1059) (by decide +kernel), List.mem_of_getElem? (i := 1060) (by decide +kernel)⟩
theorem lw_p41 : lw_okq (⟨"StructureEditorModel", "takes", "(I)Z"⟩, 45) := ⟨⟨by decide +kernel, by decide +kernel⟩, List.mem_of_getElem? (i := 893) (by decide +kernel), List.mem_of_getElem? (i := 1063) (by decide +kernel), List.mem_of_getElem? (i := 1064) (by decide +kernel)⟩
theorem lw_p42 : lw_okq (⟨"StructureEditorModel", "readOf", "(II)I"⟩, 45) := ⟨⟨by decide +kernel, by decide +kernel⟩, List.mem_of_getElem? (i := 893) (by decide +kernel), List.mem_of_getElem? (i := 1067) (by decide +kernel), List.mem_of_getElem? (i := 1068) (by decide +kernel)⟩
theorem lw_p43 : lw_okq (⟨"StructureEditorModel", "of", "(III)I"⟩, 45) := ⟨⟨by decide +kernel, by decide +kernel⟩, List.mem_of_getElem? (i := 893) (by decide +kernel), List.mem_of_getElem? (i := 1071) (by decide +kernel), List.mem_of_getElem? (i := 1072) (by decide +kernel)⟩
theorem lw_p44 : lw_okq (⟨"StructureEditorModel", "writes", "(III)V"⟩, 45) := ⟨⟨by decide +kernel, by decide +kernel⟩, List.mem_of_getElem? (i := 893) (by decide +kernel), List.mem_of_getElem? (i := 1075) (by decide +kernel), List.mem_of_getElem? (i := 1076) (by decide +kernel)⟩
theorem lw_p45 : lw_okq (⟨"StructureEditorModel", "readsCount", "(I)V"⟩, 45) := ⟨⟨by decide +kernel, by decide +kernel⟩, List.mem_of_getElem? (i := 893) (by decide +kernel), List.mem_of_getElem? (i := 1079) (by decide +kernel), List.mem_of_getElem? (i := 1080) (by decide +kernel)⟩
theorem lw_p46 : lw_okq (⟨"StructureEditorModel", "number", "()I"⟩, 45) := ⟨⟨by decide +kernel, by decide +kernel⟩, List.mem_of_getElem? (i := 893) (by decide +kernel), List.mem_of_getElem? (i := 1085) (by decide +kernel), List.mem_of_getElem? (i := 1086) (by decide +kernel)⟩
theorem lw_p47 : lw_okq (⟨"StructureEditorModel", "faults", "(I)V"⟩, 45) := ⟨⟨by decide +kernel, by decide +kernel⟩, List.mem_of_getElem? (i := 893) (by decide +kernel), List.mem_of_getElem? (i := 1089) (by decide +kernel), List.mem_of_getElem? (i := 1090) (by decide +kernel)⟩
def lw_privs_3 : List (MethodName × Nat) := [(⟨"StructureEditor$Layout", "isSought", "(LStructureEditor$Field;)Z"⟩, 14), (⟨"StructureEditor", "nextDistances", "(II)V"⟩, 12), (⟨"StructureEditor", "numberOf", "(I)I"⟩, 12), (⟨"StructureEditor", "wrongFieldsOfAll", "()I"⟩, 12), (⟨"StructureEditor", "mixOverlay", "(JI)J"⟩, 12), (⟨"StructureEditor", "mixField", "(JLStructureEditor$Field;)J"⟩, 12), (⟨"StructureEditorModel", "blanks", "()V"⟩, 45), (⟨"StructureEditorModel", "next", "()I"⟩, 45), (⟨"StructureEditorModel", "closes", "()V"⟩, 45), (⟨"StructureEditorModel", "takes", "(I)Z"⟩, 45), (⟨"StructureEditorModel", "readOf", "(II)I"⟩, 45), (⟨"StructureEditorModel", "of", "(III)I"⟩, 45), (⟨"StructureEditorModel", "writes", "(III)V"⟩, 45), (⟨"StructureEditorModel", "readsCount", "(I)V"⟩, 45), (⟨"StructureEditorModel", "number", "()I"⟩, 45), (⟨"StructureEditorModel", "faults", "(I)V"⟩, 45)]
theorem lw_r3 : ∀ q ∈ lw_privs_3, lw_okq q := List.forall_mem_cons.mpr ⟨lw_p32, List.forall_mem_cons.mpr ⟨lw_p33, List.forall_mem_cons.mpr ⟨lw_p34, List.forall_mem_cons.mpr ⟨lw_p35, List.forall_mem_cons.mpr ⟨lw_p36, List.forall_mem_cons.mpr ⟨lw_p37, List.forall_mem_cons.mpr ⟨lw_p38, List.forall_mem_cons.mpr ⟨lw_p39, List.forall_mem_cons.mpr ⟨lw_p40, List.forall_mem_cons.mpr ⟨lw_p41, List.forall_mem_cons.mpr ⟨lw_p42, List.forall_mem_cons.mpr ⟨lw_p43, List.forall_mem_cons.mpr ⟨lw_p44, List.forall_mem_cons.mpr ⟨lw_p45, List.forall_mem_cons.mpr ⟨lw_p46, List.forall_mem_cons.mpr ⟨lw_p47, fun _ h => absurd h List.not_mem_nil⟩⟩⟩⟩⟩⟩⟩⟩⟩⟩⟩⟩⟩⟩⟩⟩
theorem lw_p48 : lw_okq (⟨"StructureEditorModel", "blanksBehindNumber", "()V"⟩, 45) := ⟨⟨by decide +kernel, by decide +kernel⟩, List.mem_of_getElem? (i := 893) (by decide +kernel), List.mem_of_getElem? (i := 1093) (by decide +kernel), List.mem_of_getElem? (i := 1094) (by decide +kernel)⟩
theorem lw_p49 : lw_okq (⟨"StructureEditorModel", "integerNamed", "(I)I"⟩, 45) := ⟨⟨by decide +kernel, by decide +kernel⟩, List.mem_of_getElem? (i := 893) (by decide +kernel), List.mem_of_getElem? (i := 1097) (by decide +kernel), List.mem_of_getElem? (i := 1098) (by decide +kernel)⟩
theorem lw_p50 : lw_okq (⟨"StructureEditorModel", "name", "()I"⟩, 45) := ⟨⟨by decide +kernel, by decide +kernel⟩, List.mem_of_getElem? (i := 893) (by decide +kernel), List.mem_of_getElem? (i := 1101) (by decide +kernel), List.mem_of_getElem? (i := 1102) (by decide +kernel)⟩
theorem lw_p51 : lw_okq (⟨"StructureEditorModel", "named", "(II)I"⟩, 45) := ⟨⟨by decide +kernel, by decide +kernel⟩, List.mem_of_getElem? (i := 893) (by decide +kernel), List.mem_of_getElem? (i := 1107) (by decide +kernel), List.mem_of_getElem? (i := 1108) (by decide +kernel)⟩
theorem lw_p52 : lw_okq (⟨"StructureEditorModel", "inBlock", "(III)I"⟩, 45) := ⟨⟨by decide +kernel, by decide +kernel⟩, List.mem_of_getElem? (i := 893) (by decide +kernel), List.mem_of_getElem? (i := 1111) (by decide +kernel), List.mem_of_getElem? (i := 1112) (by decide +kernel)⟩
theorem lw_p53 : lw_okq (⟨"StructureEditorModel", "expects", "(I)V"⟩, 45) := ⟨⟨by decide +kernel, by decide +kernel⟩, List.mem_of_getElem? (i := 893) (by decide +kernel), List.mem_of_getElem? (i := 1115) (by decide +kernel), List.mem_of_getElem? (i := 1116) (by decide +kernel)⟩
theorem lw_p54 : lw_okq (⟨"StructureEditorModel", "readsItem", "()V"⟩, 45) := ⟨⟨by decide +kernel, by decide +kernel⟩, List.mem_of_getElem? (i := 893) (by decide +kernel), List.mem_of_getElem? (i := 1119) (by decide +kernel), List.mem_of_getElem? (i := 1120) (by decide +kernel)⟩
theorem lw_p55 : lw_okq (⟨"StructureEditorModel", "readsNamed", "(I)Z"⟩, 45) := ⟨⟨by decide +kernel, by decide +kernel⟩, List.mem_of_getElem? (i := 893) (by decide +kernel), List.mem_of_getElem? (i := 1123) (by decide +kernel), List.mem_of_getElem? (i := 1124) (by decide +kernel)⟩
theorem lw_p56 : lw_okq (⟨"StructureEditorModel", "readsType", "(I)Z"⟩, 45) := ⟨⟨by decide +kernel, by decide +kernel⟩, List.mem_of_getElem? (i := 893) (by decide +kernel), List.mem_of_getElem? (i := 1127) (by decide +kernel), List.mem_of_getElem? (i := 1128) (by decide +kernel)⟩
theorem lw_p57 : lw_okq (⟨"StructureEditorModel", "readsInteger", "(I)V"⟩, 45) := ⟨⟨by decide +kernel, by decide +kernel⟩, List.mem_of_getElem? (i := 893) (by decide +kernel), List.mem_of_getElem? (i := 1131) (by decide +kernel), List.mem_of_getElem? (i := 1132) (by decide +kernel)⟩
theorem lw_p58 : lw_okq (⟨"StructureEditorModel", "readsCheck", "(II)V"⟩, 45) := ⟨⟨by decide +kernel, by decide +kernel⟩, List.mem_of_getElem? (i := 893) (by decide +kernel), List.mem_of_getElem? (i := 1135) (by decide +kernel), List.mem_of_getElem? (i := 1136) (by decide +kernel)⟩
theorem lw_p59 : lw_okq (⟨"StructureEditorModel", "siblingNamed", "(I)I"⟩, 45) := ⟨⟨by decide +kernel, by decide +kernel⟩, List.mem_of_getElem? (i := 893) (by decide +kernel), List.mem_of_getElem? (i := 1139) (by decide +kernel), List.mem_of_getElem? (i := 1140) (by decide +kernel)⟩
theorem lw_p60 : lw_okq (⟨"StructureEditorModel", "isPresent", "(I)Z"⟩, 45) := ⟨⟨by decide +kernel, by decide +kernel⟩, List.mem_of_getElem? (i := 893) (by decide +kernel), List.mem_of_getElem? (i := 1149) (by decide +kernel), List.mem_of_getElem? (i := 1150) (by decide +kernel)⟩
theorem lw_p61 : lw_okq (⟨"StructureEditorModel", "templateOf", "(I)I"⟩, 45) := ⟨⟨by decide +kernel, by decide +kernel⟩, List.mem_of_getElem? (i := 893) (by decide +kernel), List.mem_of_getElem? (i := 1153) (by decide +kernel), List.mem_of_getElem? (i := 1154) (by decide +kernel)⟩
theorem lw_p62 : lw_okq (⟨"StructureEditorModel", "size", "()I"⟩, 45) := ⟨⟨by decide +kernel, by decide +kernel⟩, List.mem_of_getElem? (i := 893) (by decide +kernel), List.mem_of_getElem? (i := 1175) (by decide +kernel), List.mem_of_getElem? (i := 1176) (by decide +kernel)⟩
theorem lw_p63 : lw_okq (⟨"StructureEditorModel", "matchesAt", "(I)Z"⟩, 45) := ⟨⟨by decide +kernel, by decide +kernel⟩, List.mem_of_getElem? (i := 893) (by decide +kernel), List.mem_of_getElem? (i := 1179) (by decide +kernel), List.mem_of_getElem? (i := 1180) (by decide +kernel)⟩
def lw_privs_4 : List (MethodName × Nat) := [(⟨"StructureEditorModel", "blanksBehindNumber", "()V"⟩, 45), (⟨"StructureEditorModel", "integerNamed", "(I)I"⟩, 45), (⟨"StructureEditorModel", "name", "()I"⟩, 45), (⟨"StructureEditorModel", "named", "(II)I"⟩, 45), (⟨"StructureEditorModel", "inBlock", "(III)I"⟩, 45), (⟨"StructureEditorModel", "expects", "(I)V"⟩, 45), (⟨"StructureEditorModel", "readsItem", "()V"⟩, 45), (⟨"StructureEditorModel", "readsNamed", "(I)Z"⟩, 45), (⟨"StructureEditorModel", "readsType", "(I)Z"⟩, 45), (⟨"StructureEditorModel", "readsInteger", "(I)V"⟩, 45), (⟨"StructureEditorModel", "readsCheck", "(II)V"⟩, 45), (⟨"StructureEditorModel", "siblingNamed", "(I)I"⟩, 45), (⟨"StructureEditorModel", "isPresent", "(I)Z"⟩, 45), (⟨"StructureEditorModel", "templateOf", "(I)I"⟩, 45), (⟨"StructureEditorModel", "size", "()I"⟩, 45), (⟨"StructureEditorModel", "matchesAt", "(I)Z"⟩, 45)]
theorem lw_r4 : ∀ q ∈ lw_privs_4, lw_okq q := List.forall_mem_cons.mpr ⟨lw_p48, List.forall_mem_cons.mpr ⟨lw_p49, List.forall_mem_cons.mpr ⟨lw_p50, List.forall_mem_cons.mpr ⟨lw_p51, List.forall_mem_cons.mpr ⟨lw_p52, List.forall_mem_cons.mpr ⟨lw_p53, List.forall_mem_cons.mpr ⟨lw_p54, List.forall_mem_cons.mpr ⟨lw_p55, List.forall_mem_cons.mpr ⟨lw_p56, List.forall_mem_cons.mpr ⟨lw_p57, List.forall_mem_cons.mpr ⟨lw_p58, List.forall_mem_cons.mpr ⟨lw_p59, List.forall_mem_cons.mpr ⟨lw_p60, List.forall_mem_cons.mpr ⟨lw_p61, List.forall_mem_cons.mpr ⟨lw_p62, List.forall_mem_cons.mpr ⟨lw_p63, fun _ h => absurd h List.not_mem_nil⟩⟩⟩⟩⟩⟩⟩⟩⟩⟩⟩⟩⟩⟩⟩⟩
theorem lw_p64 : lw_okq (⟨"StructureEditorModel", "keeps", "()V"⟩, 45) := ⟨⟨by decide +kernel, by decide +kernel⟩, List.mem_of_getElem? (i := 893) (by decide +kernel), List.mem_of_getElem? (i := 1201) (by decide +kernel), List.mem_of_getElem? (i := 1202) (by decide +kernel)⟩
theorem lw_p65 : lw_okq (⟨"StructureEditorModel", "opens", "(II)V"⟩, 45) := ⟨⟨by decide +kernel, by decide +kernel⟩, List.mem_of_getElem? (i := 893) (by decide +kernel), List.mem_of_getElem? (i := 1208) (by decide +kernel), List.mem_of_getElem? (i := 1209) (by decide +kernel)⟩
theorem lw_p66 : lw_okq (⟨"StructureEditorModel", "offsetOf", "(I)I"⟩, 45) := ⟨⟨by decide +kernel, by decide +kernel⟩, List.mem_of_getElem? (i := 893) (by decide +kernel), List.mem_of_getElem? (i := 1212) (by decide +kernel), List.mem_of_getElem? (i := 1213) (by decide +kernel)⟩
theorem lw_p67 : lw_okq (⟨"StructureEditorModel", "moves", "(II)V"⟩, 45) := ⟨⟨by decide +kernel, by decide +kernel⟩, List.mem_of_getElem? (i := 893) (by decide +kernel), List.mem_of_getElem? (i := 1216) (by decide +kernel), List.mem_of_getElem? (i := 1217) (by decide +kernel)⟩
theorem lw_p68 : lw_okq (⟨"StructureEditorModel", "stays", "(Z)Z"⟩, 45) := ⟨⟨by decide +kernel, by decide +kernel⟩, List.mem_of_getElem? (i := 893) (by decide +kernel), List.mem_of_getElem? (i := 1220) (by decide +kernel), List.mem_of_getElem? (i := 1221) (by decide +kernel)⟩
theorem lw_p69 : lw_okq (⟨"StructureEditorModel", "updates", "()I"⟩, 45) := ⟨⟨by decide +kernel, by decide +kernel⟩, List.mem_of_getElem? (i := 893) (by decide +kernel), List.mem_of_getElem? (i := 1224) (by decide +kernel), List.mem_of_getElem? (i := 1225) (by decide +kernel)⟩
theorem lw_p70 : lw_okq (⟨"StructureEditorModel", "rounds", "()Z"⟩, 45) := ⟨⟨by decide +kernel, by decide +kernel⟩, List.mem_of_getElem? (i := 893) (by decide +kernel), List.mem_of_getElem? (i := 1228) (by decide +kernel), List.mem_of_getElem? (i := 1229) (by decide +kernel)⟩
theorem lw_p71 : lw_okq (⟨"StructureEditorModel", "laysOut", "(I)V"⟩, 45) := ⟨⟨by decide +kernel, by decide +kernel⟩, List.mem_of_getElem? (i := 893) (by decide +kernel), List.mem_of_getElem? (i := 1232) (by decide +kernel), List.mem_of_getElem? (i := 1233) (by decide +kernel)⟩
theorem lw_p72 : lw_okq (⟨"StructureEditorModel", "goesIn", "()V"⟩, 45) := ⟨⟨by decide +kernel, by decide +kernel⟩, List.mem_of_getElem? (i := 893) (by decide +kernel), List.mem_of_getElem? (i := 1236) (by decide +kernel), List.mem_of_getElem? (i := 1237) (by decide +kernel)⟩
theorem lw_p73 : lw_okq (⟨"StructureEditorModel", "passes", "(III)I"⟩, 45) := ⟨⟨by decide +kernel, by decide +kernel⟩, List.mem_of_getElem? (i := 893) (by decide +kernel), List.mem_of_getElem? (i := 1240) (by decide +kernel), List.mem_of_getElem? (i := 1241) (by decide +kernel)⟩
theorem lw_p74 : lw_okq (⟨"StructureEditorModel", "aligns", "(II)V"⟩, 45) := ⟨⟨by decide +kernel, by decide +kernel⟩, List.mem_of_getElem? (i := 893) (by decide +kernel), List.mem_of_getElem? (i := 1244) (by decide +kernel), List.mem_of_getElem? (i := 1245) (by decide +kernel)⟩
theorem lw_p75 : lw_okq (⟨"StructureEditorModel", "enters", "(II)V"⟩, 45) := ⟨⟨by decide +kernel, by decide +kernel⟩, List.mem_of_getElem? (i := 893) (by decide +kernel), List.mem_of_getElem? (i := 1248) (by decide +kernel), List.mem_of_getElem? (i := 1249) (by decide +kernel)⟩
theorem lw_p76 : lw_okq (⟨"StructureEditorModel", "countOf", "(II)I"⟩, 45) := ⟨⟨by decide +kernel, by decide +kernel⟩, List.mem_of_getElem? (i := 893) (by decide +kernel), List.mem_of_getElem? (i := 1252) (by decide +kernel), List.mem_of_getElem? (i := 1253) (by decide +kernel)⟩
theorem lw_p77 : lw_okq (⟨"StructureEditorModel", "laysAll", "(II)V"⟩, 45) := ⟨⟨by decide +kernel, by decide +kernel⟩, List.mem_of_getElem? (i := 893) (by decide +kernel), List.mem_of_getElem? (i := 1257) (by decide +kernel), List.mem_of_getElem? (i := 1258) (by decide +kernel)⟩
theorem lw_p78 : lw_okq (⟨"StructureEditorModel", "lays", "(III)Z"⟩, 45) := ⟨⟨by decide +kernel, by decide +kernel⟩, List.mem_of_getElem? (i := 893) (by decide +kernel), List.mem_of_getElem? (i := 1261) (by decide +kernel), List.mem_of_getElem? (i := 1262) (by decide +kernel)⟩
theorem lw_p79 : lw_okq (⟨"StructureEditorModel", "valueOf", "(I)J"⟩, 45) := ⟨⟨by decide +kernel, by decide +kernel⟩, List.mem_of_getElem? (i := 893) (by decide +kernel), List.mem_of_getElem? (i := 1265) (by decide +kernel), List.mem_of_getElem? (i := 1266) (by decide +kernel)⟩
def lw_privs_5 : List (MethodName × Nat) := [(⟨"StructureEditorModel", "keeps", "()V"⟩, 45), (⟨"StructureEditorModel", "opens", "(II)V"⟩, 45), (⟨"StructureEditorModel", "offsetOf", "(I)I"⟩, 45), (⟨"StructureEditorModel", "moves", "(II)V"⟩, 45), (⟨"StructureEditorModel", "stays", "(Z)Z"⟩, 45), (⟨"StructureEditorModel", "updates", "()I"⟩, 45), (⟨"StructureEditorModel", "rounds", "()Z"⟩, 45), (⟨"StructureEditorModel", "laysOut", "(I)V"⟩, 45), (⟨"StructureEditorModel", "goesIn", "()V"⟩, 45), (⟨"StructureEditorModel", "passes", "(III)I"⟩, 45), (⟨"StructureEditorModel", "aligns", "(II)V"⟩, 45), (⟨"StructureEditorModel", "enters", "(II)V"⟩, 45), (⟨"StructureEditorModel", "countOf", "(II)I"⟩, 45), (⟨"StructureEditorModel", "laysAll", "(II)V"⟩, 45), (⟨"StructureEditorModel", "lays", "(III)Z"⟩, 45), (⟨"StructureEditorModel", "valueOf", "(I)J"⟩, 45)]
theorem lw_r5 : ∀ q ∈ lw_privs_5, lw_okq q := List.forall_mem_cons.mpr ⟨lw_p64, List.forall_mem_cons.mpr ⟨lw_p65, List.forall_mem_cons.mpr ⟨lw_p66, List.forall_mem_cons.mpr ⟨lw_p67, List.forall_mem_cons.mpr ⟨lw_p68, List.forall_mem_cons.mpr ⟨lw_p69, List.forall_mem_cons.mpr ⟨lw_p70, List.forall_mem_cons.mpr ⟨lw_p71, List.forall_mem_cons.mpr ⟨lw_p72, List.forall_mem_cons.mpr ⟨lw_p73, List.forall_mem_cons.mpr ⟨lw_p74, List.forall_mem_cons.mpr ⟨lw_p75, List.forall_mem_cons.mpr ⟨lw_p76, List.forall_mem_cons.mpr ⟨lw_p77, List.forall_mem_cons.mpr ⟨lw_p78, List.forall_mem_cons.mpr ⟨lw_p79, fun _ h => absurd h List.not_mem_nil⟩⟩⟩⟩⟩⟩⟩⟩⟩⟩⟩⟩⟩⟩⟩⟩
theorem lw_p80 : lw_okq (⟨"StructureEditorModel", "read", "(IIZZ)J"⟩, 45) := ⟨⟨by decide +kernel, by decide +kernel⟩, List.mem_of_getElem? (i := 893) (by decide +kernel), List.mem_of_getElem? (i := 1269) (by decide +kernel), List.mem_of_getElem? (i := 1270) (by decide +kernel)⟩
theorem lw_p81 : lw_okq (⟨"StructureEditorModel", "isWrong", "(I)Z"⟩, 45) := ⟨⟨by decide +kernel, by decide +kernel⟩, List.mem_of_getElem? (i := 893) (by decide +kernel), List.mem_of_getElem? (i := 1274) (by decide +kernel), List.mem_of_getElem? (i := 1275) (by decide +kernel)⟩
theorem lw_p82 : lw_okq (⟨"StructureEditorModel", "expectedOf", "(I)I"⟩, 45) := ⟨⟨by decide +kernel, by decide +kernel⟩, List.mem_of_getElem? (i := 893) (by decide +kernel), List.mem_of_getElem? (i := 1278) (by decide +kernel), List.mem_of_getElem? (i := 1279) (by decide +kernel)⟩
theorem lw_p83 : lw_okq (⟨"StructureEditorModel", "puts", "(IJ)V"⟩, 45) := ⟨⟨by decide +kernel, by decide +kernel⟩, List.mem_of_getElem? (i := 893) (by decide +kernel), List.mem_of_getElem? (i := 1288) (by decide +kernel), List.mem_of_getElem? (i := 1289) (by decide +kernel)⟩
theorem lw_p84 : lw_okq (⟨"StructureEditorModel", "wrongs", "()I"⟩, 45) := ⟨⟨by decide +kernel, by decide +kernel⟩, List.mem_of_getElem? (i := 893) (by decide +kernel), List.mem_of_getElem? (i := 1326) (by decide +kernel), List.mem_of_getElem? (i := 1327) (by decide +kernel)⟩
theorem lw_p85 : lw_okq (⟨"StructureEditorModel", "hasField", "(II)Z"⟩, 45) := ⟨⟨by decide +kernel, by decide +kernel⟩, List.mem_of_getElem? (i := 893) (by decide +kernel), List.mem_of_getElem? (i := 1334) (by decide +kernel), List.mem_of_getElem? (i := 1335) (by decide +kernel)⟩
theorem lw_p86 : lw_okq (⟨"StructureEditorModel", "partOf", "(II)I"⟩, 45) := ⟨⟨by decide +kernel, by decide +kernel⟩, List.mem_of_getElem? (i := 893) (by decide +kernel), List.mem_of_getElem? (i := 1339) (by decide +kernel), List.mem_of_getElem? (i := 1340) (by decide +kernel)⟩
theorem lw_p87 : lw_okq (⟨"StructureEditorModel", "fits", "(IJ)Z"⟩, 45) := ⟨⟨by decide +kernel, by decide +kernel⟩, List.mem_of_getElem? (i := 893) (by decide +kernel), List.mem_of_getElem? (i := 1364) (by decide +kernel), List.mem_of_getElem? (i := 1365) (by decide +kernel)⟩
theorem lw_p88 : lw_okq (⟨"StructureEditorModel", "present", "()I"⟩, 45) := ⟨⟨by decide +kernel, by decide +kernel⟩, List.mem_of_getElem? (i := 893) (by decide +kernel), List.mem_of_getElem? (i := 1411) (by decide +kernel), List.mem_of_getElem? (i := 1412) (by decide +kernel)⟩
theorem lw_p89 : lw_okq (⟨"StructureEditorModel", "allWrong", "()I"⟩, 45) := ⟨⟨by decide +kernel, by decide +kernel⟩, List.mem_of_getElem? (i := 893) (by decide +kernel), List.mem_of_getElem? (i := 1415) (by decide +kernel), List.mem_of_getElem? (i := 1416) (by decide +kernel)⟩
theorem lw_p90 : lw_okq (⟨"StructureEditorModel", "mixes", "(J)V"⟩, 45) := ⟨⟨by decide +kernel, by decide +kernel⟩, List.mem_of_getElem? (i := 893) (by decide +kernel), List.mem_of_getElem? (i := 1424) (by decide +kernel), List.mem_of_getElem? (i := 1425) (by decide +kernel)⟩
theorem lw_p91 : lw_okq (⟨"StructureEditorModel", "mixesOverlay", "(I)V"⟩, 45) := ⟨⟨by decide +kernel, by decide +kernel⟩, List.mem_of_getElem? (i := 893) (by decide +kernel), List.mem_of_getElem? (i := 1429) (by decide +kernel), List.mem_of_getElem? (i := 1430) (by decide +kernel)⟩
def lw_privs_6 : List (MethodName × Nat) := [(⟨"StructureEditorModel", "read", "(IIZZ)J"⟩, 45), (⟨"StructureEditorModel", "isWrong", "(I)Z"⟩, 45), (⟨"StructureEditorModel", "expectedOf", "(I)I"⟩, 45), (⟨"StructureEditorModel", "puts", "(IJ)V"⟩, 45), (⟨"StructureEditorModel", "wrongs", "()I"⟩, 45), (⟨"StructureEditorModel", "hasField", "(II)Z"⟩, 45), (⟨"StructureEditorModel", "partOf", "(II)I"⟩, 45), (⟨"StructureEditorModel", "fits", "(IJ)Z"⟩, 45), (⟨"StructureEditorModel", "present", "()I"⟩, 45), (⟨"StructureEditorModel", "allWrong", "()I"⟩, 45), (⟨"StructureEditorModel", "mixes", "(J)V"⟩, 45), (⟨"StructureEditorModel", "mixesOverlay", "(I)V"⟩, 45)]
theorem lw_r6 : ∀ q ∈ lw_privs_6, lw_okq q := List.forall_mem_cons.mpr ⟨lw_p80, List.forall_mem_cons.mpr ⟨lw_p81, List.forall_mem_cons.mpr ⟨lw_p82, List.forall_mem_cons.mpr ⟨lw_p83, List.forall_mem_cons.mpr ⟨lw_p84, List.forall_mem_cons.mpr ⟨lw_p85, List.forall_mem_cons.mpr ⟨lw_p86, List.forall_mem_cons.mpr ⟨lw_p87, List.forall_mem_cons.mpr ⟨lw_p88, List.forall_mem_cons.mpr ⟨lw_p89, List.forall_mem_cons.mpr ⟨lw_p90, List.forall_mem_cons.mpr ⟨lw_p91, fun _ h => absurd h List.not_mem_nil⟩⟩⟩⟩⟩⟩⟩⟩⟩⟩⟩⟩
def lw_privs : List (MethodName × Nat) := lw_privs_1 ++ (lw_privs_2 ++ (lw_privs_3 ++ (lw_privs_4 ++ (lw_privs_5 ++ (lw_privs_6)))))
def lw_tbl : List Cond := k2_sels lw_privs ++ tables_1
theorem lw_privs_ok : ∀ q ∈ lw_privs, lw_okq q := by
  show ∀ q ∈ lw_privs_1 ++ (lw_privs_2 ++ (lw_privs_3 ++ (lw_privs_4 ++ (lw_privs_5 ++ (lw_privs_6))))), lw_okq q
  exact List.forall_mem_append.mpr ⟨lw_r1, List.forall_mem_append.mpr ⟨lw_r2, List.forall_mem_append.mpr ⟨lw_r3, List.forall_mem_append.mpr ⟨lw_r4, List.forall_mem_append.mpr ⟨lw_r5, lw_r6⟩⟩⟩⟩⟩
-- ===== end of PART A; then your names; then what follows =====
end
section
def RX0 : String := "StructureEditor$ByteRow"
def TX0 : u_T := fun k => match k with
  | 0 => ("StructureEditor$ByteRow", "bytes", "[I", true)
  | _ => ("StructureEditor$ByteRow", "size", "I", false)
def tyX0 : Nat → FieldType := fun k => match k with
  | 0 => .array .int
  | _ => .int
theorem nmX0 : ∀ a, a < 2 → ∀ b, b < 2 → a ≠ b → (TX0 a).2.1 ≠ (TX0 b).2.1 := by decide +kernel
theorem tyX0_ok : ∀ k, k < 2 → parseFieldDescriptor (TX0 k).2.2.1 = some (tyX0 k) := by decide +kernel
abbrev cX0_init : ByteArray := prog_2_method_1_code
def yX0_init : MethodName := ⟨RX0, "<init>", "(I)V"⟩
abbrev cX0_has : ByteArray := prog_2_method_2_code
def yX0_has : MethodName := ⟨RX0, "has", "(I)Z"⟩
abbrev cX0_get : ByteArray := prog_2_method_3_code
def yX0_get : MethodName := ⟨RX0, "get", "(I)I"⟩
abbrev cX0_put : ByteArray := prog_2_method_4_code
def yX0_put : MethodName := ⟨RX0, "put", "(II)V"⟩
abbrev cX0_putAll : ByteArray := prog_2_method_5_code
def yX0_putAll : MethodName := ⟨RX0, "putAll", "(ILStructureEditor$ByteRow;)V"⟩
abbrev cX0_append : ByteArray := prog_2_method_6_code
def yX0_append : MethodName := ⟨RX0, "append", "(I)Z"⟩
abbrev cX0_become : ByteArray := prog_2_method_7_code
def yX0_become : MethodName := ⟨RX0, "become", "(LStructureEditor$ByteRow;II)V"⟩
abbrev cX0_openGap : ByteArray := prog_2_method_8_code
def yX0_openGap : MethodName := ⟨RX0, "openGap", "(II)V"⟩
abbrev cX0_closeGap : ByteArray := prog_2_method_9_code
def yX0_closeGap : MethodName := ⟨RX0, "closeGap", "(II)V"⟩
abbrev cX0_read : ByteArray := prog_2_method_10_code
def yX0_read : MethodName := ⟨RX0, "read", "(LStructureEditor$Field;)J"⟩
abbrev cX0_write : ByteArray := prog_2_method_11_code
def yX0_write : MethodName := ⟨RX0, "write", "(LStructureEditor$Field;J)V"⟩
def RX1 : String := "StructureEditor$Checks"
def TX1 : u_T := fun k => match k with
  | _ => ("", "", "", false)
def tyX1 : Nat → FieldType := fun k => match k with
  | _ => .int
abbrev cX1_expectedOf : ByteArray := prog_3_method_2_code
def yX1_expectedOf : MethodName := ⟨RX1, "expectedOf", "(LStructureEditor$Field;LStructureEditor$ByteRow;)I"⟩
abbrev cX1_isWrong : ByteArray := prog_3_method_3_code
def yX1_isWrong : MethodName := ⟨RX1, "isWrong", "(LStructureEditor$Field;LStructureEditor$ByteRow;)Z"⟩
abbrev cX1_repairOf : ByteArray := prog_3_method_4_code
def yX1_repairOf : MethodName := ⟨RX1, "repairOf", "(LStructureEditor$Field;LStructureEditor$ByteRow;I)I"⟩
abbrev cX1_repairOfCrc : ByteArray := prog_3_method_5_code
def yX1_repairOfCrc : MethodName := ⟨RX1, "repairOfCrc", "(LStructureEditor$Field;LStructureEditor$ByteRow;I)I"⟩
abbrev cX1_feed : ByteArray := prog_3_method_6_code
def yX1_feed : MethodName := ⟨RX1, "feed", "(II)I"⟩
abbrev cX1_halve : ByteArray := prog_3_method_7_code
def yX1_halve : MethodName := ⟨RX1, "halve", "(I)I"⟩
def RX2 : String := "StructureEditor$Document"
def TX2 : u_T := fun k => match k with
  | 0 => ("StructureEditor$Document", "buffer", "LStructureEditor$ByteRow;", true)
  | 1 => ("StructureEditor$Document", "templateOf", "[I", true)
  | _ => ("StructureEditor$Document", "offsetOf", "[I", true)
def tyX2 : Nat → FieldType := fun k => match k with
  | 0 => .object "StructureEditor$ByteRow"
  | 1 => .array .int
  | _ => .array .int
theorem nmX2 : ∀ a, a < 3 → ∀ b, b < 3 → a ≠ b → (TX2 a).2.1 ≠ (TX2 b).2.1 := by decide +kernel
theorem tyX2_ok : ∀ k, k < 3 → parseFieldDescriptor (TX2 k).2.2.1 = some (tyX2 k) := by decide +kernel
abbrev cX2_init : ByteArray := prog_4_method_1_code
def yX2_init : MethodName := ⟨RX2, "<init>", "()V"⟩
abbrev cX2_isPresent : ByteArray := prog_4_method_2_code
def yX2_isPresent : MethodName := ⟨RX2, "isPresent", "(I)Z"⟩
abbrev cX2_drop : ByteArray := prog_4_method_3_code
def yX2_drop : MethodName := ⟨RX2, "drop", "(I)V"⟩
abbrev cX2_presentOverlays : ByteArray := prog_4_method_4_code
def yX2_presentOverlays : MethodName := ⟨RX2, "presentOverlays", "()I"⟩
abbrev cX2_uses : ByteArray := prog_4_method_5_code
def yX2_uses : MethodName := ⟨RX2, "uses", "(I)Z"⟩
abbrev cX2_become : ByteArray := prog_4_method_6_code
def yX2_become : MethodName := ⟨RX2, "become", "(LStructureEditor$Document;)V"⟩
abbrev cX2_openGap : ByteArray := prog_4_method_7_code
def yX2_openGap : MethodName := ⟨RX2, "openGap", "(II)V"⟩
abbrev cX2_closeGap : ByteArray := prog_4_method_8_code
def yX2_closeGap : MethodName := ⟨RX2, "closeGap", "(II)V"⟩
def RX3 : String := "StructureEditor$Field"
def TX3 : u_T := fun k => match k with
  | 0 => ("StructureEditor$Field", "start", "I", false)
  | 1 => ("StructureEditor$Field", "size", "I", false)
  | 2 => ("StructureEditor$Field", "kind", "I", false)
  | 3 => ("StructureEditor$Field", "isLittle", "Z", false)
  | 4 => ("StructureEditor$Field", "rangeStart", "I", false)
  | 5 => ("StructureEditor$Field", "rangeEnd", "I", false)
  | 6 => ("StructureEditor$Field", "names", "I", false)
  | _ => ("StructureEditor$Field", "path", "[I", true)
def tyX3 : Nat → FieldType := fun k => match k with
  | 0 => .int
  | 1 => .int
  | 2 => .int
  | 3 => .boolean
  | 4 => .int
  | 5 => .int
  | 6 => .int
  | _ => .array .int
theorem nmX3 : ∀ a, a < 8 → ∀ b, b < 8 → a ≠ b → (TX3 a).2.1 ≠ (TX3 b).2.1 := by decide +kernel
theorem tyX3_ok : ∀ k, k < 8 → parseFieldDescriptor (TX3 k).2.2.1 = some (tyX3 k) := by decide +kernel
abbrev cX3_init : ByteArray := prog_5_method_1_code
def yX3_init : MethodName := ⟨RX3, "<init>", "()V"⟩
abbrev cX3_isCheck : ByteArray := prog_5_method_2_code
def yX3_isCheck : MethodName := ⟨RX3, "isCheck", "()Z"⟩
abbrev cX3_contains : ByteArray := prog_5_method_3_code
def yX3_contains : MethodName := ⟨RX3, "contains", "(I)Z"⟩
abbrev cX3_takes : ByteArray := prog_5_method_4_code
def yX3_takes : MethodName := ⟨RX3, "takes", "(J)Z"⟩
abbrev cX3_pathName : ByteArray := prog_5_method_5_code
def yX3_pathName : MethodName := ⟨RX3, "pathName", "(I)I"⟩
abbrev cX3_property : ByteArray := prog_5_method_6_code
def yX3_property : MethodName := ⟨RX3, "property", "(I)I"⟩
def RX4 : String := "StructureEditor$History"
def TX4 : u_T := fun k => match k with
  | 0 => ("StructureEditor$History", "live", "LStructureEditor$Document;", true)
  | 1 => ("StructureEditor$History", "states", "[LStructureEditor$Document;", true)
  | 2 => ("StructureEditor$History", "now", "I", false)
  | _ => ("StructureEditor$History", "last", "I", false)
def tyX4 : Nat → FieldType := fun k => match k with
  | 0 => .object "StructureEditor$Document"
  | 1 => .array (.object "StructureEditor$Document")
  | 2 => .int
  | _ => .int
theorem nmX4 : ∀ a, a < 4 → ∀ b, b < 4 → a ≠ b → (TX4 a).2.1 ≠ (TX4 b).2.1 := by decide +kernel
theorem tyX4_ok : ∀ k, k < 4 → parseFieldDescriptor (TX4 k).2.2.1 = some (tyX4 k) := by decide +kernel
abbrev cX4_init : ByteArray := prog_6_method_1_code
def yX4_init : MethodName := ⟨RX4, "<init>", "(LStructureEditor$Document;)V"⟩
abbrev cX4_keep : ByteArray := prog_6_method_2_code
def yX4_keep : MethodName := ⟨RX4, "keep", "()V"⟩
abbrev cX4_takeBack : ByteArray := prog_6_method_3_code
def yX4_takeBack : MethodName := ⟨RX4, "takeBack", "()V"⟩
abbrev cX4_commit : ByteArray := prog_6_method_4_code
def yX4_commit : MethodName := ⟨RX4, "commit", "()V"⟩
abbrev cX4_back : ByteArray := prog_6_method_5_code
def yX4_back : MethodName := ⟨RX4, "back", "()Z"⟩
abbrev cX4_forward : ByteArray := prog_6_method_6_code
def yX4_forward : MethodName := ⟨RX4, "forward", "()Z"⟩
abbrev cX4_dropOldest : ByteArray := prog_6_method_7_code
def yX4_dropOldest : MethodName := ⟨RX4, "dropOldest", "()V"⟩
def RX5 : String := "StructureEditor$Item"
def TX5 : u_T := fun k => match k with
  | 0 => ("StructureEditor$Item", "kind", "I", false)
  | 1 => ("StructureEditor$Item", "name", "I", false)
  | 2 => ("StructureEditor$Item", "size", "I", false)
  | 3 => ("StructureEditor$Item", "isLittle", "Z", false)
  | 4 => ("StructureEditor$Item", "parent", "I", false)
  | 5 => ("StructureEditor$Item", "end", "I", false)
  | 6 => ("StructureEditor$Item", "condition", "I", false)
  | 7 => ("StructureEditor$Item", "conditionValue", "I", false)
  | 8 => ("StructureEditor$Item", "isCounted", "Z", false)
  | 9 => ("StructureEditor$Item", "counter", "I", false)
  | 10 => ("StructureEditor$Item", "number", "I", false)
  | 11 => ("StructureEditor$Item", "rangeFirst", "I", false)
  | _ => ("StructureEditor$Item", "rangeLast", "I", false)
def tyX5 : Nat → FieldType := fun k => match k with
  | 0 => .int
  | 1 => .int
  | 2 => .int
  | 3 => .boolean
  | 4 => .int
  | 5 => .int
  | 6 => .int
  | 7 => .int
  | 8 => .boolean
  | 9 => .int
  | 10 => .int
  | 11 => .int
  | _ => .int
theorem nmX5 : ∀ a, a < 13 → ∀ b, b < 13 → a ≠ b → (TX5 a).2.1 ≠ (TX5 b).2.1 := by decide +kernel
theorem tyX5_ok : ∀ k, k < 13 → parseFieldDescriptor (TX5 k).2.2.1 = some (tyX5 k) := by decide +kernel
abbrev cX5_init : ByteArray := prog_7_method_1_code
def yX5_init : MethodName := ⟨RX5, "<init>", "()V"⟩
abbrev cX5_reset : ByteArray := prog_7_method_2_code
def yX5_reset : MethodName := ⟨RX5, "reset", "(I)V"⟩
abbrev cX5_isPlainInteger : ByteArray := prog_7_method_3_code
def yX5_isPlainInteger : MethodName := ⟨RX5, "isPlainInteger", "()Z"⟩
def RX6 : String := "StructureEditor$Layout"
def TX6 : u_T := fun k => match k with
  | 0 => ("StructureEditor$Layout", "fields", "[LStructureEditor$Field;", true)
  | 1 => ("StructureEditor$Layout", "used", "I", false)
  | 2 => ("StructureEditor$Layout", "reason", "I", false)
  | 3 => ("StructureEditor$Layout", "position", "I", false)
  | 4 => ("StructureEditor$Layout", "buffer", "LStructureEditor$ByteRow;", true)
  | 5 => ("StructureEditor$Layout", "template", "LStructureEditor$Template;", false)
  | 6 => ("StructureEditor$Layout", "offset", "I", false)
  | 7 => ("StructureEditor$Layout", "steps", "I", false)
  | 8 => ("StructureEditor$Layout", "path", "[I", true)
  | 9 => ("StructureEditor$Layout", "itemValue", "[J", true)
  | 10 => ("StructureEditor$Layout", "itemStart", "[I", true)
  | 11 => ("StructureEditor$Layout", "itemEnd", "[I", true)
  | 12 => ("StructureEditor$Layout", "soughtPath", "[I", true)
  | _ => ("StructureEditor$Layout", "soughtNames", "I", false)
def tyX6 : Nat → FieldType := fun k => match k with
  | 0 => .array (.object "StructureEditor$Field")
  | 1 => .int
  | 2 => .int
  | 3 => .int
  | 4 => .object "StructureEditor$ByteRow"
  | 5 => .object "StructureEditor$Template"
  | 6 => .int
  | 7 => .int
  | 8 => .array .int
  | 9 => .array .long
  | 10 => .array .int
  | 11 => .array .int
  | 12 => .array .int
  | _ => .int
theorem nmX6 : ∀ a, a < 14 → ∀ b, b < 14 → a ≠ b → (TX6 a).2.1 ≠ (TX6 b).2.1 := by decide +kernel
theorem tyX6_ok : ∀ k, k < 14 → parseFieldDescriptor (TX6 k).2.2.1 = some (tyX6 k) := by decide +kernel
abbrev cX6_init : ByteArray := prog_8_method_1_code
def yX6_init : MethodName := ⟨RX6, "<init>", "(LStructureEditor$Template;LStructureEditor$ByteRow;)V"⟩
abbrev cX6_compute : ByteArray := prog_8_method_2_code
def yX6_compute : MethodName := ⟨RX6, "compute", "(LStructureEditor$Template;I)V"⟩
abbrev cX6_makeStep : ByteArray := prog_8_method_3_code
def yX6_makeStep : MethodName := ⟨RX6, "makeStep", "()Z"⟩
abbrev cX6_goThrough : ByteArray := prog_8_method_4_code
def yX6_goThrough : MethodName := ⟨RX6, "goThrough", "(II)V"⟩
abbrev cX6_repeatStructure : ByteArray := prog_8_method_5_code
def yX6_repeatStructure : MethodName := ⟨RX6, "repeatStructure", "(II)V"⟩
abbrev cX6_repetitionsOf : ByteArray := prog_8_method_6_code
def yX6_repetitionsOf : MethodName := ⟨RX6, "repetitionsOf", "(LStructureEditor$Item;)I"⟩
abbrev cX6_align : ByteArray := prog_8_method_7_code
def yX6_align : MethodName := ⟨RX6, "align", "(I)V"⟩
abbrev cX6_layFields : ByteArray := prog_8_method_8_code
def yX6_layFields : MethodName := ⟨RX6, "layFields", "(II)V"⟩
abbrev cX6_layField : ByteArray := prog_8_method_9_code
def yX6_layField : MethodName := ⟨RX6, "layField", "(LStructureEditor$Item;I)V"⟩
abbrev cX6_seek : ByteArray := prog_8_method_10_code
def yX6_seek : MethodName := ⟨RX6, "seek", "(I)V"⟩
abbrev cX6_firstSought : ByteArray := prog_8_method_11_code
def yX6_firstSought : MethodName := ⟨RX6, "firstSought", "()I"⟩
abbrev cX6_isSought : ByteArray := prog_8_method_12_code
def yX6_isSought : MethodName := ⟨RX6, "isSought", "(LStructureEditor$Field;)Z"⟩
def RX7 : String := "StructureEditor$Pattern"
def TX7 : u_T := fun k => match k with
  | 0 => ("StructureEditor$Pattern", "high", "[I", true)
  | 1 => ("StructureEditor$Pattern", "low", "[I", true)
  | _ => ("StructureEditor$Pattern", "pairs", "I", false)
def tyX7 : Nat → FieldType := fun k => match k with
  | 0 => .array .int
  | 1 => .array .int
  | _ => .int
theorem nmX7 : ∀ a, a < 3 → ∀ b, b < 3 → a ≠ b → (TX7 a).2.1 ≠ (TX7 b).2.1 := by decide +kernel
theorem tyX7_ok : ∀ k, k < 3 → parseFieldDescriptor (TX7 k).2.2.1 = some (tyX7 k) := by decide +kernel
abbrev cX7_init : ByteArray := prog_9_method_1_code
def yX7_init : MethodName := ⟨RX7, "<init>", "()V"⟩
abbrev cX7_faultOf : ByteArray := prog_9_method_2_code
def yX7_faultOf : MethodName := ⟨RX7, "faultOf", "(LStructureEditor$ByteRow;)I"⟩
abbrev cX7_fits : ByteArray := prog_9_method_3_code
def yX7_fits : MethodName := ⟨RX7, "fits", "(LStructureEditor$ByteRow;I)Z"⟩
abbrev cX7_fitsDigit : ByteArray := prog_9_method_4_code
def yX7_fitsDigit : MethodName := ⟨RX7, "fitsDigit", "(II)Z"⟩
abbrev cX7_digitOf : ByteArray := prog_9_method_5_code
def yX7_digitOf : MethodName := ⟨RX7, "digitOf", "(I)I"⟩
def RX8 : String := "StructureEditor$Template"
def TX8 : u_T := fun k => match k with
  | 0 => ("StructureEditor$Template", "items", "[LStructureEditor$Item;", true)
  | _ => ("StructureEditor$Template", "used", "I", false)
def tyX8 : Nat → FieldType := fun k => match k with
  | 0 => .array (.object "StructureEditor$Item")
  | _ => .int
theorem nmX8 : ∀ a, a < 2 → ∀ b, b < 2 → a ≠ b → (TX8 a).2.1 ≠ (TX8 b).2.1 := by decide +kernel
theorem tyX8_ok : ∀ k, k < 2 → parseFieldDescriptor (TX8 k).2.2.1 = some (tyX8 k) := by decide +kernel
abbrev cX8_init : ByteArray := prog_10_method_1_code
def yX8_init : MethodName := ⟨RX8, "<init>", "()V"⟩
abbrev cX8_append : ByteArray := prog_10_method_2_code
def yX8_append : MethodName := ⟨RX8, "append", "(I)I"⟩
abbrev cX8_sibling : ByteArray := prog_10_method_3_code
def yX8_sibling : MethodName := ⟨RX8, "sibling", "(II)I"⟩
abbrev cX8_lookUp : ByteArray := prog_10_method_4_code
def yX8_lookUp : MethodName := ⟨RX8, "lookUp", "(II)I"⟩
def RX9 : String := "StructureEditor$TemplateParser"
def TX9 : u_T := fun k => match k with
  | 0 => ("StructureEditor$TemplateParser", "text", "LStructureEditor$ByteRow;", true)
  | 1 => ("StructureEditor$TemplateParser", "template", "LStructureEditor$Template;", false)
  | 2 => ("StructureEditor$TemplateParser", "at", "I", false)
  | 3 => ("StructureEditor$TemplateParser", "sign", "I", false)
  | _ => ("StructureEditor$TemplateParser", "fault", "I", false)
def tyX9 : Nat → FieldType := fun k => match k with
  | 0 => .object "StructureEditor$ByteRow"
  | 1 => .object "StructureEditor$Template"
  | 2 => .int
  | 3 => .int
  | _ => .int
theorem nmX9 : ∀ a, a < 5 → ∀ b, b < 5 → a ≠ b → (TX9 a).2.1 ≠ (TX9 b).2.1 := by decide +kernel
theorem tyX9_ok : ∀ k, k < 5 → parseFieldDescriptor (TX9 k).2.2.1 = some (tyX9 k) := by decide +kernel
abbrev cX9_init : ByteArray := prog_11_method_1_code
def yX9_init : MethodName := ⟨RX9, "<init>", "(LStructureEditor$ByteRow;LStructureEditor$Template;)V"⟩
abbrev cX9_faultOf : ByteArray := prog_11_method_2_code
def yX9_faultOf : MethodName := ⟨RX9, "faultOf", "(LStructureEditor$Template;)I"⟩
abbrev cX9_moveTo : ByteArray := prog_11_method_3_code
def yX9_moveTo : MethodName := ⟨RX9, "moveTo", "(I)V"⟩
abbrev cX9_refuse : ByteArray := prog_11_method_4_code
def yX9_refuse : MethodName := ⟨RX9, "refuse", "(I)Z"⟩
abbrev cX9_parseSign : ByteArray := prog_11_method_5_code
def yX9_parseSign : MethodName := ⟨RX9, "parseSign", "(I)Z"⟩
abbrev cX9_parseBlock : ByteArray := prog_11_method_6_code
def yX9_parseBlock : MethodName := ⟨RX9, "parseBlock", "(II)Z"⟩
abbrev cX9_parseItem : ByteArray := prog_11_method_7_code
def yX9_parseItem : MethodName := ⟨RX9, "parseItem", "(II)Z"⟩
abbrev cX9_parseCondition : ByteArray := prog_11_method_8_code
def yX9_parseCondition : MethodName := ⟨RX9, "parseCondition", "(I)Z"⟩
abbrev cX9_parseGap : ByteArray := prog_11_method_9_code
def yX9_parseGap : MethodName := ⟨RX9, "parseGap", "(LStructureEditor$Item;)Z"⟩
abbrev cX9_parseName : ByteArray := prog_11_method_10_code
def yX9_parseName : MethodName := ⟨RX9, "parseName", "(I)Z"⟩
abbrev cX9_parseType : ByteArray := prog_11_method_11_code
def yX9_parseType : MethodName := ⟨RX9, "parseType", "(II)Z"⟩
abbrev cX9_parseInteger : ByteArray := prog_11_method_12_code
def yX9_parseInteger : MethodName := ⟨RX9, "parseInteger", "(LStructureEditor$Item;)Z"⟩
abbrev cX9_parseStructure : ByteArray := prog_11_method_13_code
def yX9_parseStructure : MethodName := ⟨RX9, "parseStructure", "(II)Z"⟩
abbrev cX9_parseCheck : ByteArray := prog_11_method_14_code
def yX9_parseCheck : MethodName := ⟨RX9, "parseCheck", "(III)Z"⟩
abbrev cX9_parseSibling : ByteArray := prog_11_method_15_code
def yX9_parseSibling : MethodName := ⟨RX9, "parseSibling", "(II)I"⟩
abbrev cX9_parseCount : ByteArray := prog_11_method_16_code
def yX9_parseCount : MethodName := ⟨RX9, "parseCount", "(I)Z"⟩
abbrev cX9_parseReference : ByteArray := prog_11_method_17_code
def yX9_parseReference : MethodName := ⟨RX9, "parseReference", "(I)I"⟩
abbrev cX9_parseNumber : ByteArray := prog_11_method_18_code
def yX9_parseNumber : MethodName := ⟨RX9, "parseNumber", "()I"⟩
abbrev cX9_isName : ByteArray := prog_11_method_19_code
def yX9_isName : MethodName := ⟨RX9, "isName", "(I)Z"⟩
abbrev cX9_isDigit : ByteArray := prog_11_method_20_code
def yX9_isDigit : MethodName := ⟨RX9, "isDigit", "(I)Z"⟩
def RX10 : String := "StructureEditor"
def TX10 : u_T := fun k => match k with
  | 0 => ("StructureEditor", "text", "LStructureEditor$ByteRow;", true)
  | 1 => ("StructureEditor", "clipboard", "LStructureEditor$ByteRow;", true)
  | 2 => ("StructureEditor", "marked", "LStructureEditor$ByteRow;", true)
  | 3 => ("StructureEditor", "document", "LStructureEditor$Document;", true)
  | 4 => ("StructureEditor", "history", "LStructureEditor$History;", true)
  | 5 => ("StructureEditor", "templates", "[LStructureEditor$Template;", true)
  | 6 => ("StructureEditor", "parser", "LStructureEditor$TemplateParser;", true)
  | 7 => ("StructureEditor", "pattern", "LStructureEditor$Pattern;", true)
  | 8 => ("StructureEditor", "layout", "LStructureEditor$Layout;", true)
  | 9 => ("StructureEditor", "distances", "[I", true)
  | 10 => ("StructureEditor", "draft", "LStructureEditor$Template;", false)
  | _ => ("StructureEditor", "following", "Z", false)
def tyX10 : Nat → FieldType := fun k => match k with
  | 0 => .object "StructureEditor$ByteRow"
  | 1 => .object "StructureEditor$ByteRow"
  | 2 => .object "StructureEditor$ByteRow"
  | 3 => .object "StructureEditor$Document"
  | 4 => .object "StructureEditor$History"
  | 5 => .array (.object "StructureEditor$Template")
  | 6 => .object "StructureEditor$TemplateParser"
  | 7 => .object "StructureEditor$Pattern"
  | 8 => .object "StructureEditor$Layout"
  | 9 => .array .int
  | 10 => .object "StructureEditor$Template"
  | _ => .boolean
theorem nmX10 : ∀ a, a < 12 → ∀ b, b < 12 → a ≠ b → (TX10 a).2.1 ≠ (TX10 b).2.1 := by decide +kernel
theorem tyX10_ok : ∀ k, k < 12 → parseFieldDescriptor (TX10 k).2.2.1 = some (tyX10 k) := by decide +kernel
abbrev cX10_init : ByteArray := prog_1_method_1_code
def yX10_init : MethodName := ⟨RX10, "<init>", "()V"⟩
abbrev cX10_type : ByteArray := prog_1_method_2_code
def yX10_type : MethodName := ⟨RX10, "type", "(I)I"⟩
abbrev cX10_clearText : ByteArray := prog_1_method_3_code
def yX10_clearText : MethodName := ⟨RX10, "clearText", "()I"⟩
abbrev cX10_templateFault : ByteArray := prog_1_method_4_code
def yX10_templateFault : MethodName := ⟨RX10, "templateFault", "()I"⟩
abbrev cX10_define : ByteArray := prog_1_method_5_code
def yX10_define : MethodName := ⟨RX10, "define", "(I)I"⟩
abbrev cX10_items : ByteArray := prog_1_method_6_code
def yX10_items : MethodName := ⟨RX10, "items", "(I)I"⟩
abbrev cX10_patternFault : ByteArray := prog_1_method_7_code
def yX10_patternFault : MethodName := ⟨RX10, "patternFault", "()I"⟩
abbrev cX10_find : ByteArray := prog_1_method_8_code
def yX10_find : MethodName := ⟨RX10, "find", "(I)I"⟩
abbrev cX10_matches : ByteArray := prog_1_method_9_code
def yX10_matches : MethodName := ⟨RX10, "matches", "()I"⟩
abbrev cX10_length : ByteArray := prog_1_method_10_code
def yX10_length : MethodName := ⟨RX10, "length", "()I"⟩
abbrev cX10_byteAt : ByteArray := prog_1_method_11_code
def yX10_byteAt : MethodName := ⟨RX10, "byteAt", "(I)I"⟩
abbrev cX10_insert : ByteArray := prog_1_method_12_code
def yX10_insert : MethodName := ⟨RX10, "insert", "(III)I"⟩
abbrev cX10_delete : ByteArray := prog_1_method_13_code
def yX10_delete : MethodName := ⟨RX10, "delete", "(II)I"⟩
abbrev cX10_overwrite : ByteArray := prog_1_method_14_code
def yX10_overwrite : MethodName := ⟨RX10, "overwrite", "(II)I"⟩
abbrev cX10_copy : ByteArray := prog_1_method_15_code
def yX10_copy : MethodName := ⟨RX10, "copy", "(II)I"⟩
abbrev cX10_paste : ByteArray := prog_1_method_16_code
def yX10_paste : MethodName := ⟨RX10, "paste", "(I)I"⟩
abbrev cX10_pasteOver : ByteArray := prog_1_method_17_code
def yX10_pasteOver : MethodName := ⟨RX10, "pasteOver", "(I)I"⟩
abbrev cX10_lay : ByteArray := prog_1_method_18_code
def yX10_lay : MethodName := ⟨RX10, "lay", "(III)I"⟩
abbrev cX10_remove : ByteArray := prog_1_method_19_code
def yX10_remove : MethodName := ⟨RX10, "remove", "(I)I"⟩
abbrev cX10_overlay : ByteArray := prog_1_method_20_code
def yX10_overlay : MethodName := ⟨RX10, "overlay", "(II)I"⟩
abbrev cX10_field : ByteArray := prog_1_method_21_code
def yX10_field : MethodName := ⟨RX10, "field", "(III)I"⟩
abbrev cX10_value : ByteArray := prog_1_method_22_code
def yX10_value : MethodName := ⟨RX10, "value", "(II)J"⟩
abbrev cX10_path : ByteArray := prog_1_method_23_code
def yX10_path : MethodName := ⟨RX10, "path", "(III)I"⟩
abbrev cX10_fieldAt : ByteArray := prog_1_method_24_code
def yX10_fieldAt : MethodName := ⟨RX10, "fieldAt", "(II)I"⟩
abbrev cX10_counterpart : ByteArray := prog_1_method_25_code
def yX10_counterpart : MethodName := ⟨RX10, "counterpart", "(III)I"⟩
abbrev cX10_setField : ByteArray := prog_1_method_26_code
def yX10_setField : MethodName := ⟨RX10, "setField", "(IIJ)I"⟩
abbrev cX10_follow : ByteArray := prog_1_method_27_code
def yX10_follow : MethodName := ⟨RX10, "follow", "(Z)I"⟩
abbrev cX10_refresh : ByteArray := prog_1_method_28_code
def yX10_refresh : MethodName := ⟨RX10, "refresh", "()I"⟩
abbrev cX10_expected : ByteArray := prog_1_method_29_code
def yX10_expected : MethodName := ⟨RX10, "expected", "(II)I"⟩
abbrev cX10_repair : ByteArray := prog_1_method_30_code
def yX10_repair : MethodName := ⟨RX10, "repair", "(II)I"⟩
abbrev cX10_undo : ByteArray := prog_1_method_31_code
def yX10_undo : MethodName := ⟨RX10, "undo", "()I"⟩
abbrev cX10_redo : ByteArray := prog_1_method_32_code
def yX10_redo : MethodName := ⟨RX10, "redo", "()I"⟩
abbrev cX10_mark : ByteArray := prog_1_method_33_code
def yX10_mark : MethodName := ⟨RX10, "mark", "()I"⟩
abbrev cX10_difference : ByteArray := prog_1_method_34_code
def yX10_difference : MethodName := ⟨RX10, "difference", "(I)I"⟩
abbrev cX10_distance : ByteArray := prog_1_method_35_code
def yX10_distance : MethodName := ⟨RX10, "distance", "()I"⟩
abbrev cX10_count : ByteArray := prog_1_method_36_code
def yX10_count : MethodName := ⟨RX10, "count", "(I)I"⟩
abbrev cX10_digest : ByteArray := prog_1_method_37_code
def yX10_digest : MethodName := ⟨RX10, "digest", "()J"⟩
abbrev cX10_isWithin : ByteArray := prog_1_method_38_code
def yX10_isWithin : MethodName := ⟨RX10, "isWithin", "(III)Z"⟩
abbrev cX10_endChange : ByteArray := prog_1_method_39_code
def yX10_endChange : MethodName := ⟨RX10, "endChange", "(Z)I"⟩
abbrev cX10_updateRound : ByteArray := prog_1_method_40_code
def yX10_updateRound : MethodName := ⟨RX10, "updateRound", "()Z"⟩
abbrev cX10_updateWrongFields : ByteArray := prog_1_method_41_code
def yX10_updateWrongFields : MethodName := ⟨RX10, "updateWrongFields", "()Z"⟩
abbrev cX10_layOut : ByteArray := prog_1_method_42_code
def yX10_layOut : MethodName := ⟨RX10, "layOut", "(I)Z"⟩
abbrev cX10_layOutField : ByteArray := prog_1_method_43_code
def yX10_layOutField : MethodName := ⟨RX10, "layOutField", "(II)Z"⟩
abbrev cX10_fieldsOf : ByteArray := prog_1_method_44_code
def yX10_fieldsOf : MethodName := ⟨RX10, "fieldsOf", "(I)I"⟩
abbrev cX10_overlayProperty : ByteArray := prog_1_method_45_code
def yX10_overlayProperty : MethodName := ⟨RX10, "overlayProperty", "(II)I"⟩
abbrev cX10_wrongFields : ByteArray := prog_1_method_46_code
def yX10_wrongFields : MethodName := ⟨RX10, "wrongFields", "()I"⟩
abbrev cX10_wrongFieldsOfAll : ByteArray := prog_1_method_47_code
def yX10_wrongFieldsOfAll : MethodName := ⟨RX10, "wrongFieldsOfAll", "()I"⟩
abbrev cX10_numberOf : ByteArray := prog_1_method_48_code
def yX10_numberOf : MethodName := ⟨RX10, "numberOf", "(I)I"⟩
abbrev cX10_nextDistances : ByteArray := prog_1_method_49_code
def yX10_nextDistances : MethodName := ⟨RX10, "nextDistances", "(II)V"⟩
abbrev cX10_mix : ByteArray := prog_1_method_50_code
def yX10_mix : MethodName := ⟨RX10, "mix", "(JJ)J"⟩
abbrev cX10_mixOverlay : ByteArray := prog_1_method_51_code
def yX10_mixOverlay : MethodName := ⟨RX10, "mixOverlay", "(JI)J"⟩
abbrev cX10_mixField : ByteArray := prog_1_method_52_code
def yX10_mixField : MethodName := ⟨RX10, "mixField", "(JLStructureEditor$Field;)J"⟩
def RX11 : String := "StructureEditorModel"
def TX11 : u_T := fun k => match k with
  | 0 => ("StructureEditorModel", "m", "[I", true)
  | 1 => ("StructureEditorModel", "past", "[I", true)
  | 2 => ("StructureEditorModel", "undos", "I", false)
  | 3 => ("StructureEditorModel", "future", "[I", true)
  | 4 => ("StructureEditorModel", "redos", "I", false)
  | 5 => ("StructureEditorModel", "kept", "[I", true)
  | 6 => ("StructureEditorModel", "follows", "Z", false)
  | 7 => ("StructureEditorModel", "clip", "[I", true)
  | 8 => ("StructureEditorModel", "clipLength", "I", false)
  | 9 => ("StructureEditorModel", "marked", "[I", true)
  | 10 => ("StructureEditorModel", "markedLength", "I", false)
  | 11 => ("StructureEditorModel", "text", "[I", true)
  | 12 => ("StructureEditorModel", "textLength", "I", false)
  | 13 => ("StructureEditorModel", "item", "[I", true)
  | 14 => ("StructureEditorModel", "items", "[I", true)
  | 15 => ("StructureEditorModel", "at", "I", false)
  | 16 => ("StructureEditorModel", "fault", "I", false)
  | 17 => ("StructureEditorModel", "numberAt", "I", false)
  | 18 => ("StructureEditorModel", "nameAt", "I", false)
  | 19 => ("StructureEditorModel", "depth", "I", false)
  | 20 => ("StructureEditorModel", "open", "I", false)
  | 21 => ("StructureEditorModel", "half", "[I", true)
  | 22 => ("StructureEditorModel", "pairs", "I", false)
  | 23 => ("StructureEditorModel", "start", "[I", true)
  | 24 => ("StructureEditorModel", "wide", "[I", true)
  | 25 => ("StructureEditorModel", "sort", "[I", true)
  | 26 => ("StructureEditorModel", "little", "[I", true)
  | 27 => ("StructureEditorModel", "from", "[I", true)
  | 28 => ("StructureEditorModel", "to", "[I", true)
  | 29 => ("StructureEditorModel", "levels", "[I", true)
  | 30 => ("StructureEditorModel", "names", "[I", true)
  | 31 => ("StructureEditorModel", "fields", "I", false)
  | 32 => ("StructureEditorModel", "broken", "I", false)
  | 33 => ("StructureEditorModel", "position", "I", false)
  | 34 => ("StructureEditorModel", "steps", "I", false)
  | 35 => ("StructureEditorModel", "worth", "[J", true)
  | 36 => ("StructureEditorModel", "begins", "[I", true)
  | 37 => ("StructureEditorModel", "ends", "[I", true)
  | 38 => ("StructureEditorModel", "inside", "[I", true)
  | 39 => ("StructureEditorModel", "often", "[I", true)
  | 40 => ("StructureEditorModel", "turn", "[I", true)
  | 41 => ("StructureEditorModel", "deep", "I", false)
  | 42 => ("StructureEditorModel", "wanted", "[I", true)
  | 43 => ("StructureEditorModel", "row", "[I", true)
  | _ => ("StructureEditorModel", "hash", "J", false)
def tyX11 : Nat → FieldType := fun k => match k with
  | 0 => .array .int
  | 1 => .array .int
  | 2 => .int
  | 3 => .array .int
  | 4 => .int
  | 5 => .array .int
  | 6 => .boolean
  | 7 => .array .int
  | 8 => .int
  | 9 => .array .int
  | 10 => .int
  | 11 => .array .int
  | 12 => .int
  | 13 => .array .int
  | 14 => .array .int
  | 15 => .int
  | 16 => .int
  | 17 => .int
  | 18 => .int
  | 19 => .int
  | 20 => .int
  | 21 => .array .int
  | 22 => .int
  | 23 => .array .int
  | 24 => .array .int
  | 25 => .array .int
  | 26 => .array .int
  | 27 => .array .int
  | 28 => .array .int
  | 29 => .array .int
  | 30 => .array .int
  | 31 => .int
  | 32 => .int
  | 33 => .int
  | 34 => .int
  | 35 => .array .long
  | 36 => .array .int
  | 37 => .array .int
  | 38 => .array .int
  | 39 => .array .int
  | 40 => .array .int
  | 41 => .int
  | 42 => .array .int
  | 43 => .array .int
  | _ => .long
theorem nmX11 : ∀ a, a < 45 → ∀ b, b < 45 → a ≠ b → (TX11 a).2.1 ≠ (TX11 b).2.1 := by decide +kernel
theorem tyX11_ok : ∀ k, k < 45 → parseFieldDescriptor (TX11 k).2.2.1 = some (tyX11 k) := by decide +kernel
abbrev cX11_init : ByteArray := prog_13_method_1_code
def yX11_init : MethodName := ⟨RX11, "<init>", "()V"⟩
abbrev cX11_in : ByteArray := prog_13_method_2_code
def yX11_in : MethodName := ⟨RX11, "in", "(JJJ)Z"⟩
abbrev cX11_less : ByteArray := prog_13_method_3_code
def yX11_less : MethodName := ⟨RX11, "less", "(II)I"⟩
abbrev cX11_size : ByteArray := prog_13_method_4_code
def yX11_size : MethodName := ⟨RX11, "size", "()I"⟩
abbrev cX11_isPresent : ByteArray := prog_13_method_5_code
def yX11_isPresent : MethodName := ⟨RX11, "isPresent", "(I)Z"⟩
abbrev cX11_templateOf : ByteArray := prog_13_method_6_code
def yX11_templateOf : MethodName := ⟨RX11, "templateOf", "(I)I"⟩
abbrev cX11_offsetOf : ByteArray := prog_13_method_7_code
def yX11_offsetOf : MethodName := ⟨RX11, "offsetOf", "(I)I"⟩
abbrev cX11_moves : ByteArray := prog_13_method_8_code
def yX11_moves : MethodName := ⟨RX11, "moves", "(II)V"⟩
abbrev cX11_type : ByteArray := prog_13_method_9_code
def yX11_type : MethodName := ⟨RX11, "type", "(I)I"⟩
abbrev cX11_clearText : ByteArray := prog_13_method_10_code
def yX11_clearText : MethodName := ⟨RX11, "clearText", "()I"⟩
abbrev cX11_next : ByteArray := prog_13_method_11_code
def yX11_next : MethodName := ⟨RX11, "next", "()I"⟩
abbrev cX11_blanks : ByteArray := prog_13_method_12_code
def yX11_blanks : MethodName := ⟨RX11, "blanks", "()V"⟩
abbrev cX11_faults : ByteArray := prog_13_method_13_code
def yX11_faults : MethodName := ⟨RX11, "faults", "(I)V"⟩
abbrev cX11_takes : ByteArray := prog_13_method_14_code
def yX11_takes : MethodName := ⟨RX11, "takes", "(I)Z"⟩
abbrev cX11_expects : ByteArray := prog_13_method_15_code
def yX11_expects : MethodName := ⟨RX11, "expects", "(I)V"⟩
abbrev cX11_number : ByteArray := prog_13_method_16_code
def yX11_number : MethodName := ⟨RX11, "number", "()I"⟩
abbrev cX11_blanksBehindNumber : ByteArray := prog_13_method_17_code
def yX11_blanksBehindNumber : MethodName := ⟨RX11, "blanksBehindNumber", "()V"⟩
abbrev cX11_name : ByteArray := prog_13_method_18_code
def yX11_name : MethodName := ⟨RX11, "name", "()I"⟩
abbrev cX11_of : ByteArray := prog_13_method_19_code
def yX11_of : MethodName := ⟨RX11, "of", "(III)I"⟩
abbrev cX11_readOf : ByteArray := prog_13_method_20_code
def yX11_readOf : MethodName := ⟨RX11, "readOf", "(II)I"⟩
abbrev cX11_writes : ByteArray := prog_13_method_21_code
def yX11_writes : MethodName := ⟨RX11, "writes", "(III)V"⟩
abbrev cX11_inBlock : ByteArray := prog_13_method_22_code
def yX11_inBlock : MethodName := ⟨RX11, "inBlock", "(III)I"⟩
abbrev cX11_named : ByteArray := prog_13_method_23_code
def yX11_named : MethodName := ⟨RX11, "named", "(II)I"⟩
abbrev cX11_integerNamed : ByteArray := prog_13_method_24_code
def yX11_integerNamed : MethodName := ⟨RX11, "integerNamed", "(I)I"⟩
abbrev cX11_readsCount : ByteArray := prog_13_method_25_code
def yX11_readsCount : MethodName := ⟨RX11, "readsCount", "(I)V"⟩
abbrev cX11_siblingNamed : ByteArray := prog_13_method_26_code
def yX11_siblingNamed : MethodName := ⟨RX11, "siblingNamed", "(I)I"⟩
abbrev cX11_readsCheck : ByteArray := prog_13_method_27_code
def yX11_readsCheck : MethodName := ⟨RX11, "readsCheck", "(II)V"⟩
abbrev cX11_readsInteger : ByteArray := prog_13_method_28_code
def yX11_readsInteger : MethodName := ⟨RX11, "readsInteger", "(I)V"⟩
abbrev cX11_readsType : ByteArray := prog_13_method_29_code
def yX11_readsType : MethodName := ⟨RX11, "readsType", "(I)Z"⟩
abbrev cX11_readsItem : ByteArray := prog_13_method_30_code
def yX11_readsItem : MethodName := ⟨RX11, "readsItem", "()V"⟩
abbrev cX11_readsNamed : ByteArray := prog_13_method_31_code
def yX11_readsNamed : MethodName := ⟨RX11, "readsNamed", "(I)Z"⟩
abbrev cX11_closes : ByteArray := prog_13_method_32_code
def yX11_closes : MethodName := ⟨RX11, "closes", "()V"⟩
abbrev cX11_templateFault : ByteArray := prog_13_method_33_code
def yX11_templateFault : MethodName := ⟨RX11, "templateFault", "()I"⟩
abbrev cX11_define : ByteArray := prog_13_method_34_code
def yX11_define : MethodName := ⟨RX11, "define", "(I)I"⟩
abbrev cX11_items : ByteArray := prog_13_method_35_code
def yX11_items : MethodName := ⟨RX11, "items", "(I)I"⟩
abbrev cX11_halfOf : ByteArray := prog_13_method_36_code
def yX11_halfOf : MethodName := ⟨RX11, "halfOf", "(I)I"⟩
abbrev cX11_patternFault : ByteArray := prog_13_method_37_code
def yX11_patternFault : MethodName := ⟨RX11, "patternFault", "()I"⟩
abbrev cX11_matchesAt : ByteArray := prog_13_method_38_code
def yX11_matchesAt : MethodName := ⟨RX11, "matchesAt", "(I)Z"⟩
abbrev cX11_find : ByteArray := prog_13_method_39_code
def yX11_find : MethodName := ⟨RX11, "find", "(I)I"⟩
abbrev cX11_matches : ByteArray := prog_13_method_40_code
def yX11_matches : MethodName := ⟨RX11, "matches", "()I"⟩
abbrev cX11_read : ByteArray := prog_13_method_41_code
def yX11_read : MethodName := ⟨RX11, "read", "(IIZZ)J"⟩
abbrev cX11_valueOf : ByteArray := prog_13_method_42_code
def yX11_valueOf : MethodName := ⟨RX11, "valueOf", "(I)J"⟩
abbrev cX11_lays : ByteArray := prog_13_method_43_code
def yX11_lays : MethodName := ⟨RX11, "lays", "(III)Z"⟩
abbrev cX11_countOf : ByteArray := prog_13_method_44_code
def yX11_countOf : MethodName := ⟨RX11, "countOf", "(II)I"⟩
abbrev cX11_laysAll : ByteArray := prog_13_method_45_code
def yX11_laysAll : MethodName := ⟨RX11, "laysAll", "(II)V"⟩
abbrev cX11_aligns : ByteArray := prog_13_method_46_code
def yX11_aligns : MethodName := ⟨RX11, "aligns", "(II)V"⟩
abbrev cX11_enters : ByteArray := prog_13_method_47_code
def yX11_enters : MethodName := ⟨RX11, "enters", "(II)V"⟩
abbrev cX11_goesIn : ByteArray := prog_13_method_48_code
def yX11_goesIn : MethodName := ⟨RX11, "goesIn", "()V"⟩
abbrev cX11_passes : ByteArray := prog_13_method_49_code
def yX11_passes : MethodName := ⟨RX11, "passes", "(III)I"⟩
abbrev cX11_laysOut : ByteArray := prog_13_method_50_code
def yX11_laysOut : MethodName := ⟨RX11, "laysOut", "(I)V"⟩
abbrev cX11_expectedOf : ByteArray := prog_13_method_51_code
def yX11_expectedOf : MethodName := ⟨RX11, "expectedOf", "(I)I"⟩
abbrev cX11_adds : ByteArray := prog_13_method_52_code
def yX11_adds : MethodName := ⟨RX11, "adds", "(III)I"⟩
abbrev cX11_isWrong : ByteArray := prog_13_method_53_code
def yX11_isWrong : MethodName := ⟨RX11, "isWrong", "(I)Z"⟩
abbrev cX11_wrongs : ByteArray := prog_13_method_54_code
def yX11_wrongs : MethodName := ⟨RX11, "wrongs", "()I"⟩
abbrev cX11_puts : ByteArray := prog_13_method_55_code
def yX11_puts : MethodName := ⟨RX11, "puts", "(IJ)V"⟩
abbrev cX11_rounds : ByteArray := prog_13_method_56_code
def yX11_rounds : MethodName := ⟨RX11, "rounds", "()Z"⟩
abbrev cX11_updates : ByteArray := prog_13_method_57_code
def yX11_updates : MethodName := ⟨RX11, "updates", "()I"⟩
abbrev cX11_copies : ByteArray := prog_13_method_58_code
def yX11_copies : MethodName := ⟨RX11, "copies", "([II[II)V"⟩
abbrev cX11_keeps : ByteArray := prog_13_method_59_code
def yX11_keeps : MethodName := ⟨RX11, "keeps", "()V"⟩
abbrev cX11_stays : ByteArray := prog_13_method_60_code
def yX11_stays : MethodName := ⟨RX11, "stays", "(Z)Z"⟩
abbrev cX11_length : ByteArray := prog_13_method_61_code
def yX11_length : MethodName := ⟨RX11, "length", "()I"⟩
abbrev cX11_byteAt : ByteArray := prog_13_method_62_code
def yX11_byteAt : MethodName := ⟨RX11, "byteAt", "(I)I"⟩
abbrev cX11_opens : ByteArray := prog_13_method_63_code
def yX11_opens : MethodName := ⟨RX11, "opens", "(II)V"⟩
abbrev cX11_insert : ByteArray := prog_13_method_64_code
def yX11_insert : MethodName := ⟨RX11, "insert", "(III)I"⟩
abbrev cX11_delete : ByteArray := prog_13_method_65_code
def yX11_delete : MethodName := ⟨RX11, "delete", "(II)I"⟩
abbrev cX11_overwrite : ByteArray := prog_13_method_66_code
def yX11_overwrite : MethodName := ⟨RX11, "overwrite", "(II)I"⟩
abbrev cX11_copy : ByteArray := prog_13_method_67_code
def yX11_copy : MethodName := ⟨RX11, "copy", "(II)I"⟩
abbrev cX11_paste : ByteArray := prog_13_method_68_code
def yX11_paste : MethodName := ⟨RX11, "paste", "(I)I"⟩
abbrev cX11_pasteOver : ByteArray := prog_13_method_69_code
def yX11_pasteOver : MethodName := ⟨RX11, "pasteOver", "(I)I"⟩
abbrev cX11_lay : ByteArray := prog_13_method_70_code
def yX11_lay : MethodName := ⟨RX11, "lay", "(III)I"⟩
abbrev cX11_remove : ByteArray := prog_13_method_71_code
def yX11_remove : MethodName := ⟨RX11, "remove", "(I)I"⟩
abbrev cX11_overlay : ByteArray := prog_13_method_72_code
def yX11_overlay : MethodName := ⟨RX11, "overlay", "(II)I"⟩
abbrev cX11_hasField : ByteArray := prog_13_method_73_code
def yX11_hasField : MethodName := ⟨RX11, "hasField", "(II)Z"⟩
abbrev cX11_partOf : ByteArray := prog_13_method_74_code
def yX11_partOf : MethodName := ⟨RX11, "partOf", "(II)I"⟩
abbrev cX11_field : ByteArray := prog_13_method_75_code
def yX11_field : MethodName := ⟨RX11, "field", "(III)I"⟩
abbrev cX11_value : ByteArray := prog_13_method_76_code
def yX11_value : MethodName := ⟨RX11, "value", "(II)J"⟩
abbrev cX11_path : ByteArray := prog_13_method_77_code
def yX11_path : MethodName := ⟨RX11, "path", "(III)I"⟩
abbrev cX11_fieldAt : ByteArray := prog_13_method_78_code
def yX11_fieldAt : MethodName := ⟨RX11, "fieldAt", "(II)I"⟩
abbrev cX11_counterpart : ByteArray := prog_13_method_79_code
def yX11_counterpart : MethodName := ⟨RX11, "counterpart", "(III)I"⟩
abbrev cX11_fits : ByteArray := prog_13_method_80_code
def yX11_fits : MethodName := ⟨RX11, "fits", "(IJ)Z"⟩
abbrev cX11_setField : ByteArray := prog_13_method_81_code
def yX11_setField : MethodName := ⟨RX11, "setField", "(IIJ)I"⟩
abbrev cX11_follow : ByteArray := prog_13_method_82_code
def yX11_follow : MethodName := ⟨RX11, "follow", "(Z)I"⟩
abbrev cX11_refresh : ByteArray := prog_13_method_83_code
def yX11_refresh : MethodName := ⟨RX11, "refresh", "()I"⟩
abbrev cX11_expected : ByteArray := prog_13_method_84_code
def yX11_expected : MethodName := ⟨RX11, "expected", "(II)I"⟩
abbrev cX11_repair : ByteArray := prog_13_method_85_code
def yX11_repair : MethodName := ⟨RX11, "repair", "(II)I"⟩
abbrev cX11_undo : ByteArray := prog_13_method_86_code
def yX11_undo : MethodName := ⟨RX11, "undo", "()I"⟩
abbrev cX11_redo : ByteArray := prog_13_method_87_code
def yX11_redo : MethodName := ⟨RX11, "redo", "()I"⟩
abbrev cX11_mark : ByteArray := prog_13_method_88_code
def yX11_mark : MethodName := ⟨RX11, "mark", "()I"⟩
abbrev cX11_difference : ByteArray := prog_13_method_89_code
def yX11_difference : MethodName := ⟨RX11, "difference", "(I)I"⟩
abbrev cX11_distance : ByteArray := prog_13_method_90_code
def yX11_distance : MethodName := ⟨RX11, "distance", "()I"⟩
abbrev cX11_present : ByteArray := prog_13_method_91_code
def yX11_present : MethodName := ⟨RX11, "present", "()I"⟩
abbrev cX11_allWrong : ByteArray := prog_13_method_92_code
def yX11_allWrong : MethodName := ⟨RX11, "allWrong", "()I"⟩
abbrev cX11_count : ByteArray := prog_13_method_93_code
def yX11_count : MethodName := ⟨RX11, "count", "(I)I"⟩
abbrev cX11_mixes : ByteArray := prog_13_method_94_code
def yX11_mixes : MethodName := ⟨RX11, "mixes", "(J)V"⟩
abbrev cX11_mixesOverlay : ByteArray := prog_13_method_95_code
def yX11_mixesOverlay : MethodName := ⟨RX11, "mixesOverlay", "(I)V"⟩
abbrev cX11_digest : ByteArray := prog_13_method_96_code
def yX11_digest : MethodName := ⟨RX11, "digest", "()J"⟩
def RJ9 : String := "java/lang/Math"
def TJ9 : u_T := fun k => match k with
  | _ => ("", "", "", false)
def tyJ9 : Nat → FieldType := fun k => match k with
  | _ => .int
abbrev cJ9_floorMod_7cf53 : ByteArray := prog_14_method_50_code
def yJ9_floorMod_7cf53 : MethodName := ⟨RJ9, "floorMod", "(II)I"⟩
abbrev cJ9_max_7cf53 : ByteArray := prog_14_method_65_code
def yJ9_max_7cf53 : MethodName := ⟨RJ9, "max", "(II)I"⟩
abbrev cJ9_max_f86c9 : ByteArray := prog_14_method_66_code
def yJ9_max_f86c9 : MethodName := ⟨RJ9, "max", "(JJ)J"⟩
abbrev cJ9_min_7cf53 : ByteArray := prog_14_method_69_code
def yJ9_min_7cf53 : MethodName := ⟨RJ9, "min", "(II)I"⟩
abbrev cJ9_min_f86c9 : ByteArray := prog_14_method_70_code
def yJ9_min_f86c9 : MethodName := ⟨RJ9, "min", "(JJ)J"⟩
def RJ10 : String := "java/lang/System"
def TJ10 : u_T := fun k => match k with
  | _ => ("", "", "", false)
def tyJ10 : Nat → FieldType := fun k => match k with
  | _ => .int
def RL : String := "StructureEditorLaw"
abbrev cL_law : ByteArray := code
def yL_law : MethodName := ⟨RL, "law", "([I)Z"⟩
/-- the cells in the order of their making: (sort, slots); sort 0 int[], 1 long[], 2 Document[], 3 Template[], 4 Item[], 5 Field[], 100 + c an object of class c -/
def zTL : List (Nat × Nat) := [(110, 12), (100, 2), (0, 120), (100, 2), (0, 32), (100, 2), (0, 200), (102, 3), (100, 2), (0, 200), (0, 4), (0, 4), (104, 4), (2, 13), (102, 3), (100, 2), (0, 200), (0, 4), (0, 4), (102, 3), (100, 2), (0, 200), (0, 4), (0, 4), (102, 3), (100, 2), (0, 200), (0, 4), (0, 4), (102, 3), (100, 2), (0, 200), (0, 4), (0, 4), (102, 3), (100, 2), (0, 200), (0, 4), (0, 4), (102, 3), (100, 2), (0, 200), (0, 4), (0, 4), (102, 3), (100, 2), (0, 200), (0, 4), (0, 4), (102, 3), (100, 2), (0, 200), (0, 4), (0, 4), (102, 3), (100, 2), (0, 200), (0, 4), (0, 4), (102, 3), (100, 2), (0, 200), (0, 4), (0, 4), (102, 3), (100, 2), (0, 200), (0, 4), (0, 4), (102, 3), (100, 2), (0, 200), (0, 4), (0, 4), (102, 3), (100, 2), (0, 200), (0, 4), (0, 4), (3, 4), (108, 2), (4, 24), (105, 13), (105, 13), (105, 13), (105, 13), (105, 13), (105, 13), (105, 13), (105, 13), (105, 13), (105, 13), (105, 13), (105, 13), (105, 13), (105, 13), (105, 13), (105, 13), (105, 13), (105, 13), (105, 13), (105, 13), (105, 13), (105, 13), (105, 13), (105, 13), (108, 2), (4, 24), (105, 13), (105, 13), (105, 13), (105, 13), (105, 13), (105, 13), (105, 13), (105, 13), (105, 13), (105, 13), (105, 13), (105, 13), (105, 13), (105, 13), (105, 13), (105, 13), (105, 13), (105, 13), (105, 13), (105, 13), (105, 13), (105, 13), (105, 13), (105, 13), (108, 2), (4, 24), (105, 13), (105, 13), (105, 13), (105, 13), (105, 13), (105, 13), (105, 13), (105, 13), (105, 13), (105, 13), (105, 13), (105, 13), (105, 13), (105, 13), (105, 13), (105, 13), (105, 13), (105, 13), (105, 13), (105, 13), (105, 13), (105, 13), (105, 13), (105, 13), (108, 2), (4, 24), (105, 13), (105, 13), (105, 13), (105, 13), (105, 13), (105, 13), (105, 13), (105, 13), (105, 13), (105, 13), (105, 13), (105, 13), (105, 13), (105, 13), (105, 13), (105, 13), (105, 13), (105, 13), (105, 13), (105, 13), (105, 13), (105, 13), (105, 13), (105, 13), (108, 2), (4, 24), (105, 13), (105, 13), (105, 13), (105, 13), (105, 13), (105, 13), (105, 13), (105, 13), (105, 13), (105, 13), (105, 13), (105, 13), (105, 13), (105, 13), (105, 13), (105, 13), (105, 13), (105, 13), (105, 13), (105, 13), (105, 13), (105, 13), (105, 13), (105, 13), (109, 5), (107, 3), (0, 16), (0, 16), (106, 14), (5, 60), (103, 8), (0, 4), (103, 8), (0, 4), (103, 8), (0, 4), (103, 8), (0, 4), (103, 8), (0, 4), (103, 8), (0, 4), (103, 8), (0, 4), (103, 8), (0, 4), (103, 8), (0, 4), (103, 8), (0, 4), (103, 8), (0, 4), (103, 8), (0, 4), (103, 8), (0, 4), (103, 8), (0, 4), (103, 8), (0, 4), (103, 8), (0, 4), (103, 8), (0, 4), (103, 8), (0, 4), (103, 8), (0, 4), (103, 8), (0, 4), (103, 8), (0, 4), (103, 8), (0, 4), (103, 8), (0, 4), (103, 8), (0, 4), (103, 8), (0, 4), (103, 8), (0, 4), (103, 8), (0, 4), (103, 8), (0, 4), (103, 8), (0, 4), (103, 8), (0, 4), (103, 8), (0, 4), (103, 8), (0, 4), (103, 8), (0, 4), (103, 8), (0, 4), (103, 8), (0, 4), (103, 8), (0, 4), (103, 8), (0, 4), (103, 8), (0, 4), (103, 8), (0, 4), (103, 8), (0, 4), (103, 8), (0, 4), (103, 8), (0, 4), (103, 8), (0, 4), (103, 8), (0, 4), (103, 8), (0, 4), (103, 8), (0, 4), (103, 8), (0, 4), (103, 8), (0, 4), (103, 8), (0, 4), (103, 8), (0, 4), (103, 8), (0, 4), (103, 8), (0, 4), (103, 8), (0, 4), (103, 8), (0, 4), (103, 8), (0, 4), (103, 8), (0, 4), (103, 8), (0, 4), (103, 8), (0, 4), (103, 8), (0, 4), (103, 8), (0, 4), (0, 4), (1, 24), (0, 24), (0, 24), (0, 4), (0, 201), (111, 45), (0, 213), (0, 2556), (0, 2556), (0, 213), (0, 32), (0, 200), (0, 120), (0, 1680), (0, 5), (0, 32), (0, 60), (0, 60), (0, 60), (0, 60), (0, 60), (0, 60), (0, 60), (0, 240), (1, 24), (0, 24), (0, 24), (0, 4), (0, 4), (0, 4), (0, 4), (0, 201)]
def zTAU (a : Nat) : Nat × Nat := match a with
  | 0 => (99, 0)
  | k + 1 => zTL.getD k (99, 0)
def zcl : List vw_C := [(RX0, TX0, 2), (RX1, TX1, 0), (RX2, TX2, 3), (RX3, TX3, 8), (RX4, TX4, 4), (RX5, TX5, 13), (RX6, TX6, 14), (RX7, TX7, 3), (RX8, TX8, 2), (RX9, TX9, 5), (RX10, TX10, 12), (RX11, TX11, 45)]
def zty (c : Nat) : Nat → FieldType := match c with
  | 0 => tyX0
  | 1 => tyX1
  | 2 => tyX2
  | 3 => tyX3
  | 4 => tyX4
  | 5 => tyX5
  | 6 => tyX6
  | 7 => tyX7
  | 8 => tyX8
  | 9 => tyX9
  | 10 => tyX10
  | 11 => tyX11
  | _ => fun _ => .int
def zN (c : Nat) : Nat := match c with
  | 0 => 2
  | 1 => 0
  | 2 => 3
  | 3 => 8
  | 4 => 4
  | 5 => 13
  | 6 => 14
  | 7 => 3
  | 8 => 2
  | 9 => 5
  | 10 => 12
  | 11 => 45
  | _ => 0
end
section
/-! The small machine: ints and longs are whole numbers in their range, cells are numbered from 1 on, a heap is three tables (ints, longs, references; 0 is null). -/
/-- the tables' words that hold at every later state of the tables -/
def zgw : List Cond := lw_tbl.filter goodWord
theorem zgw_of {w : Cond} (i : Nat) (h : lw_tbl[i]? = some w) (hg : goodWord w = true) : w ∈ zgw := List.mem_filter.mpr ⟨List.mem_of_getElem? h, hg⟩
theorem zgw_good : GoodIn zgw zgw := fun w hw => ⟨hw, good_of_word (List.mem_filter.mp hw).2⟩
abbrev zHp : Type := (Nat → Nat → Int) × (Nat → Nat → Int) × (Nat → Nat → Nat)
abbrev zG : Type := Launch × Nat × va_G × (Nat → ClassId)
abbrev zM : Type := MethodName × ByteArray × Nat × Option FieldType
abbrev zV : Type := Int ⊕ Int ⊕ Nat
abbrev vI (z : Int) : zV := .inl z
abbrev vL (z : Int) : zV := .inr (.inl z)
abbrev vR (a : Nat) : zV := .inr (.inr a)
def zII (z : Int) : Prop := -2147483648 ≤ z ∧ z ≤ 2147483647
def zIL (z : Int) : Prop := -9223372036854775808 ≤ z ∧ z ≤ 9223372036854775807
def zv (B : Nat) : zV → Value
  | .inl z => .int (Int32.ofInt z)
  | .inr (.inl z) => .long (Int64.ofInt z)
  | .inr (.inr a) => .ref (B + a)
def zok : zV → Prop
  | .inl z => zII z
  | .inr (.inl z) => zIL z
  | .inr (.inr _) => True
def zcat : zV → Nat
  | .inr (.inl _) => 2
  | _ => 1
theorem zcat_v (B : Nat) (v : zV) : (zv B v).category = zcat v := by
  rcases v with z | z | a <;> rfl
def zrO (B r : Nat) : Option Nat := if r = 0 then none else some (B + r)
def zfv (B : Nat) (h : zHp) (a : Nat) (t : FieldType) (j : Nat) : Value := match t with
  | .long => .long (Int64.ofInt (h.2.1 a j))
  | .object _ => va_rf (zrO B (h.2.2 a j))
  | .array _ => va_rf (zrO B (h.2.2 a j))
  | _ => .int (Int32.ofInt (h.1 a j))
def zfl (B : Nat) (h : zHp) (a c : Nat) : List Value := (List.range (zN c)).map (fun j => zfv B h a (zty c j) j)
def zent (G : zG) (h : zHp) (a : Nat) (t : Nat × Nat) : va_E :=
  if t.1 = 0 then .inl (G.2.2.2 0, t.2, .inl (fun j => Int32.ofInt (h.1 a j)))
  else if t.1 = 1 then .inl (G.2.2.2 1, t.2, .inr (.inl (fun j => Int64.ofInt (h.2.1 a j))))
  else if t.1 < 100 then .inl (G.2.2.2 t.1, t.2, .inr (.inr (.inr (.inr (fun j => zrO G.2.1 (h.2.2 a j))))))
  else .inr (t.1 - 100, zfl G.2.1 h a (t.1 - 100))
def zl (G : zG) (n : Nat) (h : zHp) : va_W := (List.range n).map (fun k => (G.2.1 + (k + 1), zent G h (k + 1) (zTAU (k + 1))))
def zT (n a : Nat) : Nat × Nat := if 1 ≤ a ∧ a ≤ n then zTAU a else (99, 0)
def zSL : Nat → Nat
  | 0 => 0
  | n + 1 => zSL n + (zTAU (n + 1)).2
theorem zSL_le {a b : Nat} (h : a ≤ b) : zSL a ≤ zSL b := by
  induction b with
  | zero => rw [show a = 0 by omega]; exact Nat.le_refl _
  | succ b ih =>
    by_cases e : a = b + 1
    · subst e; exact Nat.le_refl _
    · exact Nat.le_trans (ih (by omega)) (Nat.le_add_right _ _)
theorem zT_in {n a c : Nat} (h : (zT n a).1 = c) (hc : c ≠ 99) : 1 ≤ a ∧ a ≤ n ∧ zT n a = zTAU a := by
  unfold zT at h ⊢
  split at h
  · rename_i q; exact ⟨q.1, q.2, by rw [if_pos q]⟩
  · exact absurd h.symm hc
theorem zl_get {G : zG} {n a : Nat} {h : zHp} (h1 : 1 ≤ a) (h2 : a ≤ n) : (zl G n h)[a - 1]? = some (G.2.1 + a, zent G h a (zTAU a)) := by
  obtain ⟨k, rfl⟩ : ∃ k, a = k + 1 := ⟨a - 1, by omega⟩
  rw [zl, List.getElem?_map, List.getElem?_range (by omega)]
  rfl
theorem zl_lt {G : zG} {n k : Nat} {h : zHp} {q : Nat × va_E} (hq : (zl G n h)[k]? = some q) : k < n ∧ q = (G.2.1 + (k + 1), zent G h (k + 1) (zTAU (k + 1))) := by
  rw [zl, List.getElem?_map] at hq
  by_cases hk : k < n
  · rw [List.getElem?_range hk] at hq
    exact ⟨hk, (Option.some.inj hq).symm⟩
  · rw [List.getElem?_eq_none (by simp; omega)] at hq
    cases hq
def zA (G : zG) : Nat → Prop := fun q => G.2.1 < q
theorem zD (G : zG) (n : Nat) (h : zHp) : va_D (zA G) (zl G n h) := by
  refine ⟨fun i j p q hp hq e => ?_, fun k q hq => ?_⟩
  · obtain ⟨-, rfl⟩ := zl_lt hp
    obtain ⟨-, rfl⟩ := zl_lt hq
    simp only at e
    omega
  · obtain ⟨-, rfl⟩ := zl_lt hq
    show G.2.1 < G.2.1 + (k + 1)
    omega
theorem zl_set {G : zG} {n a : Nat} {h h' : zHp} (h1 : 1 ≤ a) (h2 : a ≤ n) (ho : ∀ b, b ≠ a → zent G h' b (zTAU b) = zent G h b (zTAU b)) :
    (zl G n h).set (a - 1) (G.2.1 + a, zent G h' a (zTAU a)) = zl G n h' := by
  apply List.ext_getElem?
  intro k
  obtain ⟨j, rfl⟩ : ∃ j, a = j + 1 := ⟨a - 1, by omega⟩
  rw [List.getElem?_set]
  by_cases hk : j + 1 - 1 = k
  · rw [if_pos hk]
    have hk' : k = j := by omega
    subst hk'
    have hl : (zl G n h).length = n := by simp [zl]
    rw [if_pos (by rw [hl]; omega)]
    exact (zl_get (a := k + 1) (by omega) h2).symm
  · rw [if_neg hk]
    by_cases hn : k < n
    · have e1 := zl_get (G := G) (n := n) (h := h) (a := k + 1) (by omega) (by omega)
      have e2 := zl_get (G := G) (n := n) (h := h') (a := k + 1) (by omega) (by omega)
      rw [show k + 1 - 1 = k by omega] at e1 e2
      rw [e1, e2, ho (k + 1) (by omega)]
    · rw [List.getElem?_eq_none (by simp [zl]; omega), List.getElem?_eq_none (by simp [zl]; omega)]
theorem zl_push {G : zG} {n : Nat} {h : zHp} : zl G (n + 1) h = zl G n h ++ [(G.2.1 + (n + 1), zent G h (n + 1) (zTAU (n + 1)))] := by
  simp [zl, List.range_succ]
def zZ (n : Nat) (h : zHp) : Prop := ∀ a, n < a → ∀ i, h.1 a i = 0 ∧ h.2.1 a i = 0 ∧ h.2.2 a i = 0
def zRg (h : zHp) : Prop := ∀ a i, zII (h.1 a i) ∧ zIL (h.2.1 a i)
def ztys (G : zG) : List (ClassId × FieldType) := [(G.2.2.2 0, .int), (G.2.2.2 1, .long), (G.2.2.2 2, .object RX2), (G.2.2.2 3, .object RX8), (G.2.2.2 4, .object RX5), (G.2.2.2 5, .object RX3)]
def zHe (G : zG) (n : Nat) (h : zHp) (H : Heap) : Prop := va_P G.2.2.1 zcl (zl G n h) H ∧ H.size = G.2.1 + n + 1 ∧ zZ n h ∧ zRg h
def zH (G : zG) (n0 n : Nat) (h : zHp) (s : State) (H : Heap) (locs : List Loc) : Prop := zHe G n h H ∧ va_S (zA G) s.heap H locs ∧ s.heap.size = G.2.1 + n0 + 1
/-- what the tables say of the classes, of arrays of references, and of the private constructor that a nest mate calls -/
def zKx (G : zG) (s : State) : Prop := va_K G.2.2.1 zcl (ztys G) s ∧ (va_AO RX2 s ∧ va_AO RX8 s ∧ va_AO RX5 s ∧ va_AO RX3 s) ∧ va_Nw (.methodLinkNest RX8 15 yX5_init RX10) s
def zX (G : zG) (X : Array Value → State → Prop) (M : zM) (p : Program) (s : State) (m : MethodId) (args : Array Value) (meth : Method) (c : Code) : Prop :=
  p.tables.exec = Jvm.exec ∧ c.code = M.2.1 ∧ meth.sig.returnType = M.2.2.2 ∧ meth.locks = false ∧ c.maxLocals = M.2.2.1 ∧ s.vm.findClass M.1.cls = some m.cls ∧ (∀ w ∈ zgw, w.before args s = true) ∧ meth.name = M.1.name ∧ zKx G s ∧ X args s
abbrev zLs : Type := List (Nat × zV)
def zlm (B : Nat) (ls : zLs) : List (Nat × Value) := ls.map (fun q => (q.1, zv B q.2))
/-- the machine at an instruction of method M: from every real state that holds this picture it comes to an end that Z allows -/
def wq (G : zG) (R : Room) (Z : List Frame → Array Value → State → State → Prop) (X : Array Value → State → Prop) (M : zM) (n0 n pc : Nat) (ls : zLs) (st : List zV) (h : zHp) : Prop :=
  ∀ (p : Program) (e : Env) (s : State) (m : MethodId) (args : Array Value) (below : List Frame) (meth : Method) (c : Code) (H : Heap) (locs : List Loc) (lr : Array Slot),
    zX G X M p s m args meth c → zH G n0 n h s H locs → lv_has lr M.2.2.1 (zlm G.2.1 ls) → n0 ≤ n → (∀ q ∈ ls, zok q.2) → (∀ v ∈ st, zok v) →
    W p G.1 e R s m args below meth c H locs (n - n0) (zSL n - zSL n0) (Z below args s) (F0 m pc lr (st.map (zv G.2.1)))
def zRm (d n0 nE : Nat) : Room := { frames := d, cells := nE - n0, slots := zSL nE - zSL n0, locals := 100 * d }
def zQc (G : zG) (nE : Nat) (Q : Option zV → zHp → Prop) : Array Value → State → Outcome → State → Prop := fun _ st o t =>
  ∃ (v : Option zV) (h' : zHp), o = .returned (v.map (zv G.2.1)) ∧ Q v h' ∧ (∀ x ∈ v.toList, zok x) ∧ zHe G nE h' t.heap ∧ va_F (zA G) st t
def zFin (G : zG) (n0 nE : Nat) (Q : Option zV → zHp → Prop) : List Frame → Array Value → State → State → Prop := fun below args s =>
  MQ below (zQc G nE Q) args s (nE - n0) (zSL nE - zSL n0) (zA G)
abbrev wp (G : zG) (d n0 nE : Nat) (M : zM) (n pc : Nat) (ls : zLs) (st : List zV) (h : zHp) (Q : Option zV → zHp → Prop) : Prop :=
  wq G (zRm d n0 nE) (zFin G n0 nE Q) (fun _ _ => True) M n0 n pc ls st h
/-- a class's words are in the tables, and its types -/
def zCl (c : Nat) (C : String) (T : u_T) : Prop := zcl[c]? = some (C, T, zN c) ∧ (∀ w ∈ u_ws C T (zN c), w ∈ zgw) ∧ (∀ k, k < zN c → parseFieldDescriptor (T k).2.2.1 = some (zty c k)) ∧ (∀ a, a < zN c → ∀ b, b < zN c → a ≠ b → (T a).2.1 ≠ (T b).2.1)
/-- a field's entry of a class's constants -/
def zFd (own : String) (idx c j : Nat) (C : String) (T : u_T) : Prop := zCl c C T ∧ j < zN c ∧ Cond.fieldLink own idx (T j).1 (T j).2.1 (T j).2.2.1 ∈ zgw
/-- what a method's own words say -/
def zMd (M' : zM) (k : Nat) : Prop := plainFor M'.1 = true ∧ Cond.code M'.1 M'.2.1 M'.2.2.1 M'.2.2.2 ∈ zgw ∧ Cond.initialized M'.1.cls ∈ zgw ∧ (M'.1.cls ≠ "java/lang/invoke/MethodHandle" ∧ M'.1.cls ≠ "java/lang/invoke/VarHandle") ∧ (parseMethodDescriptor M'.1.desc).map (fun d => d.parameters.length) = some k ∧ M'.2.2.1 ≤ 80
/-- the types that a class's fields have -/
def zTyb : FieldType → Bool
  | .int | .boolean | .long | .object _ | .array _ => true
  | _ => false
end
section
theorem lay_0 : ∀ k, k < zN 0 → u_lay RX0 TX0 k ∈ zgw := fun k hk => match k, hk with
  | 0, _ => zgw_of 132 (by decide +kernel) rfl
  | 1, _ => zgw_of 134 (by decide +kernel) rfl
  | k + 2, hk => absurd hk (by show ¬ k + 2 < 2; omega)
theorem cl_0 : zCl 0 RX0 TX0 := ⟨rfl, fun w hw => by obtain ⟨k, hk, rfl⟩ := List.mem_map.mp hw; exact lay_0 k (List.mem_range.mp hk), tyX0_ok, nmX0⟩
theorem tb_0 : ∀ j, j < zN 0 → zTyb (zty 0 j) = true := by decide +kernel
theorem lay_2 : ∀ k, k < zN 2 → u_lay RX2 TX2 k ∈ zgw := fun k hk => match k, hk with
  | 0, _ => zgw_of 152 (by decide +kernel) rfl
  | 1, _ => zgw_of 154 (by decide +kernel) rfl
  | 2, _ => zgw_of 156 (by decide +kernel) rfl
  | k + 3, hk => absurd hk (by show ¬ k + 3 < 3; omega)
theorem cl_2 : zCl 2 RX2 TX2 := ⟨rfl, fun w hw => by obtain ⟨k, hk, rfl⟩ := List.mem_map.mp hw; exact lay_2 k (List.mem_range.mp hk), tyX2_ok, nmX2⟩
theorem tb_2 : ∀ j, j < zN 2 → zTyb (zty 2 j) = true := by decide +kernel
theorem lay_3 : ∀ k, k < zN 3 → u_lay RX3 TX3 k ∈ zgw := fun k hk => match k, hk with
  | 0, _ => zgw_of 350 (by decide +kernel) rfl
  | 1, _ => zgw_of 352 (by decide +kernel) rfl
  | 2, _ => zgw_of 354 (by decide +kernel) rfl
  | 3, _ => zgw_of 356 (by decide +kernel) rfl
  | 4, _ => zgw_of 358 (by decide +kernel) rfl
  | 5, _ => zgw_of 360 (by decide +kernel) rfl
  | 6, _ => zgw_of 362 (by decide +kernel) rfl
  | 7, _ => zgw_of 364 (by decide +kernel) rfl
  | k + 8, hk => absurd hk (by show ¬ k + 8 < 8; omega)
theorem cl_3 : zCl 3 RX3 TX3 := ⟨rfl, fun w hw => by obtain ⟨k, hk, rfl⟩ := List.mem_map.mp hw; exact lay_3 k (List.mem_range.mp hk), tyX3_ok, nmX3⟩
theorem tb_3 : ∀ j, j < zN 3 → zTyb (zty 3 j) = true := by decide +kernel
theorem lay_4 : ∀ k, k < zN 4 → u_lay RX4 TX4 k ∈ zgw := fun k hk => match k, hk with
  | 0, _ => zgw_of 174 (by decide +kernel) rfl
  | 1, _ => zgw_of 176 (by decide +kernel) rfl
  | 2, _ => zgw_of 178 (by decide +kernel) rfl
  | 3, _ => zgw_of 180 (by decide +kernel) rfl
  | k + 4, hk => absurd hk (by show ¬ k + 4 < 4; omega)
theorem cl_4 : zCl 4 RX4 TX4 := ⟨rfl, fun w hw => by obtain ⟨k, hk, rfl⟩ := List.mem_map.mp hw; exact lay_4 k (List.mem_range.mp hk), tyX4_ok, nmX4⟩
theorem tb_4 : ∀ j, j < zN 4 → zTyb (zty 4 j) = true := by decide +kernel
theorem lay_5 : ∀ k, k < zN 5 → u_lay RX5 TX5 k ∈ zgw := fun k hk => match k, hk with
  | 0, _ => zgw_of 236 (by decide +kernel) rfl
  | 1, _ => zgw_of 238 (by decide +kernel) rfl
  | 2, _ => zgw_of 240 (by decide +kernel) rfl
  | 3, _ => zgw_of 242 (by decide +kernel) rfl
  | 4, _ => zgw_of 244 (by decide +kernel) rfl
  | 5, _ => zgw_of 246 (by decide +kernel) rfl
  | 6, _ => zgw_of 248 (by decide +kernel) rfl
  | 7, _ => zgw_of 250 (by decide +kernel) rfl
  | 8, _ => zgw_of 252 (by decide +kernel) rfl
  | 9, _ => zgw_of 254 (by decide +kernel) rfl
  | 10, _ => zgw_of 256 (by decide +kernel) rfl
  | 11, _ => zgw_of 258 (by decide +kernel) rfl
  | 12, _ => zgw_of 260 (by decide +kernel) rfl
  | k + 13, hk => absurd hk (by show ¬ k + 13 < 13; omega)
theorem cl_5 : zCl 5 RX5 TX5 := ⟨rfl, fun w hw => by obtain ⟨k, hk, rfl⟩ := List.mem_map.mp hw; exact lay_5 k (List.mem_range.mp hk), tyX5_ok, nmX5⟩
theorem tb_5 : ∀ j, j < zN 5 → zTyb (zty 5 j) = true := by decide +kernel
theorem lay_6 : ∀ k, k < zN 6 → u_lay RX6 TX6 k ∈ zgw := fun k hk => match k, hk with
  | 0, _ => zgw_of 385 (by decide +kernel) rfl
  | 1, _ => zgw_of 387 (by decide +kernel) rfl
  | 2, _ => zgw_of 389 (by decide +kernel) rfl
  | 3, _ => zgw_of 391 (by decide +kernel) rfl
  | 4, _ => zgw_of 393 (by decide +kernel) rfl
  | 5, _ => zgw_of 395 (by decide +kernel) rfl
  | 6, _ => zgw_of 397 (by decide +kernel) rfl
  | 7, _ => zgw_of 399 (by decide +kernel) rfl
  | 8, _ => zgw_of 401 (by decide +kernel) rfl
  | 9, _ => zgw_of 403 (by decide +kernel) rfl
  | 10, _ => zgw_of 405 (by decide +kernel) rfl
  | 11, _ => zgw_of 407 (by decide +kernel) rfl
  | 12, _ => zgw_of 409 (by decide +kernel) rfl
  | 13, _ => zgw_of 411 (by decide +kernel) rfl
  | k + 14, hk => absurd hk (by show ¬ k + 14 < 14; omega)
theorem cl_6 : zCl 6 RX6 TX6 := ⟨rfl, fun w hw => by obtain ⟨k, hk, rfl⟩ := List.mem_map.mp hw; exact lay_6 k (List.mem_range.mp hk), tyX6_ok, nmX6⟩
theorem tb_6 : ∀ j, j < zN 6 → zTyb (zty 6 j) = true := by decide +kernel
theorem lay_7 : ∀ k, k < zN 7 → u_lay RX7 TX7 k ∈ zgw := fun k hk => match k, hk with
  | 0, _ => zgw_of 306 (by decide +kernel) rfl
  | 1, _ => zgw_of 308 (by decide +kernel) rfl
  | 2, _ => zgw_of 310 (by decide +kernel) rfl
  | k + 3, hk => absurd hk (by show ¬ k + 3 < 3; omega)
theorem cl_7 : zCl 7 RX7 TX7 := ⟨rfl, fun w hw => by obtain ⟨k, hk, rfl⟩ := List.mem_map.mp hw; exact lay_7 k (List.mem_range.mp hk), tyX7_ok, nmX7⟩
theorem tb_7 : ∀ j, j < zN 7 → zTyb (zty 7 j) = true := by decide +kernel
theorem lay_8 : ∀ k, k < zN 8 → u_lay RX8 TX8 k ∈ zgw := fun k hk => match k, hk with
  | 0, _ => zgw_of 270 (by decide +kernel) rfl
  | 1, _ => zgw_of 272 (by decide +kernel) rfl
  | k + 2, hk => absurd hk (by show ¬ k + 2 < 2; omega)
theorem cl_8 : zCl 8 RX8 TX8 := ⟨rfl, fun w hw => by obtain ⟨k, hk, rfl⟩ := List.mem_map.mp hw; exact lay_8 k (List.mem_range.mp hk), tyX8_ok, nmX8⟩
theorem tb_8 : ∀ j, j < zN 8 → zTyb (zty 8 j) = true := by decide +kernel
theorem lay_9 : ∀ k, k < zN 9 → u_lay RX9 TX9 k ∈ zgw := fun k hk => match k, hk with
  | 0, _ => zgw_of 286 (by decide +kernel) rfl
  | 1, _ => zgw_of 288 (by decide +kernel) rfl
  | 2, _ => zgw_of 290 (by decide +kernel) rfl
  | 3, _ => zgw_of 292 (by decide +kernel) rfl
  | 4, _ => zgw_of 294 (by decide +kernel) rfl
  | k + 5, hk => absurd hk (by show ¬ k + 5 < 5; omega)
theorem cl_9 : zCl 9 RX9 TX9 := ⟨rfl, fun w hw => by obtain ⟨k, hk, rfl⟩ := List.mem_map.mp hw; exact lay_9 k (List.mem_range.mp hk), tyX9_ok, nmX9⟩
theorem tb_9 : ∀ j, j < zN 9 → zTyb (zty 9 j) = true := by decide +kernel
theorem lay_10 : ∀ k, k < zN 10 → u_lay RX10 TX10 k ∈ zgw := fun k hk => match k, hk with
  | 0, _ => zgw_of 427 (by decide +kernel) rfl
  | 1, _ => zgw_of 429 (by decide +kernel) rfl
  | 2, _ => zgw_of 431 (by decide +kernel) rfl
  | 3, _ => zgw_of 433 (by decide +kernel) rfl
  | 4, _ => zgw_of 435 (by decide +kernel) rfl
  | 5, _ => zgw_of 437 (by decide +kernel) rfl
  | 6, _ => zgw_of 439 (by decide +kernel) rfl
  | 7, _ => zgw_of 441 (by decide +kernel) rfl
  | 8, _ => zgw_of 443 (by decide +kernel) rfl
  | 9, _ => zgw_of 445 (by decide +kernel) rfl
  | 10, _ => zgw_of 447 (by decide +kernel) rfl
  | 11, _ => zgw_of 449 (by decide +kernel) rfl
  | k + 12, hk => absurd hk (by show ¬ k + 12 < 12; omega)
theorem cl_10 : zCl 10 RX10 TX10 := ⟨rfl, fun w hw => by obtain ⟨k, hk, rfl⟩ := List.mem_map.mp hw; exact lay_10 k (List.mem_range.mp hk), tyX10_ok, nmX10⟩
theorem tb_10 : ∀ j, j < zN 10 → zTyb (zty 10 j) = true := by decide +kernel
theorem lay_11 : ∀ k, k < zN 11 → u_lay RX11 TX11 k ∈ zgw := fun k hk => match k, hk with
  | 0, _ => zgw_of 1035 (by decide +kernel) rfl
  | 1, _ => zgw_of 1037 (by decide +kernel) rfl
  | 2, _ => zgw_of 1039 (by decide +kernel) rfl
  | 3, _ => zgw_of 1041 (by decide +kernel) rfl
  | 4, _ => zgw_of 1043 (by decide +kernel) rfl
  | 5, _ => zgw_of 1045 (by decide +kernel) rfl
  | 6, _ => zgw_of 1047 (by decide +kernel) rfl
  | 7, _ => zgw_of 1049 (by decide +kernel) rfl
  | 8, _ => zgw_of 1051 (by decide +kernel) rfl
  | 9, _ => zgw_of 1053 (by decide +kernel) rfl
  | 10, _ => zgw_of 1055 (by decide +kernel) rfl
  | 11, _ => zgw_of 1057 (by decide +kernel) rfl
  | 12, _ => zgw_of 1059 (by decide +kernel) rfl
  | 13, _ => zgw_of 1061 (by decide +kernel) rfl
  | 14, _ => zgw_of 1063 (by decide +kernel) rfl
  | 15, _ => zgw_of 1065 (by decide +kernel) rfl
  | 16, _ => zgw_of 1067 (by decide +kernel) rfl
  | 17, _ => zgw_of 1069 (by decide +kernel) rfl
  | 18, _ => zgw_of 1071 (by decide +kernel) rfl
  | 19, _ => zgw_of 1073 (by decide +kernel) rfl
  | 20, _ => zgw_of 1075 (by decide +kernel) rfl
  | 21, _ => zgw_of 1077 (by decide +kernel) rfl
  | 22, _ => zgw_of 1079 (by decide +kernel) rfl
  | 23, _ => zgw_of 1081 (by decide +kernel) rfl
  | 24, _ => zgw_of 1083 (by decide +kernel) rfl
  | 25, _ => zgw_of 1085 (by decide +kernel) rfl
  | 26, _ => zgw_of 1087 (by decide +kernel) rfl
  | 27, _ => zgw_of 1089 (by decide +kernel) rfl
  | 28, _ => zgw_of 1091 (by decide +kernel) rfl
  | 29, _ => zgw_of 1093 (by decide +kernel) rfl
  | 30, _ => zgw_of 1095 (by decide +kernel) rfl
  | 31, _ => zgw_of 1097 (by decide +kernel) rfl
  | 32, _ => zgw_of 1099 (by decide +kernel) rfl
  | 33, _ => zgw_of 1101 (by decide +kernel) rfl
  | 34, _ => zgw_of 1103 (by decide +kernel) rfl
  | 35, _ => zgw_of 1105 (by decide +kernel) rfl
  | 36, _ => zgw_of 1107 (by decide +kernel) rfl
  | 37, _ => zgw_of 1109 (by decide +kernel) rfl
  | 38, _ => zgw_of 1111 (by decide +kernel) rfl
  | 39, _ => zgw_of 1113 (by decide +kernel) rfl
  | 40, _ => zgw_of 1115 (by decide +kernel) rfl
  | 41, _ => zgw_of 1117 (by decide +kernel) rfl
  | 42, _ => zgw_of 1119 (by decide +kernel) rfl
  | 43, _ => zgw_of 1121 (by decide +kernel) rfl
  | 44, _ => zgw_of 1123 (by decide +kernel) rfl
  | k + 45, hk => absurd hk (by show ¬ k + 45 < 45; omega)
theorem cl_11 : zCl 11 RX11 TX11 := ⟨rfl, fun w hw => by obtain ⟨k, hk, rfl⟩ := List.mem_map.mp hw; exact lay_11 k (List.mem_range.mp hk), tyX11_ok, nmX11⟩
theorem tb_11 : ∀ j, j < zN 11 → zTyb (zty 11 j) = true := by decide +kernel
theorem fk_X0_15 : zFd RX0 15 0 0 RX0 TX0 := ⟨cl_0, by decide, (zgw_of 124 (by decide +kernel) rfl)⟩
theorem fk_X9_55 : zFd RX9 55 0 0 RX0 TX0 := ⟨cl_0, by decide, (zgw_of 125 (by decide +kernel) rfl)⟩
theorem fk_X0_21 : zFd RX0 21 0 1 RX0 TX0 := ⟨cl_0, by decide, (zgw_of 126 (by decide +kernel) rfl)⟩
theorem fk_X7_22 : zFd RX7 22 0 1 RX0 TX0 := ⟨cl_0, by decide, (zgw_of 127 (by decide +kernel) rfl)⟩
theorem fk_X10_95 : zFd RX10 95 0 1 RX0 TX0 := ⟨cl_0, by decide, (zgw_of 128 (by decide +kernel) rfl)⟩
theorem fk_X9_52 : zFd RX9 52 0 1 RX0 TX0 := ⟨cl_0, by decide, (zgw_of 129 (by decide +kernel) rfl)⟩
theorem fk_X2_31 : zFd RX2 31 0 1 RX0 TX0 := ⟨cl_0, by decide, (zgw_of 130 (by decide +kernel) rfl)⟩
theorem fk_X6_145 : zFd RX6 145 0 1 RX0 TX0 := ⟨cl_0, by decide, (zgw_of 131 (by decide +kernel) rfl)⟩
theorem fk_X2_14 : zFd RX2 14 2 0 RX2 TX2 := ⟨cl_2, by decide, (zgw_of 146 (by decide +kernel) rfl)⟩
theorem fk_X10_69 : zFd RX10 69 2 0 RX2 TX2 := ⟨cl_2, by decide, (zgw_of 147 (by decide +kernel) rfl)⟩
theorem fk_X2_20 : zFd RX2 20 2 1 RX2 TX2 := ⟨cl_2, by decide, (zgw_of 148 (by decide +kernel) rfl)⟩
theorem fk_X10_154 : zFd RX10 154 2 1 RX2 TX2 := ⟨cl_2, by decide, (zgw_of 149 (by decide +kernel) rfl)⟩
theorem fk_X2_24 : zFd RX2 24 2 2 RX2 TX2 := ⟨cl_2, by decide, (zgw_of 150 (by decide +kernel) rfl)⟩
theorem fk_X10_157 : zFd RX10 157 2 2 RX2 TX2 := ⟨cl_2, by decide, (zgw_of 151 (by decide +kernel) rfl)⟩
theorem fk_X4_7 : zFd RX4 7 4 0 RX4 TX4 := ⟨cl_4, by decide, (zgw_of 168 (by decide +kernel) rfl)⟩
theorem fk_X4_15 : zFd RX4 15 4 1 RX4 TX4 := ⟨cl_4, by decide, (zgw_of 169 (by decide +kernel) rfl)⟩
theorem fk_X4_20 : zFd RX4 20 4 2 RX4 TX4 := ⟨cl_4, by decide, (zgw_of 170 (by decide +kernel) rfl)⟩
theorem fk_X10_239 : zFd RX10 239 4 2 RX4 TX4 := ⟨cl_4, by decide, (zgw_of 171 (by decide +kernel) rfl)⟩
theorem fk_X4_24 : zFd RX4 24 4 3 RX4 TX4 := ⟨cl_4, by decide, (zgw_of 172 (by decide +kernel) rfl)⟩
theorem fk_X10_245 : zFd RX10 245 4 3 RX4 TX4 := ⟨cl_4, by decide, (zgw_of 173 (by decide +kernel) rfl)⟩
theorem fk_X5_9 : zFd RX5 9 5 0 RX5 TX5 := ⟨cl_5, by decide, (zgw_of 197 (by decide +kernel) rfl)⟩
theorem fk_X6_91 : zFd RX6 91 5 0 RX5 TX5 := ⟨cl_5, by decide, (zgw_of 198 (by decide +kernel) rfl)⟩
theorem fk_X9_106 : zFd RX9 106 5 0 RX5 TX5 := ⟨cl_5, by decide, (zgw_of 199 (by decide +kernel) rfl)⟩
theorem fk_X5_13 : zFd RX5 13 5 1 RX5 TX5 := ⟨cl_5, by decide, (zgw_of 200 (by decide +kernel) rfl)⟩
theorem fk_X8_30 : zFd RX8 30 5 1 RX5 TX5 := ⟨cl_5, by decide, (zgw_of 201 (by decide +kernel) rfl)⟩
theorem fk_X6_111 : zFd RX6 111 5 1 RX5 TX5 := ⟨cl_5, by decide, (zgw_of 202 (by decide +kernel) rfl)⟩
theorem fk_X9_118 : zFd RX9 118 5 1 RX5 TX5 := ⟨cl_5, by decide, (zgw_of 203 (by decide +kernel) rfl)⟩
theorem fk_X5_16 : zFd RX5 16 5 2 RX5 TX5 := ⟨cl_5, by decide, (zgw_of 204 (by decide +kernel) rfl)⟩
theorem fk_X6_142 : zFd RX6 142 5 2 RX5 TX5 := ⟨cl_5, by decide, (zgw_of 205 (by decide +kernel) rfl)⟩
theorem fk_X9_134 : zFd RX9 134 5 2 RX5 TX5 := ⟨cl_5, by decide, (zgw_of 206 (by decide +kernel) rfl)⟩
theorem fk_X5_19 : zFd RX5 19 5 3 RX5 TX5 := ⟨cl_5, by decide, (zgw_of 207 (by decide +kernel) rfl)⟩
theorem fk_X6_151 : zFd RX6 151 5 3 RX5 TX5 := ⟨cl_5, by decide, (zgw_of 208 (by decide +kernel) rfl)⟩
theorem fk_X9_135 : zFd RX9 135 5 3 RX5 TX5 := ⟨cl_5, by decide, (zgw_of 209 (by decide +kernel) rfl)⟩
theorem fk_X5_23 : zFd RX5 23 5 4 RX5 TX5 := ⟨cl_5, by decide, (zgw_of 210 (by decide +kernel) rfl)⟩
theorem fk_X8_27 : zFd RX8 27 5 4 RX5 TX5 := ⟨cl_5, by decide, (zgw_of 211 (by decide +kernel) rfl)⟩
theorem fk_X8_24 : zFd RX8 24 5 5 RX5 TX5 := ⟨cl_5, by decide, (zgw_of 212 (by decide +kernel) rfl)⟩
theorem fk_X6_70 : zFd RX6 70 5 5 RX5 TX5 := ⟨cl_5, by decide, (zgw_of 213 (by decide +kernel) rfl)⟩
theorem fk_X9_90 : zFd RX9 90 5 5 RX5 TX5 := ⟨cl_5, by decide, (zgw_of 214 (by decide +kernel) rfl)⟩
theorem fk_X5_26 : zFd RX5 26 5 6 RX5 TX5 := ⟨cl_5, by decide, (zgw_of 215 (by decide +kernel) rfl)⟩
theorem fk_X6_85 : zFd RX6 85 5 6 RX5 TX5 := ⟨cl_5, by decide, (zgw_of 216 (by decide +kernel) rfl)⟩
theorem fk_X9_100 : zFd RX9 100 5 6 RX5 TX5 := ⟨cl_5, by decide, (zgw_of 217 (by decide +kernel) rfl)⟩
theorem fk_X5_29 : zFd RX5 29 5 7 RX5 TX5 := ⟨cl_5, by decide, (zgw_of 218 (by decide +kernel) rfl)⟩
theorem fk_X6_88 : zFd RX6 88 5 7 RX5 TX5 := ⟨cl_5, by decide, (zgw_of 219 (by decide +kernel) rfl)⟩
theorem fk_X9_103 : zFd RX9 103 5 7 RX5 TX5 := ⟨cl_5, by decide, (zgw_of 220 (by decide +kernel) rfl)⟩
theorem fk_X5_32 : zFd RX5 32 5 8 RX5 TX5 := ⟨cl_5, by decide, (zgw_of 221 (by decide +kernel) rfl)⟩
theorem fk_X6_114 : zFd RX6 114 5 8 RX5 TX5 := ⟨cl_5, by decide, (zgw_of 222 (by decide +kernel) rfl)⟩
theorem fk_X9_151 : zFd RX9 151 5 8 RX5 TX5 := ⟨cl_5, by decide, (zgw_of 223 (by decide +kernel) rfl)⟩
theorem fk_X5_35 : zFd RX5 35 5 9 RX5 TX5 := ⟨cl_5, by decide, (zgw_of 224 (by decide +kernel) rfl)⟩
theorem fk_X6_118 : zFd RX6 118 5 9 RX5 TX5 := ⟨cl_5, by decide, (zgw_of 225 (by decide +kernel) rfl)⟩
theorem fk_X9_148 : zFd RX9 148 5 9 RX5 TX5 := ⟨cl_5, by decide, (zgw_of 226 (by decide +kernel) rfl)⟩
theorem fk_X5_38 : zFd RX5 38 5 10 RX5 TX5 := ⟨cl_5, by decide, (zgw_of 227 (by decide +kernel) rfl)⟩
theorem fk_X6_97 : zFd RX6 97 5 10 RX5 TX5 := ⟨cl_5, by decide, (zgw_of 228 (by decide +kernel) rfl)⟩
theorem fk_X9_109 : zFd RX9 109 5 10 RX5 TX5 := ⟨cl_5, by decide, (zgw_of 229 (by decide +kernel) rfl)⟩
theorem fk_X5_41 : zFd RX5 41 5 11 RX5 TX5 := ⟨cl_5, by decide, (zgw_of 230 (by decide +kernel) rfl)⟩
theorem fk_X6_155 : zFd RX6 155 5 11 RX5 TX5 := ⟨cl_5, by decide, (zgw_of 231 (by decide +kernel) rfl)⟩
theorem fk_X9_142 : zFd RX9 142 5 11 RX5 TX5 := ⟨cl_5, by decide, (zgw_of 232 (by decide +kernel) rfl)⟩
theorem fk_X5_44 : zFd RX5 44 5 12 RX5 TX5 := ⟨cl_5, by decide, (zgw_of 233 (by decide +kernel) rfl)⟩
theorem fk_X6_161 : zFd RX6 161 5 12 RX5 TX5 := ⟨cl_5, by decide, (zgw_of 234 (by decide +kernel) rfl)⟩
theorem fk_X9_145 : zFd RX9 145 5 12 RX5 TX5 := ⟨cl_5, by decide, (zgw_of 235 (by decide +kernel) rfl)⟩
theorem fk_X8_11 : zFd RX8 11 8 0 RX8 TX8 := ⟨cl_8, by decide, (zgw_of 263 (by decide +kernel) rfl)⟩
theorem fk_X6_66 : zFd RX6 66 8 0 RX8 TX8 := ⟨cl_8, by decide, (zgw_of 264 (by decide +kernel) rfl)⟩
theorem fk_X9_73 : zFd RX9 73 8 0 RX8 TX8 := ⟨cl_8, by decide, (zgw_of 265 (by decide +kernel) rfl)⟩
theorem fk_X8_16 : zFd RX8 16 8 1 RX8 TX8 := ⟨cl_8, by decide, (zgw_of 266 (by decide +kernel) rfl)⟩
theorem fk_X9_31 : zFd RX9 31 8 1 RX8 TX8 := ⟨cl_8, by decide, (zgw_of 267 (by decide +kernel) rfl)⟩
theorem fk_X6_61 : zFd RX6 61 8 1 RX8 TX8 := ⟨cl_8, by decide, (zgw_of 268 (by decide +kernel) rfl)⟩
theorem fk_X10_106 : zFd RX10 106 8 1 RX8 TX8 := ⟨cl_8, by decide, (zgw_of 269 (by decide +kernel) rfl)⟩
theorem fk_X9_9 : zFd RX9 9 9 0 RX9 TX9 := ⟨cl_9, by decide, (zgw_of 281 (by decide +kernel) rfl)⟩
theorem fk_X9_15 : zFd RX9 15 9 1 RX9 TX9 := ⟨cl_9, by decide, (zgw_of 282 (by decide +kernel) rfl)⟩
theorem fk_X9_19 : zFd RX9 19 9 2 RX9 TX9 := ⟨cl_9, by decide, (zgw_of 283 (by decide +kernel) rfl)⟩
theorem fk_X9_25 : zFd RX9 25 9 3 RX9 TX9 := ⟨cl_9, by decide, (zgw_of 284 (by decide +kernel) rfl)⟩
theorem fk_X9_28 : zFd RX9 28 9 4 RX9 TX9 := ⟨cl_9, by decide, (zgw_of 285 (by decide +kernel) rfl)⟩
theorem fk_X7_11 : zFd RX7 11 7 0 RX7 TX7 := ⟨cl_7, by decide, (zgw_of 303 (by decide +kernel) rfl)⟩
theorem fk_X7_15 : zFd RX7 15 7 1 RX7 TX7 := ⟨cl_7, by decide, (zgw_of 304 (by decide +kernel) rfl)⟩
theorem fk_X7_18 : zFd RX7 18 7 2 RX7 TX7 := ⟨cl_7, by decide, (zgw_of 305 (by decide +kernel) rfl)⟩
theorem fk_X3_23 : zFd RX3 23 3 0 RX3 TX3 := ⟨cl_3, by decide, (zgw_of 326 (by decide +kernel) rfl)⟩
theorem fk_X6_146 : zFd RX6 146 3 0 RX3 TX3 := ⟨cl_3, by decide, (zgw_of 327 (by decide +kernel) rfl)⟩
theorem fk_X0_39 : zFd RX0 39 3 0 RX3 TX3 := ⟨cl_3, by decide, (zgw_of 328 (by decide +kernel) rfl)⟩
theorem fk_X3_26 : zFd RX3 26 3 1 RX3 TX3 := ⟨cl_3, by decide, (zgw_of 329 (by decide +kernel) rfl)⟩
theorem fk_X6_149 : zFd RX6 149 3 1 RX3 TX3 := ⟨cl_3, by decide, (zgw_of 330 (by decide +kernel) rfl)⟩
theorem fk_X0_44 : zFd RX0 44 3 1 RX3 TX3 := ⟨cl_3, by decide, (zgw_of 331 (by decide +kernel) rfl)⟩
theorem fk_X3_17 : zFd RX3 17 3 2 RX3 TX3 := ⟨cl_3, by decide, (zgw_of 332 (by decide +kernel) rfl)⟩
theorem fk_X1_9 : zFd RX1 9 3 2 RX3 TX3 := ⟨cl_3, by decide, (zgw_of 333 (by decide +kernel) rfl)⟩
theorem fk_X6_150 : zFd RX6 150 3 2 RX3 TX3 := ⟨cl_3, by decide, (zgw_of 334 (by decide +kernel) rfl)⟩
theorem fk_X0_51 : zFd RX0 51 3 2 RX3 TX3 := ⟨cl_3, by decide, (zgw_of 335 (by decide +kernel) rfl)⟩
theorem fk_X3_34 : zFd RX3 34 3 3 RX3 TX3 := ⟨cl_3, by decide, (zgw_of 336 (by decide +kernel) rfl)⟩
theorem fk_X6_154 : zFd RX6 154 3 3 RX3 TX3 := ⟨cl_3, by decide, (zgw_of 337 (by decide +kernel) rfl)⟩
theorem fk_X0_45 : zFd RX0 45 3 3 RX3 TX3 := ⟨cl_3, by decide, (zgw_of 338 (by decide +kernel) rfl)⟩
theorem fk_X1_20 : zFd RX1 20 3 4 RX3 TX3 := ⟨cl_3, by decide, (zgw_of 339 (by decide +kernel) rfl)⟩
theorem fk_X3_38 : zFd RX3 38 3 4 RX3 TX3 := ⟨cl_3, by decide, (zgw_of 340 (by decide +kernel) rfl)⟩
theorem fk_X6_158 : zFd RX6 158 3 4 RX3 TX3 := ⟨cl_3, by decide, (zgw_of 341 (by decide +kernel) rfl)⟩
theorem fk_X1_23 : zFd RX1 23 3 5 RX3 TX3 := ⟨cl_3, by decide, (zgw_of 342 (by decide +kernel) rfl)⟩
theorem fk_X3_41 : zFd RX3 41 3 5 RX3 TX3 := ⟨cl_3, by decide, (zgw_of 343 (by decide +kernel) rfl)⟩
theorem fk_X6_164 : zFd RX6 164 3 5 RX3 TX3 := ⟨cl_3, by decide, (zgw_of 344 (by decide +kernel) rfl)⟩
theorem fk_X3_31 : zFd RX3 31 3 6 RX3 TX3 := ⟨cl_3, by decide, (zgw_of 345 (by decide +kernel) rfl)⟩
theorem fk_X6_167 : zFd RX6 167 3 6 RX3 TX3 := ⟨cl_3, by decide, (zgw_of 346 (by decide +kernel) rfl)⟩
theorem fk_X10_306 : zFd RX10 306 3 6 RX3 TX3 := ⟨cl_3, by decide, (zgw_of 347 (by decide +kernel) rfl)⟩
theorem fk_X3_11 : zFd RX3 11 3 7 RX3 TX3 := ⟨cl_3, by decide, (zgw_of 348 (by decide +kernel) rfl)⟩
theorem fk_X6_170 : zFd RX6 170 3 7 RX3 TX3 := ⟨cl_3, by decide, (zgw_of 349 (by decide +kernel) rfl)⟩
theorem fk_X6_13 : zFd RX6 13 6 0 RX6 TX6 := ⟨cl_6, by decide, (zgw_of 367 (by decide +kernel) rfl)⟩
theorem fk_X10_179 : zFd RX10 179 6 0 RX6 TX6 := ⟨cl_6, by decide, (zgw_of 368 (by decide +kernel) rfl)⟩
theorem fk_X6_52 : zFd RX6 52 6 1 RX6 TX6 := ⟨cl_6, by decide, (zgw_of 369 (by decide +kernel) rfl)⟩
theorem fk_X10_199 : zFd RX10 199 6 1 RX6 TX6 := ⟨cl_6, by decide, (zgw_of 370 (by decide +kernel) rfl)⟩
theorem fk_X6_58 : zFd RX6 58 6 2 RX6 TX6 := ⟨cl_6, by decide, (zgw_of 371 (by decide +kernel) rfl)⟩
theorem fk_X10_285 : zFd RX10 285 6 2 RX6 TX6 := ⟨cl_6, by decide, (zgw_of 372 (by decide +kernel) rfl)⟩
theorem fk_X6_49 : zFd RX6 49 6 3 RX6 TX6 := ⟨cl_6, by decide, (zgw_of 373 (by decide +kernel) rfl)⟩
theorem fk_X10_288 : zFd RX10 288 6 3 RX6 TX6 := ⟨cl_6, by decide, (zgw_of 374 (by decide +kernel) rfl)⟩
theorem fk_X6_18 : zFd RX6 18 6 4 RX6 TX6 := ⟨cl_6, by decide, (zgw_of 375 (by decide +kernel) rfl)⟩
theorem fk_X6_22 : zFd RX6 22 6 5 RX6 TX6 := ⟨cl_6, by decide, (zgw_of 376 (by decide +kernel) rfl)⟩
theorem fk_X6_45 : zFd RX6 45 6 6 RX6 TX6 := ⟨cl_6, by decide, (zgw_of 377 (by decide +kernel) rfl)⟩
theorem fk_X6_55 : zFd RX6 55 6 7 RX6 TX6 := ⟨cl_6, by decide, (zgw_of 378 (by decide +kernel) rfl)⟩
theorem fk_X6_28 : zFd RX6 28 6 8 RX6 TX6 := ⟨cl_6, by decide, (zgw_of 379 (by decide +kernel) rfl)⟩
theorem fk_X6_32 : zFd RX6 32 6 9 RX6 TX6 := ⟨cl_6, by decide, (zgw_of 380 (by decide +kernel) rfl)⟩
theorem fk_X6_36 : zFd RX6 36 6 10 RX6 TX6 := ⟨cl_6, by decide, (zgw_of 381 (by decide +kernel) rfl)⟩
theorem fk_X6_39 : zFd RX6 39 6 11 RX6 TX6 := ⟨cl_6, by decide, (zgw_of 382 (by decide +kernel) rfl)⟩
theorem fk_X6_42 : zFd RX6 42 6 12 RX6 TX6 := ⟨cl_6, by decide, (zgw_of 383 (by decide +kernel) rfl)⟩
theorem fk_X6_177 : zFd RX6 177 6 13 RX6 TX6 := ⟨cl_6, by decide, (zgw_of 384 (by decide +kernel) rfl)⟩
theorem fk_X10_14 : zFd RX10 14 10 0 RX10 TX10 := ⟨cl_10, by decide, (zgw_of 415 (by decide +kernel) rfl)⟩
theorem fk_X10_18 : zFd RX10 18 10 1 RX10 TX10 := ⟨cl_10, by decide, (zgw_of 416 (by decide +kernel) rfl)⟩
theorem fk_X10_21 : zFd RX10 21 10 2 RX10 TX10 := ⟨cl_10, by decide, (zgw_of 417 (by decide +kernel) rfl)⟩
theorem fk_X10_27 : zFd RX10 27 10 3 RX10 TX10 := ⟨cl_10, by decide, (zgw_of 418 (by decide +kernel) rfl)⟩
theorem fk_X10_36 : zFd RX10 36 10 4 RX10 TX10 := ⟨cl_10, by decide, (zgw_of 419 (by decide +kernel) rfl)⟩
theorem fk_X10_42 : zFd RX10 42 10 5 RX10 TX10 := ⟨cl_10, by decide, (zgw_of 420 (by decide +kernel) rfl)⟩
theorem fk_X10_56 : zFd RX10 56 10 6 RX10 TX10 := ⟨cl_10, by decide, (zgw_of 421 (by decide +kernel) rfl)⟩
theorem fk_X10_63 : zFd RX10 63 10 7 RX10 TX10 := ⟨cl_10, by decide, (zgw_of 422 (by decide +kernel) rfl)⟩
theorem fk_X10_75 : zFd RX10 75 10 8 RX10 TX10 := ⟨cl_10, by decide, (zgw_of 423 (by decide +kernel) rfl)⟩
theorem fk_X10_79 : zFd RX10 79 10 9 RX10 TX10 := ⟨cl_10, by decide, (zgw_of 424 (by decide +kernel) rfl)⟩
theorem fk_X10_47 : zFd RX10 47 10 10 RX10 TX10 := ⟨cl_10, by decide, (zgw_of 425 (by decide +kernel) rfl)⟩
theorem fk_X10_83 : zFd RX10 83 10 11 RX10 TX10 := ⟨cl_10, by decide, (zgw_of 426 (by decide +kernel) rfl)⟩
theorem fk_X11_7 : zFd RX11 7 11 0 RX11 TX11 := ⟨cl_11, by decide, (zgw_of 990 (by decide +kernel) rfl)⟩
theorem fk_X11_13 : zFd RX11 13 11 1 RX11 TX11 := ⟨cl_11, by decide, (zgw_of 991 (by decide +kernel) rfl)⟩
theorem fk_X11_317 : zFd RX11 317 11 2 RX11 TX11 := ⟨cl_11, by decide, (zgw_of 992 (by decide +kernel) rfl)⟩
theorem fk_X11_16 : zFd RX11 16 11 3 RX11 TX11 := ⟨cl_11, by decide, (zgw_of 993 (by decide +kernel) rfl)⟩
theorem fk_X11_320 : zFd RX11 320 11 4 RX11 TX11 := ⟨cl_11, by decide, (zgw_of 994 (by decide +kernel) rfl)⟩
theorem fk_X11_19 : zFd RX11 19 11 5 RX11 TX11 := ⟨cl_11, by decide, (zgw_of 995 (by decide +kernel) rfl)⟩
theorem fk_X11_310 : zFd RX11 310 11 6 RX11 TX11 := ⟨cl_11, by decide, (zgw_of 996 (by decide +kernel) rfl)⟩
theorem fk_X11_22 : zFd RX11 22 11 7 RX11 TX11 := ⟨cl_11, by decide, (zgw_of 997 (by decide +kernel) rfl)⟩
theorem fk_X11_340 : zFd RX11 340 11 8 RX11 TX11 := ⟨cl_11, by decide, (zgw_of 998 (by decide +kernel) rfl)⟩
theorem fk_X11_25 : zFd RX11 25 11 9 RX11 TX11 := ⟨cl_11, by decide, (zgw_of 999 (by decide +kernel) rfl)⟩
theorem fk_X11_366 : zFd RX11 366 11 10 RX11 TX11 := ⟨cl_11, by decide, (zgw_of 1000 (by decide +kernel) rfl)⟩
theorem fk_X11_28 : zFd RX11 28 11 11 RX11 TX11 := ⟨cl_11, by decide, (zgw_of 1001 (by decide +kernel) rfl)⟩
theorem fk_X11_97 : zFd RX11 97 11 12 RX11 TX11 := ⟨cl_11, by decide, (zgw_of 1002 (by decide +kernel) rfl)⟩
theorem fk_X11_31 : zFd RX11 31 11 13 RX11 TX11 := ⟨cl_11, by decide, (zgw_of 1003 (by decide +kernel) rfl)⟩
theorem fk_X11_34 : zFd RX11 34 11 14 RX11 TX11 := ⟨cl_11, by decide, (zgw_of 1004 (by decide +kernel) rfl)⟩
theorem fk_X11_101 : zFd RX11 101 11 15 RX11 TX11 := ⟨cl_11, by decide, (zgw_of 1005 (by decide +kernel) rfl)⟩
theorem fk_X11_108 : zFd RX11 108 11 16 RX11 TX11 := ⟨cl_11, by decide, (zgw_of 1006 (by decide +kernel) rfl)⟩
theorem fk_X11_122 : zFd RX11 122 11 17 RX11 TX11 := ⟨cl_11, by decide, (zgw_of 1007 (by decide +kernel) rfl)⟩
theorem fk_X11_132 : zFd RX11 132 11 18 RX11 TX11 := ⟨cl_11, by decide, (zgw_of 1008 (by decide +kernel) rfl)⟩
theorem fk_X11_183 : zFd RX11 183 11 19 RX11 TX11 := ⟨cl_11, by decide, (zgw_of 1009 (by decide +kernel) rfl)⟩
theorem fk_X11_186 : zFd RX11 186 11 20 RX11 TX11 := ⟨cl_11, by decide, (zgw_of 1010 (by decide +kernel) rfl)⟩
theorem fk_X11_37 : zFd RX11 37 11 21 RX11 TX11 := ⟨cl_11, by decide, (zgw_of 1011 (by decide +kernel) rfl)⟩
theorem fk_X11_212 : zFd RX11 212 11 22 RX11 TX11 := ⟨cl_11, by decide, (zgw_of 1012 (by decide +kernel) rfl)⟩
theorem fk_X11_40 : zFd RX11 40 11 23 RX11 TX11 := ⟨cl_11, by decide, (zgw_of 1013 (by decide +kernel) rfl)⟩
theorem fk_X11_43 : zFd RX11 43 11 24 RX11 TX11 := ⟨cl_11, by decide, (zgw_of 1014 (by decide +kernel) rfl)⟩
theorem fk_X11_46 : zFd RX11 46 11 25 RX11 TX11 := ⟨cl_11, by decide, (zgw_of 1015 (by decide +kernel) rfl)⟩
theorem fk_X11_49 : zFd RX11 49 11 26 RX11 TX11 := ⟨cl_11, by decide, (zgw_of 1016 (by decide +kernel) rfl)⟩
theorem fk_X11_52 : zFd RX11 52 11 27 RX11 TX11 := ⟨cl_11, by decide, (zgw_of 1017 (by decide +kernel) rfl)⟩
theorem fk_X11_55 : zFd RX11 55 11 28 RX11 TX11 := ⟨cl_11, by decide, (zgw_of 1018 (by decide +kernel) rfl)⟩
theorem fk_X11_58 : zFd RX11 58 11 29 RX11 TX11 := ⟨cl_11, by decide, (zgw_of 1019 (by decide +kernel) rfl)⟩
theorem fk_X11_61 : zFd RX11 61 11 30 RX11 TX11 := ⟨cl_11, by decide, (zgw_of 1020 (by decide +kernel) rfl)⟩
theorem fk_X11_235 : zFd RX11 235 11 31 RX11 TX11 := ⟨cl_11, by decide, (zgw_of 1021 (by decide +kernel) rfl)⟩
theorem fk_X11_238 : zFd RX11 238 11 32 RX11 TX11 := ⟨cl_11, by decide, (zgw_of 1022 (by decide +kernel) rfl)⟩
theorem fk_X11_241 : zFd RX11 241 11 33 RX11 TX11 := ⟨cl_11, by decide, (zgw_of 1023 (by decide +kernel) rfl)⟩
theorem fk_X11_263 : zFd RX11 263 11 34 RX11 TX11 := ⟨cl_11, by decide, (zgw_of 1024 (by decide +kernel) rfl)⟩
theorem fk_X11_64 : zFd RX11 64 11 35 RX11 TX11 := ⟨cl_11, by decide, (zgw_of 1025 (by decide +kernel) rfl)⟩
theorem fk_X11_68 : zFd RX11 68 11 36 RX11 TX11 := ⟨cl_11, by decide, (zgw_of 1026 (by decide +kernel) rfl)⟩
theorem fk_X11_71 : zFd RX11 71 11 37 RX11 TX11 := ⟨cl_11, by decide, (zgw_of 1027 (by decide +kernel) rfl)⟩
theorem fk_X11_74 : zFd RX11 74 11 38 RX11 TX11 := ⟨cl_11, by decide, (zgw_of 1028 (by decide +kernel) rfl)⟩
theorem fk_X11_77 : zFd RX11 77 11 39 RX11 TX11 := ⟨cl_11, by decide, (zgw_of 1029 (by decide +kernel) rfl)⟩
theorem fk_X11_80 : zFd RX11 80 11 40 RX11 TX11 := ⟨cl_11, by decide, (zgw_of 1030 (by decide +kernel) rfl)⟩
theorem fk_X11_244 : zFd RX11 244 11 41 RX11 TX11 := ⟨cl_11, by decide, (zgw_of 1031 (by decide +kernel) rfl)⟩
theorem fk_X11_83 : zFd RX11 83 11 42 RX11 TX11 := ⟨cl_11, by decide, (zgw_of 1032 (by decide +kernel) rfl)⟩
theorem fk_X11_86 : zFd RX11 86 11 43 RX11 TX11 := ⟨cl_11, by decide, (zgw_of 1033 (by decide +kernel) rfl)⟩
theorem fk_X11_377 : zFd RX11 377 11 44 RX11 TX11 := ⟨cl_11, by decide, (zgw_of 1034 (by decide +kernel) rfl)⟩
end
section
abbrev M_X0_init : zM := (yX0_init, cX0_init, 2, none)
theorem md_X0_init : zMd M_X0_init 1 := ⟨plainFor_of_name (by decide +kernel), (zgw_of 119 (by decide +kernel) rfl), (zgw_of 94 (by decide +kernel) rfl), ⟨by decide +kernel, by decide +kernel⟩, by decide +kernel, by decide⟩
theorem mi_X0_init : Cond.instanceMethod yX0_init ∈ zgw := (zgw_of 118 (by decide +kernel) rfl)
abbrev M_X0_has : zM := (yX0_has, cX0_has, 2, some .boolean)
theorem md_X0_has : zMd M_X0_has 1 := ⟨plainFor_of_name (by decide +kernel), (zgw_of 624 (by decide +kernel) rfl), (zgw_of 94 (by decide +kernel) rfl), ⟨by decide +kernel, by decide +kernel⟩, by decide +kernel, by decide⟩
theorem mi_X0_has : Cond.instanceMethod yX0_has ∈ zgw := (zgw_of 622 (by decide +kernel) rfl)
theorem mv_X0_has : Cond.selects RX0 yX0_has yX0_has ∈ zgw := (zgw_of 623 (by decide +kernel) rfl)
abbrev M_X0_get : zM := (yX0_get, cX0_get, 2, some .int)
theorem md_X0_get : zMd M_X0_get 1 := ⟨plainFor_of_name (by decide +kernel), (zgw_of 533 (by decide +kernel) rfl), (zgw_of 94 (by decide +kernel) rfl), ⟨by decide +kernel, by decide +kernel⟩, by decide +kernel, by decide⟩
theorem mi_X0_get : Cond.instanceMethod yX0_get ∈ zgw := (zgw_of 531 (by decide +kernel) rfl)
theorem mv_X0_get : Cond.selects RX0 yX0_get yX0_get ∈ zgw := (zgw_of 532 (by decide +kernel) rfl)
abbrev M_X0_put : zM := (yX0_put, cX0_put, 3, none)
theorem md_X0_put : zMd M_X0_put 2 := ⟨plainFor_of_name (by decide +kernel), (zgw_of 656 (by decide +kernel) rfl), (zgw_of 94 (by decide +kernel) rfl), ⟨by decide +kernel, by decide +kernel⟩, by decide +kernel, by decide⟩
theorem mi_X0_put : Cond.instanceMethod yX0_put ∈ zgw := (zgw_of 654 (by decide +kernel) rfl)
theorem mv_X0_put : Cond.selects RX0 yX0_put yX0_put ∈ zgw := (zgw_of 655 (by decide +kernel) rfl)
abbrev M_X0_putAll : zM := (yX0_putAll, cX0_putAll, 4, none)
theorem md_X0_putAll : zMd M_X0_putAll 2 := ⟨plainFor_of_name (by decide +kernel), (zgw_of 792 (by decide +kernel) rfl), (zgw_of 94 (by decide +kernel) rfl), ⟨by decide +kernel, by decide +kernel⟩, by decide +kernel, by decide⟩
theorem mi_X0_putAll : Cond.instanceMethod yX0_putAll ∈ zgw := (zgw_of 790 (by decide +kernel) rfl)
theorem mv_X0_putAll : Cond.selects RX0 yX0_putAll yX0_putAll ∈ zgw := (zgw_of 791 (by decide +kernel) rfl)
abbrev M_X0_append : zM := (yX0_append, cX0_append, 2, some .boolean)
theorem md_X0_append : zMd M_X0_append 1 := ⟨plainFor_of_name (by decide +kernel), (zgw_of 462 (by decide +kernel) rfl), (zgw_of 94 (by decide +kernel) rfl), ⟨by decide +kernel, by decide +kernel⟩, by decide +kernel, by decide⟩
theorem mi_X0_append : Cond.instanceMethod yX0_append ∈ zgw := (zgw_of 460 (by decide +kernel) rfl)
theorem mv_X0_append : Cond.selects RX0 yX0_append yX0_append ∈ zgw := (zgw_of 461 (by decide +kernel) rfl)
abbrev M_X0_become : zM := (yX0_become, cX0_become, 4, none)
theorem md_X0_become : zMd M_X0_become 3 := ⟨plainFor_of_name (by decide +kernel), (zgw_of 641 (by decide +kernel) rfl), (zgw_of 94 (by decide +kernel) rfl), ⟨by decide +kernel, by decide +kernel⟩, by decide +kernel, by decide⟩
theorem mi_X0_become : Cond.instanceMethod yX0_become ∈ zgw := (zgw_of 639 (by decide +kernel) rfl)
theorem mv_X0_become : Cond.selects RX0 yX0_become yX0_become ∈ zgw := (zgw_of 640 (by decide +kernel) rfl)
abbrev M_X0_openGap : zM := (yX0_openGap, cX0_openGap, 3, none)
theorem md_X0_openGap : zMd M_X0_openGap 2 := ⟨plainFor_of_name (by decide +kernel), (zgw_of 652 (by decide +kernel) rfl), (zgw_of 94 (by decide +kernel) rfl), ⟨by decide +kernel, by decide +kernel⟩, by decide +kernel, by decide⟩
theorem mi_X0_openGap : Cond.instanceMethod yX0_openGap ∈ zgw := (zgw_of 650 (by decide +kernel) rfl)
theorem mv_X0_openGap : Cond.selects RX0 yX0_openGap yX0_openGap ∈ zgw := (zgw_of 651 (by decide +kernel) rfl)
abbrev M_X0_closeGap : zM := (yX0_closeGap, cX0_closeGap, 3, none)
theorem md_X0_closeGap : zMd M_X0_closeGap 2 := ⟨plainFor_of_name (by decide +kernel), (zgw_of 771 (by decide +kernel) rfl), (zgw_of 94 (by decide +kernel) rfl), ⟨by decide +kernel, by decide +kernel⟩, by decide +kernel, by decide⟩
theorem mi_X0_closeGap : Cond.instanceMethod yX0_closeGap ∈ zgw := (zgw_of 769 (by decide +kernel) rfl)
theorem mv_X0_closeGap : Cond.selects RX0 yX0_closeGap yX0_closeGap ∈ zgw := (zgw_of 770 (by decide +kernel) rfl)
abbrev M_X0_read : zM := (yX0_read, cX0_read, 6, some .long)
theorem md_X0_read : zMd M_X0_read 1 := ⟨plainFor_of_name (by decide +kernel), (zgw_of 715 (by decide +kernel) rfl), (zgw_of 94 (by decide +kernel) rfl), ⟨by decide +kernel, by decide +kernel⟩, by decide +kernel, by decide⟩
theorem mi_X0_read : Cond.instanceMethod yX0_read ∈ zgw := (zgw_of 713 (by decide +kernel) rfl)
theorem mv_X0_read : Cond.selects RX0 yX0_read yX0_read ∈ zgw := (zgw_of 714 (by decide +kernel) rfl)
abbrev M_X0_write : zM := (yX0_write, cX0_write, 6, none)
theorem md_X0_write : zMd M_X0_write 2 := ⟨plainFor_of_name (by decide +kernel), (zgw_of 745 (by decide +kernel) rfl), (zgw_of 94 (by decide +kernel) rfl), ⟨by decide +kernel, by decide +kernel⟩, by decide +kernel, by decide⟩
theorem mi_X0_write : Cond.instanceMethod yX0_write ∈ zgw := (zgw_of 743 (by decide +kernel) rfl)
theorem mv_X0_write : Cond.selects RX0 yX0_write yX0_write ∈ zgw := (zgw_of 744 (by decide +kernel) rfl)
abbrev M_X1_expectedOf : zM := (yX1_expectedOf, cX1_expectedOf, 5, some .int)
theorem md_X1_expectedOf : zMd M_X1_expectedOf 2 := ⟨plainFor_of_name (by decide +kernel), (zgw_of 732 (by decide +kernel) rfl), (zgw_of 106 (by decide +kernel) rfl), ⟨by decide +kernel, by decide +kernel⟩, by decide +kernel, by decide⟩
theorem ms_X1_expectedOf : Cond.static yX1_expectedOf ∈ zgw := (zgw_of 731 (by decide +kernel) rfl)
abbrev M_X1_isWrong : zM := (yX1_isWrong, cX1_isWrong, 2, some .boolean)
theorem md_X1_isWrong : zMd M_X1_isWrong 2 := ⟨plainFor_of_name (by decide +kernel), (zgw_of 724 (by decide +kernel) rfl), (zgw_of 106 (by decide +kernel) rfl), ⟨by decide +kernel, by decide +kernel⟩, by decide +kernel, by decide⟩
theorem ms_X1_isWrong : Cond.static yX1_isWrong ∈ zgw := (zgw_of 723 (by decide +kernel) rfl)
abbrev M_X1_repairOf : zM := (yX1_repairOf, cX1_repairOf, 9, some .int)
theorem md_X1_repairOf : zMd M_X1_repairOf 3 := ⟨plainFor_of_name (by decide +kernel), (zgw_of 904 (by decide +kernel) rfl), (zgw_of 106 (by decide +kernel) rfl), ⟨by decide +kernel, by decide +kernel⟩, by decide +kernel, by decide⟩
theorem ms_X1_repairOf : Cond.static yX1_repairOf ∈ zgw := (zgw_of 903 (by decide +kernel) rfl)
abbrev M_X1_repairOfCrc : zM := (yX1_repairOfCrc, cX1_repairOfCrc, 7, some .int)
theorem md_X1_repairOfCrc : zMd M_X1_repairOfCrc 3 := ⟨plainFor_of_name (by decide +kernel), (zgw_of 908 (by decide +kernel) rfl), (zgw_of 106 (by decide +kernel) rfl), ⟨by decide +kernel, by decide +kernel⟩, by decide +kernel, by decide⟩
theorem ms_X1_repairOfCrc : Cond.static yX1_repairOfCrc ∈ zgw := (zgw_of 907 (by decide +kernel) rfl)
abbrev M_X1_feed : zM := (yX1_feed, cX1_feed, 5, some .int)
theorem md_X1_feed : zMd M_X1_feed 2 := ⟨plainFor_of_name (by decide +kernel), (zgw_of 739 (by decide +kernel) rfl), (zgw_of 106 (by decide +kernel) rfl), ⟨by decide +kernel, by decide +kernel⟩, by decide +kernel, by decide⟩
theorem ms_X1_feed : Cond.static yX1_feed ∈ zgw := (zgw_of 738 (by decide +kernel) rfl)
abbrev M_X1_halve : zM := (yX1_halve, cX1_halve, 3, some .int)
theorem md_X1_halve : zMd M_X1_halve 1 := ⟨plainFor_of_name (by decide +kernel), (zgw_of 911 (by decide +kernel) rfl), (zgw_of 106 (by decide +kernel) rfl), ⟨by decide +kernel, by decide +kernel⟩, by decide +kernel, by decide⟩
theorem ms_X1_halve : Cond.static yX1_halve ∈ zgw := (zgw_of 910 (by decide +kernel) rfl)
abbrev M_X2_init : zM := (yX2_init, cX2_init, 2, none)
theorem md_X2_init : zMd M_X2_init 0 := ⟨plainFor_of_name (by decide +kernel), (zgw_of 142 (by decide +kernel) rfl), (zgw_of 96 (by decide +kernel) rfl), ⟨by decide +kernel, by decide +kernel⟩, by decide +kernel, by decide⟩
theorem mi_X2_init : Cond.instanceMethod yX2_init ∈ zgw := (zgw_of 141 (by decide +kernel) rfl)
abbrev M_X2_isPresent : zM := (yX2_isPresent, cX2_isPresent, 2, some .boolean)
theorem md_X2_isPresent : zMd M_X2_isPresent 1 := ⟨plainFor_of_name (by decide +kernel), (zgw_of 581 (by decide +kernel) rfl), (zgw_of 96 (by decide +kernel) rfl), ⟨by decide +kernel, by decide +kernel⟩, by decide +kernel, by decide⟩
theorem mi_X2_isPresent : Cond.instanceMethod yX2_isPresent ∈ zgw := (zgw_of 579 (by decide +kernel) rfl)
theorem mv_X2_isPresent : Cond.selects RX2 yX2_isPresent yX2_isPresent ∈ zgw := (zgw_of 580 (by decide +kernel) rfl)
abbrev M_X2_drop : zM := (yX2_drop, cX2_drop, 2, none)
theorem md_X2_drop : zMd M_X2_drop 1 := ⟨plainFor_of_name (by decide +kernel), (zgw_of 813 (by decide +kernel) rfl), (zgw_of 96 (by decide +kernel) rfl), ⟨by decide +kernel, by decide +kernel⟩, by decide +kernel, by decide⟩
theorem mi_X2_drop : Cond.instanceMethod yX2_drop ∈ zgw := (zgw_of 811 (by decide +kernel) rfl)
theorem mv_X2_drop : Cond.selects RX2 yX2_drop yX2_drop ∈ zgw := (zgw_of 812 (by decide +kernel) rfl)
abbrev M_X2_presentOverlays : zM := (yX2_presentOverlays, cX2_presentOverlays, 3, some .int)
theorem md_X2_presentOverlays : zMd M_X2_presentOverlays 0 := ⟨plainFor_of_name (by decide +kernel), (zgw_of 961 (by decide +kernel) rfl), (zgw_of 96 (by decide +kernel) rfl), ⟨by decide +kernel, by decide +kernel⟩, by decide +kernel, by decide⟩
theorem mi_X2_presentOverlays : Cond.instanceMethod yX2_presentOverlays ∈ zgw := (zgw_of 959 (by decide +kernel) rfl)
theorem mv_X2_presentOverlays : Cond.selects RX2 yX2_presentOverlays yX2_presentOverlays ∈ zgw := (zgw_of 960 (by decide +kernel) rfl)
abbrev M_X2_uses : zM := (yX2_uses, cX2_uses, 3, some .boolean)
theorem md_X2_uses : zMd M_X2_uses 1 := ⟨plainFor_of_name (by decide +kernel), (zgw_of 577 (by decide +kernel) rfl), (zgw_of 96 (by decide +kernel) rfl), ⟨by decide +kernel, by decide +kernel⟩, by decide +kernel, by decide⟩
theorem mi_X2_uses : Cond.instanceMethod yX2_uses ∈ zgw := (zgw_of 575 (by decide +kernel) rfl)
theorem mv_X2_uses : Cond.selects RX2 yX2_uses yX2_uses ∈ zgw := (zgw_of 576 (by decide +kernel) rfl)
abbrev M_X2_become : zM := (yX2_become, cX2_become, 3, none)
theorem md_X2_become : zMd M_X2_become 1 := ⟨plainFor_of_name (by decide +kernel), (zgw_of 637 (by decide +kernel) rfl), (zgw_of 96 (by decide +kernel) rfl), ⟨by decide +kernel, by decide +kernel⟩, by decide +kernel, by decide⟩
theorem mi_X2_become : Cond.instanceMethod yX2_become ∈ zgw := (zgw_of 635 (by decide +kernel) rfl)
theorem mv_X2_become : Cond.selects RX2 yX2_become yX2_become ∈ zgw := (zgw_of 636 (by decide +kernel) rfl)
abbrev M_X2_openGap : zM := (yX2_openGap, cX2_openGap, 4, none)
theorem md_X2_openGap : zMd M_X2_openGap 2 := ⟨plainFor_of_name (by decide +kernel), (zgw_of 648 (by decide +kernel) rfl), (zgw_of 96 (by decide +kernel) rfl), ⟨by decide +kernel, by decide +kernel⟩, by decide +kernel, by decide⟩
theorem mi_X2_openGap : Cond.instanceMethod yX2_openGap ∈ zgw := (zgw_of 646 (by decide +kernel) rfl)
theorem mv_X2_openGap : Cond.selects RX2 yX2_openGap yX2_openGap ∈ zgw := (zgw_of 647 (by decide +kernel) rfl)
abbrev M_X2_closeGap : zM := (yX2_closeGap, cX2_closeGap, 4, none)
theorem md_X2_closeGap : zMd M_X2_closeGap 2 := ⟨plainFor_of_name (by decide +kernel), (zgw_of 767 (by decide +kernel) rfl), (zgw_of 96 (by decide +kernel) rfl), ⟨by decide +kernel, by decide +kernel⟩, by decide +kernel, by decide⟩
theorem mi_X2_closeGap : Cond.instanceMethod yX2_closeGap ∈ zgw := (zgw_of 765 (by decide +kernel) rfl)
theorem mv_X2_closeGap : Cond.selects RX2 yX2_closeGap yX2_closeGap ∈ zgw := (zgw_of 766 (by decide +kernel) rfl)
abbrev M_X3_init : zM := (yX3_init, cX3_init, 1, none)
theorem md_X3_init : zMd M_X3_init 0 := ⟨plainFor_of_name (by decide +kernel), (zgw_of 324 (by decide +kernel) rfl), (zgw_of 103 (by decide +kernel) rfl), ⟨by decide +kernel, by decide +kernel⟩, by decide +kernel, by decide⟩
theorem mi_X3_init : Cond.instanceMethod yX3_init ∈ zgw := (zgw_of 323 (by decide +kernel) rfl)
abbrev M_X3_isCheck : zM := (yX3_isCheck, cX3_isCheck, 1, some .boolean)
theorem md_X3_isCheck : zMd M_X3_isCheck 0 := ⟨plainFor_of_name (by decide +kernel), (zgw_of 728 (by decide +kernel) rfl), (zgw_of 103 (by decide +kernel) rfl), ⟨by decide +kernel, by decide +kernel⟩, by decide +kernel, by decide⟩
theorem mi_X3_isCheck : Cond.instanceMethod yX3_isCheck ∈ zgw := (zgw_of 726 (by decide +kernel) rfl)
theorem mv_X3_isCheck : Cond.selects RX3 yX3_isCheck yX3_isCheck ∈ zgw := (zgw_of 727 (by decide +kernel) rfl)
abbrev M_X3_contains : zM := (yX3_contains, cX3_contains, 2, some .boolean)
theorem md_X3_contains : zMd M_X3_contains 1 := ⟨plainFor_of_name (by decide +kernel), (zgw_of 859 (by decide +kernel) rfl), (zgw_of 103 (by decide +kernel) rfl), ⟨by decide +kernel, by decide +kernel⟩, by decide +kernel, by decide⟩
theorem mi_X3_contains : Cond.instanceMethod yX3_contains ∈ zgw := (zgw_of 857 (by decide +kernel) rfl)
theorem mv_X3_contains : Cond.selects RX3 yX3_contains yX3_contains ∈ zgw := (zgw_of 858 (by decide +kernel) rfl)
abbrev M_X3_takes : zM := (yX3_takes, cX3_takes, 7, some .boolean)
theorem md_X3_takes : zMd M_X3_takes 1 := ⟨plainFor_of_name (by decide +kernel), (zgw_of 883 (by decide +kernel) rfl), (zgw_of 103 (by decide +kernel) rfl), ⟨by decide +kernel, by decide +kernel⟩, by decide +kernel, by decide⟩
theorem mi_X3_takes : Cond.instanceMethod yX3_takes ∈ zgw := (zgw_of 881 (by decide +kernel) rfl)
theorem mv_X3_takes : Cond.selects RX3 yX3_takes yX3_takes ∈ zgw := (zgw_of 882 (by decide +kernel) rfl)
abbrev M_X3_pathName : zM := (yX3_pathName, cX3_pathName, 2, some .int)
theorem md_X3_pathName : zMd M_X3_pathName 1 := ⟨plainFor_of_name (by decide +kernel), (zgw_of 851 (by decide +kernel) rfl), (zgw_of 103 (by decide +kernel) rfl), ⟨by decide +kernel, by decide +kernel⟩, by decide +kernel, by decide⟩
theorem mi_X3_pathName : Cond.instanceMethod yX3_pathName ∈ zgw := (zgw_of 849 (by decide +kernel) rfl)
theorem mv_X3_pathName : Cond.selects RX3 yX3_pathName yX3_pathName ∈ zgw := (zgw_of 850 (by decide +kernel) rfl)
abbrev M_X3_property : zM := (yX3_property, cX3_property, 2, some .int)
theorem md_X3_property : zMd M_X3_property 1 := ⟨plainFor_of_name (by decide +kernel), (zgw_of 837 (by decide +kernel) rfl), (zgw_of 103 (by decide +kernel) rfl), ⟨by decide +kernel, by decide +kernel⟩, by decide +kernel, by decide⟩
theorem mi_X3_property : Cond.instanceMethod yX3_property ∈ zgw := (zgw_of 835 (by decide +kernel) rfl)
theorem mv_X3_property : Cond.selects RX3 yX3_property yX3_property ∈ zgw := (zgw_of 836 (by decide +kernel) rfl)
abbrev M_X4_init : zM := (yX4_init, cX4_init, 3, none)
theorem md_X4_init : zMd M_X4_init 1 := ⟨plainFor_of_name (by decide +kernel), (zgw_of 163 (by decide +kernel) rfl), (zgw_of 97 (by decide +kernel) rfl), ⟨by decide +kernel, by decide +kernel⟩, by decide +kernel, by decide⟩
theorem mi_X4_init : Cond.instanceMethod yX4_init ∈ zgw := (zgw_of 162 (by decide +kernel) rfl)
abbrev M_X4_keep : zM := (yX4_keep, cX4_keep, 1, none)
theorem md_X4_keep : zMd M_X4_keep 0 := ⟨plainFor_of_name (by decide +kernel), (zgw_of 633 (by decide +kernel) rfl), (zgw_of 97 (by decide +kernel) rfl), ⟨by decide +kernel, by decide +kernel⟩, by decide +kernel, by decide⟩
theorem mi_X4_keep : Cond.instanceMethod yX4_keep ∈ zgw := (zgw_of 631 (by decide +kernel) rfl)
theorem mv_X4_keep : Cond.selects RX4 yX4_keep yX4_keep ∈ zgw := (zgw_of 632 (by decide +kernel) rfl)
abbrev M_X4_takeBack : zM := (yX4_takeBack, cX4_takeBack, 1, none)
theorem md_X4_takeBack : zMd M_X4_takeBack 0 := ⟨plainFor_of_name (by decide +kernel), (zgw_of 751 (by decide +kernel) rfl), (zgw_of 97 (by decide +kernel) rfl), ⟨by decide +kernel, by decide +kernel⟩, by decide +kernel, by decide⟩
theorem mi_X4_takeBack : Cond.instanceMethod yX4_takeBack ∈ zgw := (zgw_of 749 (by decide +kernel) rfl)
theorem mv_X4_takeBack : Cond.selects RX4 yX4_takeBack yX4_takeBack ∈ zgw := (zgw_of 750 (by decide +kernel) rfl)
abbrev M_X4_commit : zM := (yX4_commit, cX4_commit, 1, none)
theorem md_X4_commit : zMd M_X4_commit 0 := ⟨plainFor_of_name (by decide +kernel), (zgw_of 755 (by decide +kernel) rfl), (zgw_of 97 (by decide +kernel) rfl), ⟨by decide +kernel, by decide +kernel⟩, by decide +kernel, by decide⟩
theorem mi_X4_commit : Cond.instanceMethod yX4_commit ∈ zgw := (zgw_of 753 (by decide +kernel) rfl)
theorem mv_X4_commit : Cond.selects RX4 yX4_commit yX4_commit ∈ zgw := (zgw_of 754 (by decide +kernel) rfl)
abbrev M_X4_back : zM := (yX4_back, cX4_back, 1, some .boolean)
theorem md_X4_back : zMd M_X4_back 0 := ⟨plainFor_of_name (by decide +kernel), (zgw_of 922 (by decide +kernel) rfl), (zgw_of 97 (by decide +kernel) rfl), ⟨by decide +kernel, by decide +kernel⟩, by decide +kernel, by decide⟩
theorem mi_X4_back : Cond.instanceMethod yX4_back ∈ zgw := (zgw_of 920 (by decide +kernel) rfl)
theorem mv_X4_back : Cond.selects RX4 yX4_back yX4_back ∈ zgw := (zgw_of 921 (by decide +kernel) rfl)
abbrev M_X4_forward : zM := (yX4_forward, cX4_forward, 1, some .boolean)
theorem md_X4_forward : zMd M_X4_forward 0 := ⟨plainFor_of_name (by decide +kernel), (zgw_of 932 (by decide +kernel) rfl), (zgw_of 97 (by decide +kernel) rfl), ⟨by decide +kernel, by decide +kernel⟩, by decide +kernel, by decide⟩
theorem mi_X4_forward : Cond.instanceMethod yX4_forward ∈ zgw := (zgw_of 930 (by decide +kernel) rfl)
theorem mv_X4_forward : Cond.selects RX4 yX4_forward yX4_forward ∈ zgw := (zgw_of 931 (by decide +kernel) rfl)
abbrev M_X4_dropOldest : zM := (yX4_dropOldest, cX4_dropOldest, 3, none)
theorem md_X4_dropOldest : zMd M_X4_dropOldest 0 := ⟨plainFor_of_name (by decide +kernel), (zgw_of 759 (by decide +kernel) rfl), (zgw_of 97 (by decide +kernel) rfl), ⟨by decide +kernel, by decide +kernel⟩, by decide +kernel, by decide⟩
theorem mi_X4_dropOldest : Cond.instanceMethod yX4_dropOldest ∈ zgw := (zgw_of 758 (by decide +kernel) rfl)
theorem mv_X4_dropOldest : Cond.selects RX4 yX4_dropOldest yX4_dropOldest ∈ zgw := (zgw_of 27 (by decide +kernel) rfl)
abbrev M_X5_init : zM := (yX5_init, cX5_init, 1, none)
theorem md_X5_init : zMd M_X5_init 0 := ⟨plainFor_of_name (by decide +kernel), (zgw_of 195 (by decide +kernel) rfl), (zgw_of 99 (by decide +kernel) rfl), ⟨by decide +kernel, by decide +kernel⟩, by decide +kernel, by decide⟩
theorem mi_X5_init : Cond.instanceMethod yX5_init ∈ zgw := (zgw_of 194 (by decide +kernel) rfl)
abbrev M_X5_reset : zM := (yX5_reset, cX5_reset, 2, none)
theorem md_X5_reset : zMd M_X5_reset 1 := ⟨plainFor_of_name (by decide +kernel), (zgw_of 495 (by decide +kernel) rfl), (zgw_of 99 (by decide +kernel) rfl), ⟨by decide +kernel, by decide +kernel⟩, by decide +kernel, by decide⟩
theorem mi_X5_reset : Cond.instanceMethod yX5_reset ∈ zgw := (zgw_of 493 (by decide +kernel) rfl)
theorem mv_X5_reset : Cond.selects RX5 yX5_reset yX5_reset ∈ zgw := (zgw_of 494 (by decide +kernel) rfl)
abbrev M_X5_isPlainInteger : zM := (yX5_isPlainInteger, cX5_isPlainInteger, 1, some .boolean)
theorem md_X5_isPlainInteger : zMd M_X5_isPlainInteger 0 := ⟨plainFor_of_name (by decide +kernel), (zgw_of 518 (by decide +kernel) rfl), (zgw_of 99 (by decide +kernel) rfl), ⟨by decide +kernel, by decide +kernel⟩, by decide +kernel, by decide⟩
theorem mi_X5_isPlainInteger : Cond.instanceMethod yX5_isPlainInteger ∈ zgw := (zgw_of 516 (by decide +kernel) rfl)
theorem mv_X5_isPlainInteger : Cond.selects RX5 yX5_isPlainInteger yX5_isPlainInteger ∈ zgw := (zgw_of 517 (by decide +kernel) rfl)
abbrev M_X6_init : zM := (yX6_init, cX6_init, 4, none)
theorem md_X6_init : zMd M_X6_init 2 := ⟨plainFor_of_name (by decide +kernel), (zgw_of 317 (by decide +kernel) rfl), (zgw_of 102 (by decide +kernel) rfl), ⟨by decide +kernel, by decide +kernel⟩, by decide +kernel, by decide⟩
theorem mi_X6_init : Cond.instanceMethod yX6_init ∈ zgw := (zgw_of 316 (by decide +kernel) rfl)
abbrev M_X6_compute : zM := (yX6_compute, cX6_compute, 4, none)
theorem md_X6_compute : zMd M_X6_compute 2 := ⟨plainFor_of_name (by decide +kernel), (zgw_of 673 (by decide +kernel) rfl), (zgw_of 102 (by decide +kernel) rfl), ⟨by decide +kernel, by decide +kernel⟩, by decide +kernel, by decide⟩
theorem mi_X6_compute : Cond.instanceMethod yX6_compute ∈ zgw := (zgw_of 671 (by decide +kernel) rfl)
theorem mv_X6_compute : Cond.selects RX6 yX6_compute yX6_compute ∈ zgw := (zgw_of 672 (by decide +kernel) rfl)
abbrev M_X6_makeStep : zM := (yX6_makeStep, cX6_makeStep, 1, some .boolean)
theorem md_X6_makeStep : zMd M_X6_makeStep 0 := ⟨plainFor_of_name (by decide +kernel), (zgw_of 681 (by decide +kernel) rfl), (zgw_of 102 (by decide +kernel) rfl), ⟨by decide +kernel, by decide +kernel⟩, by decide +kernel, by decide⟩
theorem mi_X6_makeStep : Cond.instanceMethod yX6_makeStep ∈ zgw := (zgw_of 680 (by decide +kernel) rfl)
theorem mv_X6_makeStep : Cond.selects RX6 yX6_makeStep yX6_makeStep ∈ zgw := (zgw_of 20 (by decide +kernel) rfl)
abbrev M_X6_goThrough : zM := (yX6_goThrough, cX6_goThrough, 4, none)
theorem md_X6_goThrough : zMd M_X6_goThrough 2 := ⟨plainFor_of_name (by decide +kernel), (zgw_of 677 (by decide +kernel) rfl), (zgw_of 102 (by decide +kernel) rfl), ⟨by decide +kernel, by decide +kernel⟩, by decide +kernel, by decide⟩
theorem mi_X6_goThrough : Cond.instanceMethod yX6_goThrough ∈ zgw := (zgw_of 676 (by decide +kernel) rfl)
theorem mv_X6_goThrough : Cond.selects RX6 yX6_goThrough yX6_goThrough ∈ zgw := (zgw_of 19 (by decide +kernel) rfl)
abbrev M_X6_repeatStructure : zM := (yX6_repeatStructure, cX6_repeatStructure, 7, none)
theorem md_X6_repeatStructure : zMd M_X6_repeatStructure 2 := ⟨plainFor_of_name (by decide +kernel), (zgw_of 685 (by decide +kernel) rfl), (zgw_of 102 (by decide +kernel) rfl), ⟨by decide +kernel, by decide +kernel⟩, by decide +kernel, by decide⟩
theorem mi_X6_repeatStructure : Cond.instanceMethod yX6_repeatStructure ∈ zgw := (zgw_of 684 (by decide +kernel) rfl)
theorem mv_X6_repeatStructure : Cond.selects RX6 yX6_repeatStructure yX6_repeatStructure ∈ zgw := (zgw_of 21 (by decide +kernel) rfl)
abbrev M_X6_repetitionsOf : zM := (yX6_repetitionsOf, cX6_repetitionsOf, 2, some .int)
theorem md_X6_repetitionsOf : zMd M_X6_repetitionsOf 1 := ⟨plainFor_of_name (by decide +kernel), (zgw_of 689 (by decide +kernel) rfl), (zgw_of 102 (by decide +kernel) rfl), ⟨by decide +kernel, by decide +kernel⟩, by decide +kernel, by decide⟩
theorem mi_X6_repetitionsOf : Cond.instanceMethod yX6_repetitionsOf ∈ zgw := (zgw_of 688 (by decide +kernel) rfl)
theorem mv_X6_repetitionsOf : Cond.selects RX6 yX6_repetitionsOf yX6_repetitionsOf ∈ zgw := (zgw_of 22 (by decide +kernel) rfl)
abbrev M_X6_align : zM := (yX6_align, cX6_align, 3, none)
theorem md_X6_align : zMd M_X6_align 1 := ⟨plainFor_of_name (by decide +kernel), (zgw_of 701 (by decide +kernel) rfl), (zgw_of 102 (by decide +kernel) rfl), ⟨by decide +kernel, by decide +kernel⟩, by decide +kernel, by decide⟩
theorem mi_X6_align : Cond.instanceMethod yX6_align ∈ zgw := (zgw_of 700 (by decide +kernel) rfl)
theorem mv_X6_align : Cond.selects RX6 yX6_align yX6_align ∈ zgw := (zgw_of 23 (by decide +kernel) rfl)
abbrev M_X6_layFields : zM := (yX6_layFields, cX6_layFields, 6, none)
theorem md_X6_layFields : zMd M_X6_layFields 2 := ⟨plainFor_of_name (by decide +kernel), (zgw_of 705 (by decide +kernel) rfl), (zgw_of 102 (by decide +kernel) rfl), ⟨by decide +kernel, by decide +kernel⟩, by decide +kernel, by decide⟩
theorem mi_X6_layFields : Cond.instanceMethod yX6_layFields ∈ zgw := (zgw_of 704 (by decide +kernel) rfl)
theorem mv_X6_layFields : Cond.selects RX6 yX6_layFields yX6_layFields ∈ zgw := (zgw_of 24 (by decide +kernel) rfl)
abbrev M_X6_layField : zM := (yX6_layField, cX6_layField, 4, none)
theorem md_X6_layField : zMd M_X6_layField 2 := ⟨plainFor_of_name (by decide +kernel), (zgw_of 709 (by decide +kernel) rfl), (zgw_of 102 (by decide +kernel) rfl), ⟨by decide +kernel, by decide +kernel⟩, by decide +kernel, by decide⟩
theorem mi_X6_layField : Cond.instanceMethod yX6_layField ∈ zgw := (zgw_of 708 (by decide +kernel) rfl)
theorem mv_X6_layField : Cond.selects RX6 yX6_layField yX6_layField ∈ zgw := (zgw_of 25 (by decide +kernel) rfl)
abbrev M_X6_seek : zM := (yX6_seek, cX6_seek, 2, none)
theorem md_X6_seek : zMd M_X6_seek 1 := ⟨plainFor_of_name (by decide +kernel), (zgw_of 867 (by decide +kernel) rfl), (zgw_of 102 (by decide +kernel) rfl), ⟨by decide +kernel, by decide +kernel⟩, by decide +kernel, by decide⟩
theorem mi_X6_seek : Cond.instanceMethod yX6_seek ∈ zgw := (zgw_of 865 (by decide +kernel) rfl)
theorem mv_X6_seek : Cond.selects RX6 yX6_seek yX6_seek ∈ zgw := (zgw_of 866 (by decide +kernel) rfl)
abbrev M_X6_firstSought : zM := (yX6_firstSought, cX6_firstSought, 2, some .int)
theorem md_X6_firstSought : zMd M_X6_firstSought 0 := ⟨plainFor_of_name (by decide +kernel), (zgw_of 871 (by decide +kernel) rfl), (zgw_of 102 (by decide +kernel) rfl), ⟨by decide +kernel, by decide +kernel⟩, by decide +kernel, by decide⟩
theorem mi_X6_firstSought : Cond.instanceMethod yX6_firstSought ∈ zgw := (zgw_of 869 (by decide +kernel) rfl)
theorem mv_X6_firstSought : Cond.selects RX6 yX6_firstSought yX6_firstSought ∈ zgw := (zgw_of 870 (by decide +kernel) rfl)
abbrev M_X6_isSought : zM := (yX6_isSought, cX6_isSought, 3, some .boolean)
theorem md_X6_isSought : zMd M_X6_isSought 1 := ⟨plainFor_of_name (by decide +kernel), (zgw_of 875 (by decide +kernel) rfl), (zgw_of 102 (by decide +kernel) rfl), ⟨by decide +kernel, by decide +kernel⟩, by decide +kernel, by decide⟩
theorem mi_X6_isSought : Cond.instanceMethod yX6_isSought ∈ zgw := (zgw_of 874 (by decide +kernel) rfl)
theorem mv_X6_isSought : Cond.selects RX6 yX6_isSought yX6_isSought ∈ zgw := (zgw_of 32 (by decide +kernel) rfl)
abbrev M_X7_init : zM := (yX7_init, cX7_init, 1, none)
theorem md_X7_init : zMd M_X7_init 0 := ⟨plainFor_of_name (by decide +kernel), (zgw_of 301 (by decide +kernel) rfl), (zgw_of 101 (by decide +kernel) rfl), ⟨by decide +kernel, by decide +kernel⟩, by decide +kernel, by decide⟩
theorem mi_X7_init : Cond.instanceMethod yX7_init ∈ zgw := (zgw_of 300 (by decide +kernel) rfl)
abbrev M_X7_faultOf : zM := (yX7_faultOf, cX7_faultOf, 5, some .int)
theorem md_X7_faultOf : zMd M_X7_faultOf 1 := ⟨plainFor_of_name (by decide +kernel), (zgw_of 593 (by decide +kernel) rfl), (zgw_of 101 (by decide +kernel) rfl), ⟨by decide +kernel, by decide +kernel⟩, by decide +kernel, by decide⟩
theorem mi_X7_faultOf : Cond.instanceMethod yX7_faultOf ∈ zgw := (zgw_of 591 (by decide +kernel) rfl)
theorem mv_X7_faultOf : Cond.selects RX7 yX7_faultOf yX7_faultOf ∈ zgw := (zgw_of 592 (by decide +kernel) rfl)
abbrev M_X7_fits : zM := (yX7_fits, cX7_fits, 5, some .boolean)
theorem md_X7_fits : zMd M_X7_fits 2 := ⟨plainFor_of_name (by decide +kernel), (zgw_of 605 (by decide +kernel) rfl), (zgw_of 101 (by decide +kernel) rfl), ⟨by decide +kernel, by decide +kernel⟩, by decide +kernel, by decide⟩
theorem mi_X7_fits : Cond.instanceMethod yX7_fits ∈ zgw := (zgw_of 603 (by decide +kernel) rfl)
theorem mv_X7_fits : Cond.selects RX7 yX7_fits yX7_fits ∈ zgw := (zgw_of 604 (by decide +kernel) rfl)
abbrev M_X7_fitsDigit : zM := (yX7_fitsDigit, cX7_fitsDigit, 2, some .boolean)
theorem md_X7_fitsDigit : zMd M_X7_fitsDigit 2 := ⟨plainFor_of_name (by decide +kernel), (zgw_of 608 (by decide +kernel) rfl), (zgw_of 101 (by decide +kernel) rfl), ⟨by decide +kernel, by decide +kernel⟩, by decide +kernel, by decide⟩
theorem ms_X7_fitsDigit : Cond.static yX7_fitsDigit ∈ zgw := (zgw_of 607 (by decide +kernel) rfl)
abbrev M_X7_digitOf : zM := (yX7_digitOf, cX7_digitOf, 1, some .int)
theorem md_X7_digitOf : zMd M_X7_digitOf 1 := ⟨plainFor_of_name (by decide +kernel), (zgw_of 597 (by decide +kernel) rfl), (zgw_of 101 (by decide +kernel) rfl), ⟨by decide +kernel, by decide +kernel⟩, by decide +kernel, by decide⟩
theorem ms_X7_digitOf : Cond.static yX7_digitOf ∈ zgw := (zgw_of 596 (by decide +kernel) rfl)
abbrev M_X8_init : zM := (yX8_init, cX8_init, 2, none)
theorem md_X8_init : zMd M_X8_init 0 := ⟨plainFor_of_name (by decide +kernel), (zgw_of 188 (by decide +kernel) rfl), (zgw_of 98 (by decide +kernel) rfl), ⟨by decide +kernel, by decide +kernel⟩, by decide +kernel, by decide⟩
theorem mi_X8_init : Cond.instanceMethod yX8_init ∈ zgw := (zgw_of 187 (by decide +kernel) rfl)
abbrev M_X8_append : zM := (yX8_append, cX8_append, 2, some .int)
theorem md_X8_append : zMd M_X8_append 1 := ⟨plainFor_of_name (by decide +kernel), (zgw_of 491 (by decide +kernel) rfl), (zgw_of 98 (by decide +kernel) rfl), ⟨by decide +kernel, by decide +kernel⟩, by decide +kernel, by decide⟩
theorem mi_X8_append : Cond.instanceMethod yX8_append ∈ zgw := (zgw_of 489 (by decide +kernel) rfl)
theorem mv_X8_append : Cond.selects RX8 yX8_append yX8_append ∈ zgw := (zgw_of 490 (by decide +kernel) rfl)
abbrev M_X8_sibling : zM := (yX8_sibling, cX8_sibling, 4, some .int)
theorem md_X8_sibling : zMd M_X8_sibling 2 := ⟨plainFor_of_name (by decide +kernel), (zgw_of 545 (by decide +kernel) rfl), (zgw_of 98 (by decide +kernel) rfl), ⟨by decide +kernel, by decide +kernel⟩, by decide +kernel, by decide⟩
theorem mi_X8_sibling : Cond.instanceMethod yX8_sibling ∈ zgw := (zgw_of 543 (by decide +kernel) rfl)
theorem mv_X8_sibling : Cond.selects RX8 yX8_sibling yX8_sibling ∈ zgw := (zgw_of 544 (by decide +kernel) rfl)
abbrev M_X8_lookUp : zM := (yX8_lookUp, cX8_lookUp, 5, some .int)
theorem md_X8_lookUp : zMd M_X8_lookUp 2 := ⟨plainFor_of_name (by decide +kernel), (zgw_of 514 (by decide +kernel) rfl), (zgw_of 98 (by decide +kernel) rfl), ⟨by decide +kernel, by decide +kernel⟩, by decide +kernel, by decide⟩
theorem mi_X8_lookUp : Cond.instanceMethod yX8_lookUp ∈ zgw := (zgw_of 512 (by decide +kernel) rfl)
theorem mv_X8_lookUp : Cond.selects RX8 yX8_lookUp yX8_lookUp ∈ zgw := (zgw_of 513 (by decide +kernel) rfl)
abbrev M_X9_init : zM := (yX9_init, cX9_init, 3, none)
theorem md_X9_init : zMd M_X9_init 2 := ⟨plainFor_of_name (by decide +kernel), (zgw_of 279 (by decide +kernel) rfl), (zgw_of 100 (by decide +kernel) rfl), ⟨by decide +kernel, by decide +kernel⟩, by decide +kernel, by decide⟩
theorem mi_X9_init : Cond.instanceMethod yX9_init ∈ zgw := (zgw_of 278 (by decide +kernel) rfl)
abbrev M_X9_faultOf : zM := (yX9_faultOf, cX9_faultOf, 2, some .int)
theorem md_X9_faultOf : zMd M_X9_faultOf 1 := ⟨plainFor_of_name (by decide +kernel), (zgw_of 474 (by decide +kernel) rfl), (zgw_of 100 (by decide +kernel) rfl), ⟨by decide +kernel, by decide +kernel⟩, by decide +kernel, by decide⟩
theorem mi_X9_faultOf : Cond.instanceMethod yX9_faultOf ∈ zgw := (zgw_of 472 (by decide +kernel) rfl)
theorem mv_X9_faultOf : Cond.selects RX9 yX9_faultOf yX9_faultOf ∈ zgw := (zgw_of 473 (by decide +kernel) rfl)
abbrev M_X9_moveTo : zM := (yX9_moveTo, cX9_moveTo, 2, none)
theorem md_X9_moveTo : zMd M_X9_moveTo 1 := ⟨plainFor_of_name (by decide +kernel), (zgw_of 478 (by decide +kernel) rfl), (zgw_of 100 (by decide +kernel) rfl), ⟨by decide +kernel, by decide +kernel⟩, by decide +kernel, by decide⟩
theorem mi_X9_moveTo : Cond.instanceMethod yX9_moveTo ∈ zgw := (zgw_of 477 (by decide +kernel) rfl)
theorem mv_X9_moveTo : Cond.selects RX9 yX9_moveTo yX9_moveTo ∈ zgw := (zgw_of 0 (by decide +kernel) rfl)
abbrev M_X9_refuse : zM := (yX9_refuse, cX9_refuse, 2, some .boolean)
theorem md_X9_refuse : zMd M_X9_refuse 1 := ⟨plainFor_of_name (by decide +kernel), (zgw_of 499 (by decide +kernel) rfl), (zgw_of 100 (by decide +kernel) rfl), ⟨by decide +kernel, by decide +kernel⟩, by decide +kernel, by decide⟩
theorem mi_X9_refuse : Cond.instanceMethod yX9_refuse ∈ zgw := (zgw_of 498 (by decide +kernel) rfl)
theorem mv_X9_refuse : Cond.selects RX9 yX9_refuse yX9_refuse ∈ zgw := (zgw_of 3 (by decide +kernel) rfl)
abbrev M_X9_parseSign : zM := (yX9_parseSign, cX9_parseSign, 2, some .boolean)
theorem md_X9_parseSign : zMd M_X9_parseSign 1 := ⟨plainFor_of_name (by decide +kernel), (zgw_of 522 (by decide +kernel) rfl), (zgw_of 100 (by decide +kernel) rfl), ⟨by decide +kernel, by decide +kernel⟩, by decide +kernel, by decide⟩
theorem mi_X9_parseSign : Cond.instanceMethod yX9_parseSign ∈ zgw := (zgw_of 521 (by decide +kernel) rfl)
theorem mv_X9_parseSign : Cond.selects RX9 yX9_parseSign yX9_parseSign ∈ zgw := (zgw_of 6 (by decide +kernel) rfl)
abbrev M_X9_parseBlock : zM := (yX9_parseBlock, cX9_parseBlock, 5, some .boolean)
theorem md_X9_parseBlock : zMd M_X9_parseBlock 2 := ⟨plainFor_of_name (by decide +kernel), (zgw_of 483 (by decide +kernel) rfl), (zgw_of 100 (by decide +kernel) rfl), ⟨by decide +kernel, by decide +kernel⟩, by decide +kernel, by decide⟩
theorem mi_X9_parseBlock : Cond.instanceMethod yX9_parseBlock ∈ zgw := (zgw_of 482 (by decide +kernel) rfl)
theorem mv_X9_parseBlock : Cond.selects RX9 yX9_parseBlock yX9_parseBlock ∈ zgw := (zgw_of 1 (by decide +kernel) rfl)
abbrev M_X9_parseItem : zM := (yX9_parseItem, cX9_parseItem, 5, some .boolean)
theorem md_X9_parseItem : zMd M_X9_parseItem 2 := ⟨plainFor_of_name (by decide +kernel), (zgw_of 487 (by decide +kernel) rfl), (zgw_of 100 (by decide +kernel) rfl), ⟨by decide +kernel, by decide +kernel⟩, by decide +kernel, by decide⟩
theorem mi_X9_parseItem : Cond.instanceMethod yX9_parseItem ∈ zgw := (zgw_of 486 (by decide +kernel) rfl)
theorem mv_X9_parseItem : Cond.selects RX9 yX9_parseItem yX9_parseItem ∈ zgw := (zgw_of 2 (by decide +kernel) rfl)
abbrev M_X9_parseCondition : zM := (yX9_parseCondition, cX9_parseCondition, 4, some .boolean)
theorem md_X9_parseCondition : zMd M_X9_parseCondition 1 := ⟨plainFor_of_name (by decide +kernel), (zgw_of 503 (by decide +kernel) rfl), (zgw_of 100 (by decide +kernel) rfl), ⟨by decide +kernel, by decide +kernel⟩, by decide +kernel, by decide⟩
theorem mi_X9_parseCondition : Cond.instanceMethod yX9_parseCondition ∈ zgw := (zgw_of 502 (by decide +kernel) rfl)
theorem mv_X9_parseCondition : Cond.selects RX9 yX9_parseCondition yX9_parseCondition ∈ zgw := (zgw_of 4 (by decide +kernel) rfl)
abbrev M_X9_parseGap : zM := (yX9_parseGap, cX9_parseGap, 3, some .boolean)
theorem md_X9_parseGap : zMd M_X9_parseGap 1 := ⟨plainFor_of_name (by decide +kernel), (zgw_of 537 (by decide +kernel) rfl), (zgw_of 100 (by decide +kernel) rfl), ⟨by decide +kernel, by decide +kernel⟩, by decide +kernel, by decide⟩
theorem mi_X9_parseGap : Cond.instanceMethod yX9_parseGap ∈ zgw := (zgw_of 536 (by decide +kernel) rfl)
theorem mv_X9_parseGap : Cond.selects RX9 yX9_parseGap yX9_parseGap ∈ zgw := (zgw_of 8 (by decide +kernel) rfl)
abbrev M_X9_parseName : zM := (yX9_parseName, cX9_parseName, 2, some .boolean)
theorem md_X9_parseName : zMd M_X9_parseName 1 := ⟨plainFor_of_name (by decide +kernel), (zgw_of 541 (by decide +kernel) rfl), (zgw_of 100 (by decide +kernel) rfl), ⟨by decide +kernel, by decide +kernel⟩, by decide +kernel, by decide⟩
theorem mi_X9_parseName : Cond.instanceMethod yX9_parseName ∈ zgw := (zgw_of 540 (by decide +kernel) rfl)
theorem mv_X9_parseName : Cond.selects RX9 yX9_parseName yX9_parseName ∈ zgw := (zgw_of 9 (by decide +kernel) rfl)
abbrev M_X9_parseType : zM := (yX9_parseType, cX9_parseType, 4, some .boolean)
theorem md_X9_parseType : zMd M_X9_parseType 2 := ⟨plainFor_of_name (by decide +kernel), (zgw_of 549 (by decide +kernel) rfl), (zgw_of 100 (by decide +kernel) rfl), ⟨by decide +kernel, by decide +kernel⟩, by decide +kernel, by decide⟩
theorem mi_X9_parseType : Cond.instanceMethod yX9_parseType ∈ zgw := (zgw_of 548 (by decide +kernel) rfl)
theorem mv_X9_parseType : Cond.selects RX9 yX9_parseType yX9_parseType ∈ zgw := (zgw_of 10 (by decide +kernel) rfl)
abbrev M_X9_parseInteger : zM := (yX9_parseInteger, cX9_parseInteger, 2, some .boolean)
theorem md_X9_parseInteger : zMd M_X9_parseInteger 1 := ⟨plainFor_of_name (by decide +kernel), (zgw_of 553 (by decide +kernel) rfl), (zgw_of 100 (by decide +kernel) rfl), ⟨by decide +kernel, by decide +kernel⟩, by decide +kernel, by decide⟩
theorem mi_X9_parseInteger : Cond.instanceMethod yX9_parseInteger ∈ zgw := (zgw_of 552 (by decide +kernel) rfl)
theorem mv_X9_parseInteger : Cond.selects RX9 yX9_parseInteger yX9_parseInteger ∈ zgw := (zgw_of 11 (by decide +kernel) rfl)
abbrev M_X9_parseStructure : zM := (yX9_parseStructure, cX9_parseStructure, 3, some .boolean)
theorem md_X9_parseStructure : zMd M_X9_parseStructure 2 := ⟨plainFor_of_name (by decide +kernel), (zgw_of 561 (by decide +kernel) rfl), (zgw_of 100 (by decide +kernel) rfl), ⟨by decide +kernel, by decide +kernel⟩, by decide +kernel, by decide⟩
theorem mi_X9_parseStructure : Cond.instanceMethod yX9_parseStructure ∈ zgw := (zgw_of 560 (by decide +kernel) rfl)
theorem mv_X9_parseStructure : Cond.selects RX9 yX9_parseStructure yX9_parseStructure ∈ zgw := (zgw_of 13 (by decide +kernel) rfl)
abbrev M_X9_parseCheck : zM := (yX9_parseCheck, cX9_parseCheck, 5, some .boolean)
theorem md_X9_parseCheck : zMd M_X9_parseCheck 3 := ⟨plainFor_of_name (by decide +kernel), (zgw_of 565 (by decide +kernel) rfl), (zgw_of 100 (by decide +kernel) rfl), ⟨by decide +kernel, by decide +kernel⟩, by decide +kernel, by decide⟩
theorem mi_X9_parseCheck : Cond.instanceMethod yX9_parseCheck ∈ zgw := (zgw_of 564 (by decide +kernel) rfl)
theorem mv_X9_parseCheck : Cond.selects RX9 yX9_parseCheck yX9_parseCheck ∈ zgw := (zgw_of 14 (by decide +kernel) rfl)
abbrev M_X9_parseSibling : zM := (yX9_parseSibling, cX9_parseSibling, 4, some .int)
theorem md_X9_parseSibling : zMd M_X9_parseSibling 2 := ⟨plainFor_of_name (by decide +kernel), (zgw_of 569 (by decide +kernel) rfl), (zgw_of 100 (by decide +kernel) rfl), ⟨by decide +kernel, by decide +kernel⟩, by decide +kernel, by decide⟩
theorem mi_X9_parseSibling : Cond.instanceMethod yX9_parseSibling ∈ zgw := (zgw_of 568 (by decide +kernel) rfl)
theorem mv_X9_parseSibling : Cond.selects RX9 yX9_parseSibling yX9_parseSibling ∈ zgw := (zgw_of 15 (by decide +kernel) rfl)
abbrev M_X9_parseCount : zM := (yX9_parseCount, cX9_parseCount, 3, some .boolean)
theorem md_X9_parseCount : zMd M_X9_parseCount 1 := ⟨plainFor_of_name (by decide +kernel), (zgw_of 557 (by decide +kernel) rfl), (zgw_of 100 (by decide +kernel) rfl), ⟨by decide +kernel, by decide +kernel⟩, by decide +kernel, by decide⟩
theorem mi_X9_parseCount : Cond.instanceMethod yX9_parseCount ∈ zgw := (zgw_of 556 (by decide +kernel) rfl)
theorem mv_X9_parseCount : Cond.selects RX9 yX9_parseCount yX9_parseCount ∈ zgw := (zgw_of 12 (by decide +kernel) rfl)
abbrev M_X9_parseReference : zM := (yX9_parseReference, cX9_parseReference, 3, some .int)
theorem md_X9_parseReference : zMd M_X9_parseReference 1 := ⟨plainFor_of_name (by decide +kernel), (zgw_of 507 (by decide +kernel) rfl), (zgw_of 100 (by decide +kernel) rfl), ⟨by decide +kernel, by decide +kernel⟩, by decide +kernel, by decide⟩
theorem mi_X9_parseReference : Cond.instanceMethod yX9_parseReference ∈ zgw := (zgw_of 506 (by decide +kernel) rfl)
theorem mv_X9_parseReference : Cond.selects RX9 yX9_parseReference yX9_parseReference ∈ zgw := (zgw_of 5 (by decide +kernel) rfl)
abbrev M_X9_parseNumber : zM := (yX9_parseNumber, cX9_parseNumber, 4, some .int)
theorem md_X9_parseNumber : zMd M_X9_parseNumber 0 := ⟨plainFor_of_name (by decide +kernel), (zgw_of 526 (by decide +kernel) rfl), (zgw_of 100 (by decide +kernel) rfl), ⟨by decide +kernel, by decide +kernel⟩, by decide +kernel, by decide⟩
theorem mi_X9_parseNumber : Cond.instanceMethod yX9_parseNumber ∈ zgw := (zgw_of 525 (by decide +kernel) rfl)
theorem mv_X9_parseNumber : Cond.selects RX9 yX9_parseNumber yX9_parseNumber ∈ zgw := (zgw_of 7 (by decide +kernel) rfl)
abbrev M_X9_isName : zM := (yX9_isName, cX9_isName, 1, some .boolean)
theorem md_X9_isName : zMd M_X9_isName 1 := ⟨plainFor_of_name (by decide +kernel), (zgw_of 510 (by decide +kernel) rfl), (zgw_of 100 (by decide +kernel) rfl), ⟨by decide +kernel, by decide +kernel⟩, by decide +kernel, by decide⟩
theorem ms_X9_isName : Cond.static yX9_isName ∈ zgw := (zgw_of 509 (by decide +kernel) rfl)
abbrev M_X9_isDigit : zM := (yX9_isDigit, cX9_isDigit, 1, some .boolean)
theorem md_X9_isDigit : zMd M_X9_isDigit 1 := ⟨plainFor_of_name (by decide +kernel), (zgw_of 529 (by decide +kernel) rfl), (zgw_of 100 (by decide +kernel) rfl), ⟨by decide +kernel, by decide +kernel⟩, by decide +kernel, by decide⟩
theorem ms_X9_isDigit : Cond.static yX9_isDigit ∈ zgw := (zgw_of 528 (by decide +kernel) rfl)
abbrev M_X10_init : zM := (yX10_init, cX10_init, 2, none)
theorem md_X10_init : zMd M_X10_init 0 := ⟨plainFor_of_name (by decide +kernel), (zgw_of 111 (by decide +kernel) rfl), (zgw_of 93 (by decide +kernel) rfl), ⟨by decide +kernel, by decide +kernel⟩, by decide +kernel, by decide⟩
theorem mi_X10_init : Cond.instanceMethod yX10_init ∈ zgw := (zgw_of 110 (by decide +kernel) rfl)
abbrev M_X10_type : zM := (yX10_type, cX10_type, 2, some .int)
theorem md_X10_type : zMd M_X10_type 1 := ⟨plainFor_of_name (by decide +kernel), (zgw_of 455 (by decide +kernel) rfl), (zgw_of 93 (by decide +kernel) rfl), ⟨by decide +kernel, by decide +kernel⟩, by decide +kernel, by decide⟩
theorem mi_X10_type : Cond.instanceMethod yX10_type ∈ zgw := (zgw_of 453 (by decide +kernel) rfl)
theorem mv_X10_type : Cond.selects RX10 yX10_type yX10_type ∈ zgw := (zgw_of 454 (by decide +kernel) rfl)
abbrev M_X10_clearText : zM := (yX10_clearText, cX10_clearText, 2, some .int)
theorem md_X10_clearText : zMd M_X10_clearText 0 := ⟨plainFor_of_name (by decide +kernel), (zgw_of 466 (by decide +kernel) rfl), (zgw_of 93 (by decide +kernel) rfl), ⟨by decide +kernel, by decide +kernel⟩, by decide +kernel, by decide⟩
theorem mi_X10_clearText : Cond.instanceMethod yX10_clearText ∈ zgw := (zgw_of 464 (by decide +kernel) rfl)
theorem mv_X10_clearText : Cond.selects RX10 yX10_clearText yX10_clearText ∈ zgw := (zgw_of 465 (by decide +kernel) rfl)
abbrev M_X10_templateFault : zM := (yX10_templateFault, cX10_templateFault, 1, some .int)
theorem md_X10_templateFault : zMd M_X10_templateFault 0 := ⟨plainFor_of_name (by decide +kernel), (zgw_of 470 (by decide +kernel) rfl), (zgw_of 93 (by decide +kernel) rfl), ⟨by decide +kernel, by decide +kernel⟩, by decide +kernel, by decide⟩
theorem mi_X10_templateFault : Cond.instanceMethod yX10_templateFault ∈ zgw := (zgw_of 468 (by decide +kernel) rfl)
theorem mv_X10_templateFault : Cond.selects RX10 yX10_templateFault yX10_templateFault ∈ zgw := (zgw_of 469 (by decide +kernel) rfl)
abbrev M_X10_define : zM := (yX10_define, cX10_define, 3, some .int)
theorem md_X10_define : zMd M_X10_define 1 := ⟨plainFor_of_name (by decide +kernel), (zgw_of 573 (by decide +kernel) rfl), (zgw_of 93 (by decide +kernel) rfl), ⟨by decide +kernel, by decide +kernel⟩, by decide +kernel, by decide⟩
theorem mi_X10_define : Cond.instanceMethod yX10_define ∈ zgw := (zgw_of 571 (by decide +kernel) rfl)
theorem mv_X10_define : Cond.selects RX10 yX10_define yX10_define ∈ zgw := (zgw_of 572 (by decide +kernel) rfl)
abbrev M_X10_items : zM := (yX10_items, cX10_items, 2, some .int)
theorem md_X10_items : zMd M_X10_items 1 := ⟨plainFor_of_name (by decide +kernel), (zgw_of 585 (by decide +kernel) rfl), (zgw_of 93 (by decide +kernel) rfl), ⟨by decide +kernel, by decide +kernel⟩, by decide +kernel, by decide⟩
theorem mi_X10_items : Cond.instanceMethod yX10_items ∈ zgw := (zgw_of 583 (by decide +kernel) rfl)
theorem mv_X10_items : Cond.selects RX10 yX10_items yX10_items ∈ zgw := (zgw_of 584 (by decide +kernel) rfl)
abbrev M_X10_patternFault : zM := (yX10_patternFault, cX10_patternFault, 1, some .int)
theorem md_X10_patternFault : zMd M_X10_patternFault 0 := ⟨plainFor_of_name (by decide +kernel), (zgw_of 589 (by decide +kernel) rfl), (zgw_of 93 (by decide +kernel) rfl), ⟨by decide +kernel, by decide +kernel⟩, by decide +kernel, by decide⟩
theorem mi_X10_patternFault : Cond.instanceMethod yX10_patternFault ∈ zgw := (zgw_of 587 (by decide +kernel) rfl)
theorem mv_X10_patternFault : Cond.selects RX10 yX10_patternFault yX10_patternFault ∈ zgw := (zgw_of 588 (by decide +kernel) rfl)
abbrev M_X10_find : zM := (yX10_find, cX10_find, 3, some .int)
theorem md_X10_find : zMd M_X10_find 1 := ⟨plainFor_of_name (by decide +kernel), (zgw_of 601 (by decide +kernel) rfl), (zgw_of 93 (by decide +kernel) rfl), ⟨by decide +kernel, by decide +kernel⟩, by decide +kernel, by decide⟩
theorem mi_X10_find : Cond.instanceMethod yX10_find ∈ zgw := (zgw_of 599 (by decide +kernel) rfl)
theorem mv_X10_find : Cond.selects RX10 yX10_find yX10_find ∈ zgw := (zgw_of 600 (by decide +kernel) rfl)
abbrev M_X10_matches : zM := (yX10_matches, cX10_matches, 3, some .int)
theorem md_X10_matches : zMd M_X10_matches 0 := ⟨plainFor_of_name (by decide +kernel), (zgw_of 612 (by decide +kernel) rfl), (zgw_of 93 (by decide +kernel) rfl), ⟨by decide +kernel, by decide +kernel⟩, by decide +kernel, by decide⟩
theorem mi_X10_matches : Cond.instanceMethod yX10_matches ∈ zgw := (zgw_of 610 (by decide +kernel) rfl)
theorem mv_X10_matches : Cond.selects RX10 yX10_matches yX10_matches ∈ zgw := (zgw_of 611 (by decide +kernel) rfl)
abbrev M_X10_length : zM := (yX10_length, cX10_length, 1, some .int)
theorem md_X10_length : zMd M_X10_length 0 := ⟨plainFor_of_name (by decide +kernel), (zgw_of 616 (by decide +kernel) rfl), (zgw_of 93 (by decide +kernel) rfl), ⟨by decide +kernel, by decide +kernel⟩, by decide +kernel, by decide⟩
theorem mi_X10_length : Cond.instanceMethod yX10_length ∈ zgw := (zgw_of 614 (by decide +kernel) rfl)
theorem mv_X10_length : Cond.selects RX10 yX10_length yX10_length ∈ zgw := (zgw_of 615 (by decide +kernel) rfl)
abbrev M_X10_byteAt : zM := (yX10_byteAt, cX10_byteAt, 2, some .int)
theorem md_X10_byteAt : zMd M_X10_byteAt 1 := ⟨plainFor_of_name (by decide +kernel), (zgw_of 620 (by decide +kernel) rfl), (zgw_of 93 (by decide +kernel) rfl), ⟨by decide +kernel, by decide +kernel⟩, by decide +kernel, by decide⟩
theorem mi_X10_byteAt : Cond.instanceMethod yX10_byteAt ∈ zgw := (zgw_of 618 (by decide +kernel) rfl)
theorem mv_X10_byteAt : Cond.selects RX10 yX10_byteAt yX10_byteAt ∈ zgw := (zgw_of 619 (by decide +kernel) rfl)
abbrev M_X10_insert : zM := (yX10_insert, cX10_insert, 6, some .int)
theorem md_X10_insert : zMd M_X10_insert 3 := ⟨plainFor_of_name (by decide +kernel), (zgw_of 629 (by decide +kernel) rfl), (zgw_of 93 (by decide +kernel) rfl), ⟨by decide +kernel, by decide +kernel⟩, by decide +kernel, by decide⟩
theorem mi_X10_insert : Cond.instanceMethod yX10_insert ∈ zgw := (zgw_of 627 (by decide +kernel) rfl)
theorem mv_X10_insert : Cond.selects RX10 yX10_insert yX10_insert ∈ zgw := (zgw_of 628 (by decide +kernel) rfl)
abbrev M_X10_delete : zM := (yX10_delete, cX10_delete, 4, some .int)
theorem md_X10_delete : zMd M_X10_delete 2 := ⟨plainFor_of_name (by decide +kernel), (zgw_of 763 (by decide +kernel) rfl), (zgw_of 93 (by decide +kernel) rfl), ⟨by decide +kernel, by decide +kernel⟩, by decide +kernel, by decide⟩
theorem mi_X10_delete : Cond.instanceMethod yX10_delete ∈ zgw := (zgw_of 761 (by decide +kernel) rfl)
theorem mv_X10_delete : Cond.selects RX10 yX10_delete yX10_delete ∈ zgw := (zgw_of 762 (by decide +kernel) rfl)
abbrev M_X10_overwrite : zM := (yX10_overwrite, cX10_overwrite, 5, some .int)
theorem md_X10_overwrite : zMd M_X10_overwrite 2 := ⟨plainFor_of_name (by decide +kernel), (zgw_of 776 (by decide +kernel) rfl), (zgw_of 93 (by decide +kernel) rfl), ⟨by decide +kernel, by decide +kernel⟩, by decide +kernel, by decide⟩
theorem mi_X10_overwrite : Cond.instanceMethod yX10_overwrite ∈ zgw := (zgw_of 774 (by decide +kernel) rfl)
theorem mv_X10_overwrite : Cond.selects RX10 yX10_overwrite yX10_overwrite ∈ zgw := (zgw_of 775 (by decide +kernel) rfl)
abbrev M_X10_copy : zM := (yX10_copy, cX10_copy, 4, some .int)
theorem md_X10_copy : zMd M_X10_copy 2 := ⟨plainFor_of_name (by decide +kernel), (zgw_of 780 (by decide +kernel) rfl), (zgw_of 93 (by decide +kernel) rfl), ⟨by decide +kernel, by decide +kernel⟩, by decide +kernel, by decide⟩
theorem mi_X10_copy : Cond.instanceMethod yX10_copy ∈ zgw := (zgw_of 778 (by decide +kernel) rfl)
theorem mv_X10_copy : Cond.selects RX10 yX10_copy yX10_copy ∈ zgw := (zgw_of 779 (by decide +kernel) rfl)
abbrev M_X10_paste : zM := (yX10_paste, cX10_paste, 3, some .int)
theorem md_X10_paste : zMd M_X10_paste 1 := ⟨plainFor_of_name (by decide +kernel), (zgw_of 788 (by decide +kernel) rfl), (zgw_of 93 (by decide +kernel) rfl), ⟨by decide +kernel, by decide +kernel⟩, by decide +kernel, by decide⟩
theorem mi_X10_paste : Cond.instanceMethod yX10_paste ∈ zgw := (zgw_of 786 (by decide +kernel) rfl)
theorem mv_X10_paste : Cond.selects RX10 yX10_paste yX10_paste ∈ zgw := (zgw_of 787 (by decide +kernel) rfl)
abbrev M_X10_pasteOver : zM := (yX10_pasteOver, cX10_pasteOver, 3, some .int)
theorem md_X10_pasteOver : zMd M_X10_pasteOver 1 := ⟨plainFor_of_name (by decide +kernel), (zgw_of 797 (by decide +kernel) rfl), (zgw_of 93 (by decide +kernel) rfl), ⟨by decide +kernel, by decide +kernel⟩, by decide +kernel, by decide⟩
theorem mi_X10_pasteOver : Cond.instanceMethod yX10_pasteOver ∈ zgw := (zgw_of 795 (by decide +kernel) rfl)
theorem mv_X10_pasteOver : Cond.selects RX10 yX10_pasteOver yX10_pasteOver ∈ zgw := (zgw_of 796 (by decide +kernel) rfl)
abbrev M_X10_lay : zM := (yX10_lay, cX10_lay, 4, some .int)
theorem md_X10_lay : zMd M_X10_lay 3 := ⟨plainFor_of_name (by decide +kernel), (zgw_of 801 (by decide +kernel) rfl), (zgw_of 93 (by decide +kernel) rfl), ⟨by decide +kernel, by decide +kernel⟩, by decide +kernel, by decide⟩
theorem mi_X10_lay : Cond.instanceMethod yX10_lay ∈ zgw := (zgw_of 799 (by decide +kernel) rfl)
theorem mv_X10_lay : Cond.selects RX10 yX10_lay yX10_lay ∈ zgw := (zgw_of 800 (by decide +kernel) rfl)
abbrev M_X10_remove : zM := (yX10_remove, cX10_remove, 3, some .int)
theorem md_X10_remove : zMd M_X10_remove 1 := ⟨plainFor_of_name (by decide +kernel), (zgw_of 809 (by decide +kernel) rfl), (zgw_of 93 (by decide +kernel) rfl), ⟨by decide +kernel, by decide +kernel⟩, by decide +kernel, by decide⟩
theorem mi_X10_remove : Cond.instanceMethod yX10_remove ∈ zgw := (zgw_of 807 (by decide +kernel) rfl)
theorem mv_X10_remove : Cond.selects RX10 yX10_remove yX10_remove ∈ zgw := (zgw_of 808 (by decide +kernel) rfl)
abbrev M_X10_overlay : zM := (yX10_overlay, cX10_overlay, 3, some .int)
theorem md_X10_overlay : zMd M_X10_overlay 2 := ⟨plainFor_of_name (by decide +kernel), (zgw_of 817 (by decide +kernel) rfl), (zgw_of 93 (by decide +kernel) rfl), ⟨by decide +kernel, by decide +kernel⟩, by decide +kernel, by decide⟩
theorem mi_X10_overlay : Cond.instanceMethod yX10_overlay ∈ zgw := (zgw_of 815 (by decide +kernel) rfl)
theorem mv_X10_overlay : Cond.selects RX10 yX10_overlay yX10_overlay ∈ zgw := (zgw_of 816 (by decide +kernel) rfl)
abbrev M_X10_field : zM := (yX10_field, cX10_field, 4, some .int)
theorem md_X10_field : zMd M_X10_field 3 := ⟨plainFor_of_name (by decide +kernel), (zgw_of 829 (by decide +kernel) rfl), (zgw_of 93 (by decide +kernel) rfl), ⟨by decide +kernel, by decide +kernel⟩, by decide +kernel, by decide⟩
theorem mi_X10_field : Cond.instanceMethod yX10_field ∈ zgw := (zgw_of 827 (by decide +kernel) rfl)
theorem mv_X10_field : Cond.selects RX10 yX10_field yX10_field ∈ zgw := (zgw_of 828 (by decide +kernel) rfl)
abbrev M_X10_value : zM := (yX10_value, cX10_value, 3, some .long)
theorem md_X10_value : zMd M_X10_value 2 := ⟨plainFor_of_name (by decide +kernel), (zgw_of 841 (by decide +kernel) rfl), (zgw_of 93 (by decide +kernel) rfl), ⟨by decide +kernel, by decide +kernel⟩, by decide +kernel, by decide⟩
theorem mi_X10_value : Cond.instanceMethod yX10_value ∈ zgw := (zgw_of 839 (by decide +kernel) rfl)
theorem mv_X10_value : Cond.selects RX10 yX10_value yX10_value ∈ zgw := (zgw_of 840 (by decide +kernel) rfl)
abbrev M_X10_path : zM := (yX10_path, cX10_path, 4, some .int)
theorem md_X10_path : zMd M_X10_path 3 := ⟨plainFor_of_name (by decide +kernel), (zgw_of 847 (by decide +kernel) rfl), (zgw_of 93 (by decide +kernel) rfl), ⟨by decide +kernel, by decide +kernel⟩, by decide +kernel, by decide⟩
theorem mi_X10_path : Cond.instanceMethod yX10_path ∈ zgw := (zgw_of 845 (by decide +kernel) rfl)
theorem mv_X10_path : Cond.selects RX10 yX10_path yX10_path ∈ zgw := (zgw_of 846 (by decide +kernel) rfl)
abbrev M_X10_fieldAt : zM := (yX10_fieldAt, cX10_fieldAt, 4, some .int)
theorem md_X10_fieldAt : zMd M_X10_fieldAt 2 := ⟨plainFor_of_name (by decide +kernel), (zgw_of 855 (by decide +kernel) rfl), (zgw_of 93 (by decide +kernel) rfl), ⟨by decide +kernel, by decide +kernel⟩, by decide +kernel, by decide⟩
theorem mi_X10_fieldAt : Cond.instanceMethod yX10_fieldAt ∈ zgw := (zgw_of 853 (by decide +kernel) rfl)
theorem mv_X10_fieldAt : Cond.selects RX10 yX10_fieldAt yX10_fieldAt ∈ zgw := (zgw_of 854 (by decide +kernel) rfl)
abbrev M_X10_counterpart : zM := (yX10_counterpart, cX10_counterpart, 4, some .int)
theorem md_X10_counterpart : zMd M_X10_counterpart 3 := ⟨plainFor_of_name (by decide +kernel), (zgw_of 863 (by decide +kernel) rfl), (zgw_of 93 (by decide +kernel) rfl), ⟨by decide +kernel, by decide +kernel⟩, by decide +kernel, by decide⟩
theorem mi_X10_counterpart : Cond.instanceMethod yX10_counterpart ∈ zgw := (zgw_of 861 (by decide +kernel) rfl)
theorem mv_X10_counterpart : Cond.selects RX10 yX10_counterpart yX10_counterpart ∈ zgw := (zgw_of 862 (by decide +kernel) rfl)
abbrev M_X10_setField : zM := (yX10_setField, cX10_setField, 6, some .int)
theorem md_X10_setField : zMd M_X10_setField 3 := ⟨plainFor_of_name (by decide +kernel), (zgw_of 879 (by decide +kernel) rfl), (zgw_of 93 (by decide +kernel) rfl), ⟨by decide +kernel, by decide +kernel⟩, by decide +kernel, by decide⟩
theorem mi_X10_setField : Cond.instanceMethod yX10_setField ∈ zgw := (zgw_of 877 (by decide +kernel) rfl)
theorem mv_X10_setField : Cond.selects RX10 yX10_setField yX10_setField ∈ zgw := (zgw_of 878 (by decide +kernel) rfl)
abbrev M_X10_follow : zM := (yX10_follow, cX10_follow, 3, some .int)
theorem md_X10_follow : zMd M_X10_follow 1 := ⟨plainFor_of_name (by decide +kernel), (zgw_of 888 (by decide +kernel) rfl), (zgw_of 93 (by decide +kernel) rfl), ⟨by decide +kernel, by decide +kernel⟩, by decide +kernel, by decide⟩
theorem mi_X10_follow : Cond.instanceMethod yX10_follow ∈ zgw := (zgw_of 886 (by decide +kernel) rfl)
theorem mv_X10_follow : Cond.selects RX10 yX10_follow yX10_follow ∈ zgw := (zgw_of 887 (by decide +kernel) rfl)
abbrev M_X10_refresh : zM := (yX10_refresh, cX10_refresh, 1, some .int)
theorem md_X10_refresh : zMd M_X10_refresh 0 := ⟨plainFor_of_name (by decide +kernel), (zgw_of 892 (by decide +kernel) rfl), (zgw_of 93 (by decide +kernel) rfl), ⟨by decide +kernel, by decide +kernel⟩, by decide +kernel, by decide⟩
theorem mi_X10_refresh : Cond.instanceMethod yX10_refresh ∈ zgw := (zgw_of 890 (by decide +kernel) rfl)
theorem mv_X10_refresh : Cond.selects RX10 yX10_refresh yX10_refresh ∈ zgw := (zgw_of 891 (by decide +kernel) rfl)
abbrev M_X10_expected : zM := (yX10_expected, cX10_expected, 4, some .int)
theorem md_X10_expected : zMd M_X10_expected 2 := ⟨plainFor_of_name (by decide +kernel), (zgw_of 896 (by decide +kernel) rfl), (zgw_of 93 (by decide +kernel) rfl), ⟨by decide +kernel, by decide +kernel⟩, by decide +kernel, by decide⟩
theorem mi_X10_expected : Cond.instanceMethod yX10_expected ∈ zgw := (zgw_of 894 (by decide +kernel) rfl)
theorem mv_X10_expected : Cond.selects RX10 yX10_expected yX10_expected ∈ zgw := (zgw_of 895 (by decide +kernel) rfl)
abbrev M_X10_repair : zM := (yX10_repair, cX10_repair, 4, some .int)
theorem md_X10_repair : zMd M_X10_repair 2 := ⟨plainFor_of_name (by decide +kernel), (zgw_of 901 (by decide +kernel) rfl), (zgw_of 93 (by decide +kernel) rfl), ⟨by decide +kernel, by decide +kernel⟩, by decide +kernel, by decide⟩
theorem mi_X10_repair : Cond.instanceMethod yX10_repair ∈ zgw := (zgw_of 899 (by decide +kernel) rfl)
theorem mv_X10_repair : Cond.selects RX10 yX10_repair yX10_repair ∈ zgw := (zgw_of 900 (by decide +kernel) rfl)
abbrev M_X10_undo : zM := (yX10_undo, cX10_undo, 1, some .int)
theorem md_X10_undo : zMd M_X10_undo 0 := ⟨plainFor_of_name (by decide +kernel), (zgw_of 918 (by decide +kernel) rfl), (zgw_of 93 (by decide +kernel) rfl), ⟨by decide +kernel, by decide +kernel⟩, by decide +kernel, by decide⟩
theorem mi_X10_undo : Cond.instanceMethod yX10_undo ∈ zgw := (zgw_of 916 (by decide +kernel) rfl)
theorem mv_X10_undo : Cond.selects RX10 yX10_undo yX10_undo ∈ zgw := (zgw_of 917 (by decide +kernel) rfl)
abbrev M_X10_redo : zM := (yX10_redo, cX10_redo, 1, some .int)
theorem md_X10_redo : zMd M_X10_redo 0 := ⟨plainFor_of_name (by decide +kernel), (zgw_of 928 (by decide +kernel) rfl), (zgw_of 93 (by decide +kernel) rfl), ⟨by decide +kernel, by decide +kernel⟩, by decide +kernel, by decide⟩
theorem mi_X10_redo : Cond.instanceMethod yX10_redo ∈ zgw := (zgw_of 926 (by decide +kernel) rfl)
theorem mv_X10_redo : Cond.selects RX10 yX10_redo yX10_redo ∈ zgw := (zgw_of 927 (by decide +kernel) rfl)
abbrev M_X10_mark : zM := (yX10_mark, cX10_mark, 1, some .int)
theorem md_X10_mark : zMd M_X10_mark 0 := ⟨plainFor_of_name (by decide +kernel), (zgw_of 936 (by decide +kernel) rfl), (zgw_of 93 (by decide +kernel) rfl), ⟨by decide +kernel, by decide +kernel⟩, by decide +kernel, by decide⟩
theorem mi_X10_mark : Cond.instanceMethod yX10_mark ∈ zgw := (zgw_of 934 (by decide +kernel) rfl)
theorem mv_X10_mark : Cond.selects RX10 yX10_mark yX10_mark ∈ zgw := (zgw_of 935 (by decide +kernel) rfl)
abbrev M_X10_difference : zM := (yX10_difference, cX10_difference, 4, some .int)
theorem md_X10_difference : zMd M_X10_difference 1 := ⟨plainFor_of_name (by decide +kernel), (zgw_of 940 (by decide +kernel) rfl), (zgw_of 93 (by decide +kernel) rfl), ⟨by decide +kernel, by decide +kernel⟩, by decide +kernel, by decide⟩
theorem mi_X10_difference : Cond.instanceMethod yX10_difference ∈ zgw := (zgw_of 938 (by decide +kernel) rfl)
theorem mv_X10_difference : Cond.selects RX10 yX10_difference yX10_difference ∈ zgw := (zgw_of 939 (by decide +kernel) rfl)
abbrev M_X10_distance : zM := (yX10_distance, cX10_distance, 3, some .int)
theorem md_X10_distance : zMd M_X10_distance 0 := ⟨plainFor_of_name (by decide +kernel), (zgw_of 945 (by decide +kernel) rfl), (zgw_of 93 (by decide +kernel) rfl), ⟨by decide +kernel, by decide +kernel⟩, by decide +kernel, by decide⟩
theorem mi_X10_distance : Cond.instanceMethod yX10_distance ∈ zgw := (zgw_of 943 (by decide +kernel) rfl)
theorem mv_X10_distance : Cond.selects RX10 yX10_distance yX10_distance ∈ zgw := (zgw_of 944 (by decide +kernel) rfl)
abbrev M_X10_count : zM := (yX10_count, cX10_count, 2, some .int)
theorem md_X10_count : zMd M_X10_count 1 := ⟨plainFor_of_name (by decide +kernel), (zgw_of 953 (by decide +kernel) rfl), (zgw_of 93 (by decide +kernel) rfl), ⟨by decide +kernel, by decide +kernel⟩, by decide +kernel, by decide⟩
theorem mi_X10_count : Cond.instanceMethod yX10_count ∈ zgw := (zgw_of 951 (by decide +kernel) rfl)
theorem mv_X10_count : Cond.selects RX10 yX10_count yX10_count ∈ zgw := (zgw_of 952 (by decide +kernel) rfl)
abbrev M_X10_digest : zM := (yX10_digest, cX10_digest, 5, some .long)
theorem md_X10_digest : zMd M_X10_digest 0 := ⟨plainFor_of_name (by decide +kernel), (zgw_of 969 (by decide +kernel) rfl), (zgw_of 93 (by decide +kernel) rfl), ⟨by decide +kernel, by decide +kernel⟩, by decide +kernel, by decide⟩
theorem mi_X10_digest : Cond.instanceMethod yX10_digest ∈ zgw := (zgw_of 967 (by decide +kernel) rfl)
theorem mv_X10_digest : Cond.selects RX10 yX10_digest yX10_digest ∈ zgw := (zgw_of 968 (by decide +kernel) rfl)
abbrev M_X10_isWithin : zM := (yX10_isWithin, cX10_isWithin, 3, some .boolean)
theorem md_X10_isWithin : zMd M_X10_isWithin 3 := ⟨plainFor_of_name (by decide +kernel), (zgw_of 458 (by decide +kernel) rfl), (zgw_of 93 (by decide +kernel) rfl), ⟨by decide +kernel, by decide +kernel⟩, by decide +kernel, by decide⟩
theorem ms_X10_isWithin : Cond.static yX10_isWithin ∈ zgw := (zgw_of 457 (by decide +kernel) rfl)
abbrev M_X10_endChange : zM := (yX10_endChange, cX10_endChange, 3, some .int)
theorem md_X10_endChange : zMd M_X10_endChange 1 := ⟨plainFor_of_name (by decide +kernel), (zgw_of 660 (by decide +kernel) rfl), (zgw_of 93 (by decide +kernel) rfl), ⟨by decide +kernel, by decide +kernel⟩, by decide +kernel, by decide⟩
theorem mi_X10_endChange : Cond.instanceMethod yX10_endChange ∈ zgw := (zgw_of 659 (by decide +kernel) rfl)
theorem mv_X10_endChange : Cond.selects RX10 yX10_endChange yX10_endChange ∈ zgw := (zgw_of 16 (by decide +kernel) rfl)
abbrev M_X10_updateRound : zM := (yX10_updateRound, cX10_updateRound, 3, some .boolean)
theorem md_X10_updateRound : zMd M_X10_updateRound 0 := ⟨plainFor_of_name (by decide +kernel), (zgw_of 664 (by decide +kernel) rfl), (zgw_of 93 (by decide +kernel) rfl), ⟨by decide +kernel, by decide +kernel⟩, by decide +kernel, by decide⟩
theorem mi_X10_updateRound : Cond.instanceMethod yX10_updateRound ∈ zgw := (zgw_of 663 (by decide +kernel) rfl)
theorem mv_X10_updateRound : Cond.selects RX10 yX10_updateRound yX10_updateRound ∈ zgw := (zgw_of 17 (by decide +kernel) rfl)
abbrev M_X10_updateWrongFields : zM := (yX10_updateWrongFields, cX10_updateWrongFields, 4, some .boolean)
theorem md_X10_updateWrongFields : zMd M_X10_updateWrongFields 0 := ⟨plainFor_of_name (by decide +kernel), (zgw_of 721 (by decide +kernel) rfl), (zgw_of 93 (by decide +kernel) rfl), ⟨by decide +kernel, by decide +kernel⟩, by decide +kernel, by decide⟩
theorem mi_X10_updateWrongFields : Cond.instanceMethod yX10_updateWrongFields ∈ zgw := (zgw_of 720 (by decide +kernel) rfl)
theorem mv_X10_updateWrongFields : Cond.selects RX10 yX10_updateWrongFields yX10_updateWrongFields ∈ zgw := (zgw_of 26 (by decide +kernel) rfl)
abbrev M_X10_layOut : zM := (yX10_layOut, cX10_layOut, 3, some .boolean)
theorem md_X10_layOut : zMd M_X10_layOut 1 := ⟨plainFor_of_name (by decide +kernel), (zgw_of 668 (by decide +kernel) rfl), (zgw_of 93 (by decide +kernel) rfl), ⟨by decide +kernel, by decide +kernel⟩, by decide +kernel, by decide⟩
theorem mi_X10_layOut : Cond.instanceMethod yX10_layOut ∈ zgw := (zgw_of 667 (by decide +kernel) rfl)
theorem mv_X10_layOut : Cond.selects RX10 yX10_layOut yX10_layOut ∈ zgw := (zgw_of 18 (by decide +kernel) rfl)
abbrev M_X10_layOutField : zM := (yX10_layOutField, cX10_layOutField, 3, some .boolean)
theorem md_X10_layOutField : zMd M_X10_layOutField 2 := ⟨plainFor_of_name (by decide +kernel), (zgw_of 833 (by decide +kernel) rfl), (zgw_of 93 (by decide +kernel) rfl), ⟨by decide +kernel, by decide +kernel⟩, by decide +kernel, by decide⟩
theorem mi_X10_layOutField : Cond.instanceMethod yX10_layOutField ∈ zgw := (zgw_of 832 (by decide +kernel) rfl)
theorem mv_X10_layOutField : Cond.selects RX10 yX10_layOutField yX10_layOutField ∈ zgw := (zgw_of 31 (by decide +kernel) rfl)
abbrev M_X10_fieldsOf : zM := (yX10_fieldsOf, cX10_fieldsOf, 2, some .int)
theorem md_X10_fieldsOf : zMd M_X10_fieldsOf 1 := ⟨plainFor_of_name (by decide +kernel), (zgw_of 805 (by decide +kernel) rfl), (zgw_of 93 (by decide +kernel) rfl), ⟨by decide +kernel, by decide +kernel⟩, by decide +kernel, by decide⟩
theorem mi_X10_fieldsOf : Cond.instanceMethod yX10_fieldsOf ∈ zgw := (zgw_of 804 (by decide +kernel) rfl)
theorem mv_X10_fieldsOf : Cond.selects RX10 yX10_fieldsOf yX10_fieldsOf ∈ zgw := (zgw_of 28 (by decide +kernel) rfl)
abbrev M_X10_overlayProperty : zM := (yX10_overlayProperty, cX10_overlayProperty, 3, some .int)
theorem md_X10_overlayProperty : zMd M_X10_overlayProperty 2 := ⟨plainFor_of_name (by decide +kernel), (zgw_of 821 (by decide +kernel) rfl), (zgw_of 93 (by decide +kernel) rfl), ⟨by decide +kernel, by decide +kernel⟩, by decide +kernel, by decide⟩
theorem mi_X10_overlayProperty : Cond.instanceMethod yX10_overlayProperty ∈ zgw := (zgw_of 820 (by decide +kernel) rfl)
theorem mv_X10_overlayProperty : Cond.selects RX10 yX10_overlayProperty yX10_overlayProperty ∈ zgw := (zgw_of 29 (by decide +kernel) rfl)
abbrev M_X10_wrongFields : zM := (yX10_wrongFields, cX10_wrongFields, 3, some .int)
theorem md_X10_wrongFields : zMd M_X10_wrongFields 0 := ⟨plainFor_of_name (by decide +kernel), (zgw_of 825 (by decide +kernel) rfl), (zgw_of 93 (by decide +kernel) rfl), ⟨by decide +kernel, by decide +kernel⟩, by decide +kernel, by decide⟩
theorem mi_X10_wrongFields : Cond.instanceMethod yX10_wrongFields ∈ zgw := (zgw_of 824 (by decide +kernel) rfl)
theorem mv_X10_wrongFields : Cond.selects RX10 yX10_wrongFields yX10_wrongFields ∈ zgw := (zgw_of 30 (by decide +kernel) rfl)
abbrev M_X10_wrongFieldsOfAll : zM := (yX10_wrongFieldsOfAll, cX10_wrongFieldsOfAll, 3, some .int)
theorem md_X10_wrongFieldsOfAll : zMd M_X10_wrongFieldsOfAll 0 := ⟨plainFor_of_name (by decide +kernel), (zgw_of 965 (by decide +kernel) rfl), (zgw_of 93 (by decide +kernel) rfl), ⟨by decide +kernel, by decide +kernel⟩, by decide +kernel, by decide⟩
theorem mi_X10_wrongFieldsOfAll : Cond.instanceMethod yX10_wrongFieldsOfAll ∈ zgw := (zgw_of 964 (by decide +kernel) rfl)
theorem mv_X10_wrongFieldsOfAll : Cond.selects RX10 yX10_wrongFieldsOfAll yX10_wrongFieldsOfAll ∈ zgw := (zgw_of 35 (by decide +kernel) rfl)
abbrev M_X10_numberOf : zM := (yX10_numberOf, cX10_numberOf, 2, some .int)
theorem md_X10_numberOf : zMd M_X10_numberOf 1 := ⟨plainFor_of_name (by decide +kernel), (zgw_of 957 (by decide +kernel) rfl), (zgw_of 93 (by decide +kernel) rfl), ⟨by decide +kernel, by decide +kernel⟩, by decide +kernel, by decide⟩
theorem mi_X10_numberOf : Cond.instanceMethod yX10_numberOf ∈ zgw := (zgw_of 956 (by decide +kernel) rfl)
theorem mv_X10_numberOf : Cond.selects RX10 yX10_numberOf yX10_numberOf ∈ zgw := (zgw_of 34 (by decide +kernel) rfl)
abbrev M_X10_nextDistances : zM := (yX10_nextDistances, cX10_nextDistances, 9, none)
theorem md_X10_nextDistances : zMd M_X10_nextDistances 2 := ⟨plainFor_of_name (by decide +kernel), (zgw_of 949 (by decide +kernel) rfl), (zgw_of 93 (by decide +kernel) rfl), ⟨by decide +kernel, by decide +kernel⟩, by decide +kernel, by decide⟩
theorem mi_X10_nextDistances : Cond.instanceMethod yX10_nextDistances ∈ zgw := (zgw_of 948 (by decide +kernel) rfl)
theorem mv_X10_nextDistances : Cond.selects RX10 yX10_nextDistances yX10_nextDistances ∈ zgw := (zgw_of 33 (by decide +kernel) rfl)
abbrev M_X10_mix : zM := (yX10_mix, cX10_mix, 4, some .long)
theorem md_X10_mix : zMd M_X10_mix 2 := ⟨plainFor_of_name (by decide +kernel), (zgw_of 973 (by decide +kernel) rfl), (zgw_of 93 (by decide +kernel) rfl), ⟨by decide +kernel, by decide +kernel⟩, by decide +kernel, by decide⟩
theorem ms_X10_mix : Cond.static yX10_mix ∈ zgw := (zgw_of 972 (by decide +kernel) rfl)
abbrev M_X10_mixOverlay : zM := (yX10_mixOverlay, cX10_mixOverlay, 7, some .long)
theorem md_X10_mixOverlay : zMd M_X10_mixOverlay 2 := ⟨plainFor_of_name (by decide +kernel), (zgw_of 978 (by decide +kernel) rfl), (zgw_of 93 (by decide +kernel) rfl), ⟨by decide +kernel, by decide +kernel⟩, by decide +kernel, by decide⟩
theorem mi_X10_mixOverlay : Cond.instanceMethod yX10_mixOverlay ∈ zgw := (zgw_of 977 (by decide +kernel) rfl)
theorem mv_X10_mixOverlay : Cond.selects RX10 yX10_mixOverlay yX10_mixOverlay ∈ zgw := (zgw_of 36 (by decide +kernel) rfl)
abbrev M_X10_mixField : zM := (yX10_mixField, cX10_mixField, 7, some .long)
theorem md_X10_mixField : zMd M_X10_mixField 2 := ⟨plainFor_of_name (by decide +kernel), (zgw_of 982 (by decide +kernel) rfl), (zgw_of 93 (by decide +kernel) rfl), ⟨by decide +kernel, by decide +kernel⟩, by decide +kernel, by decide⟩
theorem mi_X10_mixField : Cond.instanceMethod yX10_mixField ∈ zgw := (zgw_of 981 (by decide +kernel) rfl)
theorem mv_X10_mixField : Cond.selects RX10 yX10_mixField yX10_mixField ∈ zgw := (zgw_of 37 (by decide +kernel) rfl)
abbrev M_X11_init : zM := (yX11_init, cX11_init, 1, none)
theorem md_X11_init : zMd M_X11_init 0 := ⟨plainFor_of_name (by decide +kernel), (zgw_of 988 (by decide +kernel) rfl), (zgw_of 104 (by decide +kernel) rfl), ⟨by decide +kernel, by decide +kernel⟩, by decide +kernel, by decide⟩
theorem mi_X11_init : Cond.instanceMethod yX11_init ∈ zgw := (zgw_of 987 (by decide +kernel) rfl)
abbrev M_X11_in : zM := (yX11_in, cX11_in, 6, some .boolean)
theorem md_X11_in : zMd M_X11_in 3 := ⟨plainFor_of_name (by decide +kernel), (zgw_of 1133 (by decide +kernel) rfl), (zgw_of 104 (by decide +kernel) rfl), ⟨by decide +kernel, by decide +kernel⟩, by decide +kernel, by decide⟩
theorem ms_X11_in : Cond.static yX11_in ∈ zgw := (zgw_of 1132 (by decide +kernel) rfl)
abbrev M_X11_less : zM := (yX11_less, cX11_less, 2, some .int)
theorem md_X11_less : zMd M_X11_less 2 := ⟨plainFor_of_name (by decide +kernel), (zgw_of 1477 (by decide +kernel) rfl), (zgw_of 104 (by decide +kernel) rfl), ⟨by decide +kernel, by decide +kernel⟩, by decide +kernel, by decide⟩
theorem ms_X11_less : Cond.static yX11_less ∈ zgw := (zgw_of 1476 (by decide +kernel) rfl)
abbrev M_X11_size : zM := (yX11_size, cX11_size, 1, some .int)
theorem md_X11_size : zMd M_X11_size 0 := ⟨plainFor_of_name (by decide +kernel), (zgw_of 1269 (by decide +kernel) rfl), (zgw_of 104 (by decide +kernel) rfl), ⟨by decide +kernel, by decide +kernel⟩, by decide +kernel, by decide⟩
theorem mi_X11_size : Cond.instanceMethod yX11_size ∈ zgw := (zgw_of 1268 (by decide +kernel) rfl)
theorem mv_X11_size : Cond.selects RX11 yX11_size yX11_size ∈ zgw := (zgw_of 62 (by decide +kernel) rfl)
abbrev M_X11_isPresent : zM := (yX11_isPresent, cX11_isPresent, 2, some .boolean)
theorem md_X11_isPresent : zMd M_X11_isPresent 1 := ⟨plainFor_of_name (by decide +kernel), (zgw_of 1243 (by decide +kernel) rfl), (zgw_of 104 (by decide +kernel) rfl), ⟨by decide +kernel, by decide +kernel⟩, by decide +kernel, by decide⟩
theorem mi_X11_isPresent : Cond.instanceMethod yX11_isPresent ∈ zgw := (zgw_of 1242 (by decide +kernel) rfl)
theorem mv_X11_isPresent : Cond.selects RX11 yX11_isPresent yX11_isPresent ∈ zgw := (zgw_of 60 (by decide +kernel) rfl)
abbrev M_X11_templateOf : zM := (yX11_templateOf, cX11_templateOf, 2, some .int)
theorem md_X11_templateOf : zMd M_X11_templateOf 1 := ⟨plainFor_of_name (by decide +kernel), (zgw_of 1247 (by decide +kernel) rfl), (zgw_of 104 (by decide +kernel) rfl), ⟨by decide +kernel, by decide +kernel⟩, by decide +kernel, by decide⟩
theorem mi_X11_templateOf : Cond.instanceMethod yX11_templateOf ∈ zgw := (zgw_of 1246 (by decide +kernel) rfl)
theorem mv_X11_templateOf : Cond.selects RX11 yX11_templateOf yX11_templateOf ∈ zgw := (zgw_of 61 (by decide +kernel) rfl)
abbrev M_X11_offsetOf : zM := (yX11_offsetOf, cX11_offsetOf, 2, some .int)
theorem md_X11_offsetOf : zMd M_X11_offsetOf 1 := ⟨plainFor_of_name (by decide +kernel), (zgw_of 1306 (by decide +kernel) rfl), (zgw_of 104 (by decide +kernel) rfl), ⟨by decide +kernel, by decide +kernel⟩, by decide +kernel, by decide⟩
theorem mi_X11_offsetOf : Cond.instanceMethod yX11_offsetOf ∈ zgw := (zgw_of 1305 (by decide +kernel) rfl)
theorem mv_X11_offsetOf : Cond.selects RX11 yX11_offsetOf yX11_offsetOf ∈ zgw := (zgw_of 66 (by decide +kernel) rfl)
abbrev M_X11_moves : zM := (yX11_moves, cX11_moves, 3, none)
theorem md_X11_moves : zMd M_X11_moves 2 := ⟨plainFor_of_name (by decide +kernel), (zgw_of 1310 (by decide +kernel) rfl), (zgw_of 104 (by decide +kernel) rfl), ⟨by decide +kernel, by decide +kernel⟩, by decide +kernel, by decide⟩
theorem mi_X11_moves : Cond.instanceMethod yX11_moves ∈ zgw := (zgw_of 1309 (by decide +kernel) rfl)
theorem mv_X11_moves : Cond.selects RX11 yX11_moves yX11_moves ∈ zgw := (zgw_of 67 (by decide +kernel) rfl)
abbrev M_X11_type : zM := (yX11_type, cX11_type, 2, some .int)
theorem md_X11_type : zMd M_X11_type 1 := ⟨plainFor_of_name (by decide +kernel), (zgw_of 1129 (by decide +kernel) rfl), (zgw_of 104 (by decide +kernel) rfl), ⟨by decide +kernel, by decide +kernel⟩, by decide +kernel, by decide⟩
theorem mi_X11_type : Cond.instanceMethod yX11_type ∈ zgw := (zgw_of 1127 (by decide +kernel) rfl)
theorem mv_X11_type : Cond.selects RX11 yX11_type yX11_type ∈ zgw := (zgw_of 1128 (by decide +kernel) rfl)
abbrev M_X11_clearText : zM := (yX11_clearText, cX11_clearText, 2, some .int)
theorem md_X11_clearText : zMd M_X11_clearText 0 := ⟨plainFor_of_name (by decide +kernel), (zgw_of 1137 (by decide +kernel) rfl), (zgw_of 104 (by decide +kernel) rfl), ⟨by decide +kernel, by decide +kernel⟩, by decide +kernel, by decide⟩
theorem mi_X11_clearText : Cond.instanceMethod yX11_clearText ∈ zgw := (zgw_of 1135 (by decide +kernel) rfl)
theorem mv_X11_clearText : Cond.selects RX11 yX11_clearText yX11_clearText ∈ zgw := (zgw_of 1136 (by decide +kernel) rfl)
abbrev M_X11_next : zM := (yX11_next, cX11_next, 1, some .int)
theorem md_X11_next : zMd M_X11_next 0 := ⟨plainFor_of_name (by decide +kernel), (zgw_of 1149 (by decide +kernel) rfl), (zgw_of 104 (by decide +kernel) rfl), ⟨by decide +kernel, by decide +kernel⟩, by decide +kernel, by decide⟩
theorem mi_X11_next : Cond.instanceMethod yX11_next ∈ zgw := (zgw_of 1148 (by decide +kernel) rfl)
theorem mv_X11_next : Cond.selects RX11 yX11_next yX11_next ∈ zgw := (zgw_of 39 (by decide +kernel) rfl)
abbrev M_X11_blanks : zM := (yX11_blanks, cX11_blanks, 1, none)
theorem md_X11_blanks : zMd M_X11_blanks 0 := ⟨plainFor_of_name (by decide +kernel), (zgw_of 1145 (by decide +kernel) rfl), (zgw_of 104 (by decide +kernel) rfl), ⟨by decide +kernel, by decide +kernel⟩, by decide +kernel, by decide⟩
theorem mi_X11_blanks : Cond.instanceMethod yX11_blanks ∈ zgw := (zgw_of 1144 (by decide +kernel) rfl)
theorem mv_X11_blanks : Cond.selects RX11 yX11_blanks yX11_blanks ∈ zgw := (zgw_of 38 (by decide +kernel) rfl)
abbrev M_X11_faults : zM := (yX11_faults, cX11_faults, 2, none)
theorem md_X11_faults : zMd M_X11_faults 1 := ⟨plainFor_of_name (by decide +kernel), (zgw_of 1183 (by decide +kernel) rfl), (zgw_of 104 (by decide +kernel) rfl), ⟨by decide +kernel, by decide +kernel⟩, by decide +kernel, by decide⟩
theorem mi_X11_faults : Cond.instanceMethod yX11_faults ∈ zgw := (zgw_of 1182 (by decide +kernel) rfl)
theorem mv_X11_faults : Cond.selects RX11 yX11_faults yX11_faults ∈ zgw := (zgw_of 47 (by decide +kernel) rfl)
abbrev M_X11_takes : zM := (yX11_takes, cX11_takes, 3, some .boolean)
theorem md_X11_takes : zMd M_X11_takes 1 := ⟨plainFor_of_name (by decide +kernel), (zgw_of 1157 (by decide +kernel) rfl), (zgw_of 104 (by decide +kernel) rfl), ⟨by decide +kernel, by decide +kernel⟩, by decide +kernel, by decide⟩
theorem mi_X11_takes : Cond.instanceMethod yX11_takes ∈ zgw := (zgw_of 1156 (by decide +kernel) rfl)
theorem mv_X11_takes : Cond.selects RX11 yX11_takes yX11_takes ∈ zgw := (zgw_of 41 (by decide +kernel) rfl)
abbrev M_X11_expects : zM := (yX11_expects, cX11_expects, 2, none)
theorem md_X11_expects : zMd M_X11_expects 1 := ⟨plainFor_of_name (by decide +kernel), (zgw_of 1209 (by decide +kernel) rfl), (zgw_of 104 (by decide +kernel) rfl), ⟨by decide +kernel, by decide +kernel⟩, by decide +kernel, by decide⟩
theorem mi_X11_expects : Cond.instanceMethod yX11_expects ∈ zgw := (zgw_of 1208 (by decide +kernel) rfl)
theorem mv_X11_expects : Cond.selects RX11 yX11_expects yX11_expects ∈ zgw := (zgw_of 53 (by decide +kernel) rfl)
abbrev M_X11_number : zM := (yX11_number, cX11_number, 2, some .int)
theorem md_X11_number : zMd M_X11_number 0 := ⟨plainFor_of_name (by decide +kernel), (zgw_of 1179 (by decide +kernel) rfl), (zgw_of 104 (by decide +kernel) rfl), ⟨by decide +kernel, by decide +kernel⟩, by decide +kernel, by decide⟩
theorem mi_X11_number : Cond.instanceMethod yX11_number ∈ zgw := (zgw_of 1178 (by decide +kernel) rfl)
theorem mv_X11_number : Cond.selects RX11 yX11_number yX11_number ∈ zgw := (zgw_of 46 (by decide +kernel) rfl)
abbrev M_X11_blanksBehindNumber : zM := (yX11_blanksBehindNumber, cX11_blanksBehindNumber, 1, none)
theorem md_X11_blanksBehindNumber : zMd M_X11_blanksBehindNumber 0 := ⟨plainFor_of_name (by decide +kernel), (zgw_of 1187 (by decide +kernel) rfl), (zgw_of 104 (by decide +kernel) rfl), ⟨by decide +kernel, by decide +kernel⟩, by decide +kernel, by decide⟩
theorem mi_X11_blanksBehindNumber : Cond.instanceMethod yX11_blanksBehindNumber ∈ zgw := (zgw_of 1186 (by decide +kernel) rfl)
theorem mv_X11_blanksBehindNumber : Cond.selects RX11 yX11_blanksBehindNumber yX11_blanksBehindNumber ∈ zgw := (zgw_of 48 (by decide +kernel) rfl)
abbrev M_X11_name : zM := (yX11_name, cX11_name, 2, some .int)
theorem md_X11_name : zMd M_X11_name 0 := ⟨plainFor_of_name (by decide +kernel), (zgw_of 1195 (by decide +kernel) rfl), (zgw_of 104 (by decide +kernel) rfl), ⟨by decide +kernel, by decide +kernel⟩, by decide +kernel, by decide⟩
theorem mi_X11_name : Cond.instanceMethod yX11_name ∈ zgw := (zgw_of 1194 (by decide +kernel) rfl)
theorem mv_X11_name : Cond.selects RX11 yX11_name yX11_name ∈ zgw := (zgw_of 50 (by decide +kernel) rfl)
abbrev M_X11_of : zM := (yX11_of, cX11_of, 4, some .int)
theorem md_X11_of : zMd M_X11_of 3 := ⟨plainFor_of_name (by decide +kernel), (zgw_of 1165 (by decide +kernel) rfl), (zgw_of 104 (by decide +kernel) rfl), ⟨by decide +kernel, by decide +kernel⟩, by decide +kernel, by decide⟩
theorem mi_X11_of : Cond.instanceMethod yX11_of ∈ zgw := (zgw_of 1164 (by decide +kernel) rfl)
theorem mv_X11_of : Cond.selects RX11 yX11_of yX11_of ∈ zgw := (zgw_of 43 (by decide +kernel) rfl)
abbrev M_X11_readOf : zM := (yX11_readOf, cX11_readOf, 3, some .int)
theorem md_X11_readOf : zMd M_X11_readOf 2 := ⟨plainFor_of_name (by decide +kernel), (zgw_of 1161 (by decide +kernel) rfl), (zgw_of 104 (by decide +kernel) rfl), ⟨by decide +kernel, by decide +kernel⟩, by decide +kernel, by decide⟩
theorem mi_X11_readOf : Cond.instanceMethod yX11_readOf ∈ zgw := (zgw_of 1160 (by decide +kernel) rfl)
theorem mv_X11_readOf : Cond.selects RX11 yX11_readOf yX11_readOf ∈ zgw := (zgw_of 42 (by decide +kernel) rfl)
abbrev M_X11_writes : zM := (yX11_writes, cX11_writes, 4, none)
theorem md_X11_writes : zMd M_X11_writes 3 := ⟨plainFor_of_name (by decide +kernel), (zgw_of 1169 (by decide +kernel) rfl), (zgw_of 104 (by decide +kernel) rfl), ⟨by decide +kernel, by decide +kernel⟩, by decide +kernel, by decide⟩
theorem mi_X11_writes : Cond.instanceMethod yX11_writes ∈ zgw := (zgw_of 1168 (by decide +kernel) rfl)
theorem mv_X11_writes : Cond.selects RX11 yX11_writes yX11_writes ∈ zgw := (zgw_of 44 (by decide +kernel) rfl)
abbrev M_X11_inBlock : zM := (yX11_inBlock, cX11_inBlock, 6, some .int)
theorem md_X11_inBlock : zMd M_X11_inBlock 3 := ⟨plainFor_of_name (by decide +kernel), (zgw_of 1205 (by decide +kernel) rfl), (zgw_of 104 (by decide +kernel) rfl), ⟨by decide +kernel, by decide +kernel⟩, by decide +kernel, by decide⟩
theorem mi_X11_inBlock : Cond.instanceMethod yX11_inBlock ∈ zgw := (zgw_of 1204 (by decide +kernel) rfl)
theorem mv_X11_inBlock : Cond.selects RX11 yX11_inBlock yX11_inBlock ∈ zgw := (zgw_of 52 (by decide +kernel) rfl)
abbrev M_X11_named : zM := (yX11_named, cX11_named, 6, some .int)
theorem md_X11_named : zMd M_X11_named 2 := ⟨plainFor_of_name (by decide +kernel), (zgw_of 1201 (by decide +kernel) rfl), (zgw_of 104 (by decide +kernel) rfl), ⟨by decide +kernel, by decide +kernel⟩, by decide +kernel, by decide⟩
theorem mi_X11_named : Cond.instanceMethod yX11_named ∈ zgw := (zgw_of 1200 (by decide +kernel) rfl)
theorem mv_X11_named : Cond.selects RX11 yX11_named yX11_named ∈ zgw := (zgw_of 51 (by decide +kernel) rfl)
abbrev M_X11_integerNamed : zM := (yX11_integerNamed, cX11_integerNamed, 4, some .int)
theorem md_X11_integerNamed : zMd M_X11_integerNamed 1 := ⟨plainFor_of_name (by decide +kernel), (zgw_of 1191 (by decide +kernel) rfl), (zgw_of 104 (by decide +kernel) rfl), ⟨by decide +kernel, by decide +kernel⟩, by decide +kernel, by decide⟩
theorem mi_X11_integerNamed : Cond.instanceMethod yX11_integerNamed ∈ zgw := (zgw_of 1190 (by decide +kernel) rfl)
theorem mv_X11_integerNamed : Cond.selects RX11 yX11_integerNamed yX11_integerNamed ∈ zgw := (zgw_of 49 (by decide +kernel) rfl)
abbrev M_X11_readsCount : zM := (yX11_readsCount, cX11_readsCount, 4, none)
theorem md_X11_readsCount : zMd M_X11_readsCount 1 := ⟨plainFor_of_name (by decide +kernel), (zgw_of 1173 (by decide +kernel) rfl), (zgw_of 104 (by decide +kernel) rfl), ⟨by decide +kernel, by decide +kernel⟩, by decide +kernel, by decide⟩
theorem mi_X11_readsCount : Cond.instanceMethod yX11_readsCount ∈ zgw := (zgw_of 1172 (by decide +kernel) rfl)
theorem mv_X11_readsCount : Cond.selects RX11 yX11_readsCount yX11_readsCount ∈ zgw := (zgw_of 45 (by decide +kernel) rfl)
abbrev M_X11_siblingNamed : zM := (yX11_siblingNamed, cX11_siblingNamed, 4, some .int)
theorem md_X11_siblingNamed : zMd M_X11_siblingNamed 1 := ⟨plainFor_of_name (by decide +kernel), (zgw_of 1233 (by decide +kernel) rfl), (zgw_of 104 (by decide +kernel) rfl), ⟨by decide +kernel, by decide +kernel⟩, by decide +kernel, by decide⟩
theorem mi_X11_siblingNamed : Cond.instanceMethod yX11_siblingNamed ∈ zgw := (zgw_of 1232 (by decide +kernel) rfl)
theorem mv_X11_siblingNamed : Cond.selects RX11 yX11_siblingNamed yX11_siblingNamed ∈ zgw := (zgw_of 59 (by decide +kernel) rfl)
abbrev M_X11_readsCheck : zM := (yX11_readsCheck, cX11_readsCheck, 5, none)
theorem md_X11_readsCheck : zMd M_X11_readsCheck 2 := ⟨plainFor_of_name (by decide +kernel), (zgw_of 1229 (by decide +kernel) rfl), (zgw_of 104 (by decide +kernel) rfl), ⟨by decide +kernel, by decide +kernel⟩, by decide +kernel, by decide⟩
theorem mi_X11_readsCheck : Cond.instanceMethod yX11_readsCheck ∈ zgw := (zgw_of 1228 (by decide +kernel) rfl)
theorem mv_X11_readsCheck : Cond.selects RX11 yX11_readsCheck yX11_readsCheck ∈ zgw := (zgw_of 58 (by decide +kernel) rfl)
abbrev M_X11_readsInteger : zM := (yX11_readsInteger, cX11_readsInteger, 3, none)
theorem md_X11_readsInteger : zMd M_X11_readsInteger 1 := ⟨plainFor_of_name (by decide +kernel), (zgw_of 1225 (by decide +kernel) rfl), (zgw_of 104 (by decide +kernel) rfl), ⟨by decide +kernel, by decide +kernel⟩, by decide +kernel, by decide⟩
theorem mi_X11_readsInteger : Cond.instanceMethod yX11_readsInteger ∈ zgw := (zgw_of 1224 (by decide +kernel) rfl)
theorem mv_X11_readsInteger : Cond.selects RX11 yX11_readsInteger yX11_readsInteger ∈ zgw := (zgw_of 57 (by decide +kernel) rfl)
abbrev M_X11_readsType : zM := (yX11_readsType, cX11_readsType, 3, some .boolean)
theorem md_X11_readsType : zMd M_X11_readsType 1 := ⟨plainFor_of_name (by decide +kernel), (zgw_of 1221 (by decide +kernel) rfl), (zgw_of 104 (by decide +kernel) rfl), ⟨by decide +kernel, by decide +kernel⟩, by decide +kernel, by decide⟩
theorem mi_X11_readsType : Cond.instanceMethod yX11_readsType ∈ zgw := (zgw_of 1220 (by decide +kernel) rfl)
theorem mv_X11_readsType : Cond.selects RX11 yX11_readsType yX11_readsType ∈ zgw := (zgw_of 56 (by decide +kernel) rfl)
abbrev M_X11_readsItem : zM := (yX11_readsItem, cX11_readsItem, 5, none)
theorem md_X11_readsItem : zMd M_X11_readsItem 0 := ⟨plainFor_of_name (by decide +kernel), (zgw_of 1213 (by decide +kernel) rfl), (zgw_of 104 (by decide +kernel) rfl), ⟨by decide +kernel, by decide +kernel⟩, by decide +kernel, by decide⟩
theorem mi_X11_readsItem : Cond.instanceMethod yX11_readsItem ∈ zgw := (zgw_of 1212 (by decide +kernel) rfl)
theorem mv_X11_readsItem : Cond.selects RX11 yX11_readsItem yX11_readsItem ∈ zgw := (zgw_of 54 (by decide +kernel) rfl)
abbrev M_X11_readsNamed : zM := (yX11_readsNamed, cX11_readsNamed, 3, some .boolean)
theorem md_X11_readsNamed : zMd M_X11_readsNamed 1 := ⟨plainFor_of_name (by decide +kernel), (zgw_of 1217 (by decide +kernel) rfl), (zgw_of 104 (by decide +kernel) rfl), ⟨by decide +kernel, by decide +kernel⟩, by decide +kernel, by decide⟩
theorem mi_X11_readsNamed : Cond.instanceMethod yX11_readsNamed ∈ zgw := (zgw_of 1216 (by decide +kernel) rfl)
theorem mv_X11_readsNamed : Cond.selects RX11 yX11_readsNamed yX11_readsNamed ∈ zgw := (zgw_of 55 (by decide +kernel) rfl)
abbrev M_X11_closes : zM := (yX11_closes, cX11_closes, 2, none)
theorem md_X11_closes : zMd M_X11_closes 0 := ⟨plainFor_of_name (by decide +kernel), (zgw_of 1153 (by decide +kernel) rfl), (zgw_of 104 (by decide +kernel) rfl), ⟨by decide +kernel, by decide +kernel⟩, by decide +kernel, by decide⟩
theorem mi_X11_closes : Cond.instanceMethod yX11_closes ∈ zgw := (zgw_of 1152 (by decide +kernel) rfl)
theorem mv_X11_closes : Cond.selects RX11 yX11_closes yX11_closes ∈ zgw := (zgw_of 40 (by decide +kernel) rfl)
abbrev M_X11_templateFault : zM := (yX11_templateFault, cX11_templateFault, 1, some .int)
theorem md_X11_templateFault : zMd M_X11_templateFault 0 := ⟨plainFor_of_name (by decide +kernel), (zgw_of 1141 (by decide +kernel) rfl), (zgw_of 104 (by decide +kernel) rfl), ⟨by decide +kernel, by decide +kernel⟩, by decide +kernel, by decide⟩
theorem mi_X11_templateFault : Cond.instanceMethod yX11_templateFault ∈ zgw := (zgw_of 1139 (by decide +kernel) rfl)
theorem mv_X11_templateFault : Cond.selects RX11 yX11_templateFault yX11_templateFault ∈ zgw := (zgw_of 1140 (by decide +kernel) rfl)
abbrev M_X11_define : zM := (yX11_define, cX11_define, 3, some .int)
theorem md_X11_define : zMd M_X11_define 1 := ⟨plainFor_of_name (by decide +kernel), (zgw_of 1237 (by decide +kernel) rfl), (zgw_of 104 (by decide +kernel) rfl), ⟨by decide +kernel, by decide +kernel⟩, by decide +kernel, by decide⟩
theorem mi_X11_define : Cond.instanceMethod yX11_define ∈ zgw := (zgw_of 1235 (by decide +kernel) rfl)
theorem mv_X11_define : Cond.selects RX11 yX11_define yX11_define ∈ zgw := (zgw_of 1236 (by decide +kernel) rfl)
abbrev M_X11_items : zM := (yX11_items, cX11_items, 2, some .int)
theorem md_X11_items : zMd M_X11_items 1 := ⟨plainFor_of_name (by decide +kernel), (zgw_of 1251 (by decide +kernel) rfl), (zgw_of 104 (by decide +kernel) rfl), ⟨by decide +kernel, by decide +kernel⟩, by decide +kernel, by decide⟩
theorem mi_X11_items : Cond.instanceMethod yX11_items ∈ zgw := (zgw_of 1249 (by decide +kernel) rfl)
theorem mv_X11_items : Cond.selects RX11 yX11_items yX11_items ∈ zgw := (zgw_of 1250 (by decide +kernel) rfl)
abbrev M_X11_halfOf : zM := (yX11_halfOf, cX11_halfOf, 1, some .int)
theorem md_X11_halfOf : zMd M_X11_halfOf 1 := ⟨plainFor_of_name (by decide +kernel), (zgw_of 1258 (by decide +kernel) rfl), (zgw_of 104 (by decide +kernel) rfl), ⟨by decide +kernel, by decide +kernel⟩, by decide +kernel, by decide⟩
theorem ms_X11_halfOf : Cond.static yX11_halfOf ∈ zgw := (zgw_of 1257 (by decide +kernel) rfl)
abbrev M_X11_patternFault : zM := (yX11_patternFault, cX11_patternFault, 1, some .int)
theorem md_X11_patternFault : zMd M_X11_patternFault 0 := ⟨plainFor_of_name (by decide +kernel), (zgw_of 1255 (by decide +kernel) rfl), (zgw_of 104 (by decide +kernel) rfl), ⟨by decide +kernel, by decide +kernel⟩, by decide +kernel, by decide⟩
theorem mi_X11_patternFault : Cond.instanceMethod yX11_patternFault ∈ zgw := (zgw_of 1253 (by decide +kernel) rfl)
theorem mv_X11_patternFault : Cond.selects RX11 yX11_patternFault yX11_patternFault ∈ zgw := (zgw_of 1254 (by decide +kernel) rfl)
abbrev M_X11_matchesAt : zM := (yX11_matchesAt, cX11_matchesAt, 7, some .boolean)
theorem md_X11_matchesAt : zMd M_X11_matchesAt 1 := ⟨plainFor_of_name (by decide +kernel), (zgw_of 1273 (by decide +kernel) rfl), (zgw_of 104 (by decide +kernel) rfl), ⟨by decide +kernel, by decide +kernel⟩, by decide +kernel, by decide⟩
theorem mi_X11_matchesAt : Cond.instanceMethod yX11_matchesAt ∈ zgw := (zgw_of 1272 (by decide +kernel) rfl)
theorem mv_X11_matchesAt : Cond.selects RX11 yX11_matchesAt yX11_matchesAt ∈ zgw := (zgw_of 63 (by decide +kernel) rfl)
abbrev M_X11_find : zM := (yX11_find, cX11_find, 3, some .int)
theorem md_X11_find : zMd M_X11_find 1 := ⟨plainFor_of_name (by decide +kernel), (zgw_of 1263 (by decide +kernel) rfl), (zgw_of 104 (by decide +kernel) rfl), ⟨by decide +kernel, by decide +kernel⟩, by decide +kernel, by decide⟩
theorem mi_X11_find : Cond.instanceMethod yX11_find ∈ zgw := (zgw_of 1261 (by decide +kernel) rfl)
theorem mv_X11_find : Cond.selects RX11 yX11_find yX11_find ∈ zgw := (zgw_of 1262 (by decide +kernel) rfl)
abbrev M_X11_matches : zM := (yX11_matches, cX11_matches, 3, some .int)
theorem md_X11_matches : zMd M_X11_matches 0 := ⟨plainFor_of_name (by decide +kernel), (zgw_of 1277 (by decide +kernel) rfl), (zgw_of 104 (by decide +kernel) rfl), ⟨by decide +kernel, by decide +kernel⟩, by decide +kernel, by decide⟩
theorem mi_X11_matches : Cond.instanceMethod yX11_matches ∈ zgw := (zgw_of 1275 (by decide +kernel) rfl)
theorem mv_X11_matches : Cond.selects RX11 yX11_matches yX11_matches ∈ zgw := (zgw_of 1276 (by decide +kernel) rfl)
abbrev M_X11_read : zM := (yX11_read, cX11_read, 9, some .long)
theorem md_X11_read : zMd M_X11_read 4 := ⟨plainFor_of_name (by decide +kernel), (zgw_of 1363 (by decide +kernel) rfl), (zgw_of 104 (by decide +kernel) rfl), ⟨by decide +kernel, by decide +kernel⟩, by decide +kernel, by decide⟩
theorem mi_X11_read : Cond.instanceMethod yX11_read ∈ zgw := (zgw_of 1362 (by decide +kernel) rfl)
theorem mv_X11_read : Cond.selects RX11 yX11_read yX11_read ∈ zgw := (zgw_of 80 (by decide +kernel) rfl)
abbrev M_X11_valueOf : zM := (yX11_valueOf, cX11_valueOf, 2, some .long)
theorem md_X11_valueOf : zMd M_X11_valueOf 1 := ⟨plainFor_of_name (by decide +kernel), (zgw_of 1359 (by decide +kernel) rfl), (zgw_of 104 (by decide +kernel) rfl), ⟨by decide +kernel, by decide +kernel⟩, by decide +kernel, by decide⟩
theorem mi_X11_valueOf : Cond.instanceMethod yX11_valueOf ∈ zgw := (zgw_of 1358 (by decide +kernel) rfl)
theorem mv_X11_valueOf : Cond.selects RX11 yX11_valueOf yX11_valueOf ∈ zgw := (zgw_of 79 (by decide +kernel) rfl)
abbrev M_X11_lays : zM := (yX11_lays, cX11_lays, 7, some .boolean)
theorem md_X11_lays : zMd M_X11_lays 3 := ⟨plainFor_of_name (by decide +kernel), (zgw_of 1355 (by decide +kernel) rfl), (zgw_of 104 (by decide +kernel) rfl), ⟨by decide +kernel, by decide +kernel⟩, by decide +kernel, by decide⟩
theorem mi_X11_lays : Cond.instanceMethod yX11_lays ∈ zgw := (zgw_of 1354 (by decide +kernel) rfl)
theorem mv_X11_lays : Cond.selects RX11 yX11_lays yX11_lays ∈ zgw := (zgw_of 78 (by decide +kernel) rfl)
abbrev M_X11_countOf : zM := (yX11_countOf, cX11_countOf, 7, some .int)
theorem md_X11_countOf : zMd M_X11_countOf 2 := ⟨plainFor_of_name (by decide +kernel), (zgw_of 1346 (by decide +kernel) rfl), (zgw_of 104 (by decide +kernel) rfl), ⟨by decide +kernel, by decide +kernel⟩, by decide +kernel, by decide⟩
theorem mi_X11_countOf : Cond.instanceMethod yX11_countOf ∈ zgw := (zgw_of 1345 (by decide +kernel) rfl)
theorem mv_X11_countOf : Cond.selects RX11 yX11_countOf yX11_countOf ∈ zgw := (zgw_of 76 (by decide +kernel) rfl)
abbrev M_X11_laysAll : zM := (yX11_laysAll, cX11_laysAll, 5, none)
theorem md_X11_laysAll : zMd M_X11_laysAll 2 := ⟨plainFor_of_name (by decide +kernel), (zgw_of 1351 (by decide +kernel) rfl), (zgw_of 104 (by decide +kernel) rfl), ⟨by decide +kernel, by decide +kernel⟩, by decide +kernel, by decide⟩
theorem mi_X11_laysAll : Cond.instanceMethod yX11_laysAll ∈ zgw := (zgw_of 1350 (by decide +kernel) rfl)
theorem mv_X11_laysAll : Cond.selects RX11 yX11_laysAll yX11_laysAll ∈ zgw := (zgw_of 77 (by decide +kernel) rfl)
abbrev M_X11_aligns : zM := (yX11_aligns, cX11_aligns, 3, none)
theorem md_X11_aligns : zMd M_X11_aligns 2 := ⟨plainFor_of_name (by decide +kernel), (zgw_of 1338 (by decide +kernel) rfl), (zgw_of 104 (by decide +kernel) rfl), ⟨by decide +kernel, by decide +kernel⟩, by decide +kernel, by decide⟩
theorem mi_X11_aligns : Cond.instanceMethod yX11_aligns ∈ zgw := (zgw_of 1337 (by decide +kernel) rfl)
theorem mv_X11_aligns : Cond.selects RX11 yX11_aligns yX11_aligns ∈ zgw := (zgw_of 74 (by decide +kernel) rfl)
abbrev M_X11_enters : zM := (yX11_enters, cX11_enters, 4, none)
theorem md_X11_enters : zMd M_X11_enters 2 := ⟨plainFor_of_name (by decide +kernel), (zgw_of 1342 (by decide +kernel) rfl), (zgw_of 104 (by decide +kernel) rfl), ⟨by decide +kernel, by decide +kernel⟩, by decide +kernel, by decide⟩
theorem mi_X11_enters : Cond.instanceMethod yX11_enters ∈ zgw := (zgw_of 1341 (by decide +kernel) rfl)
theorem mv_X11_enters : Cond.selects RX11 yX11_enters yX11_enters ∈ zgw := (zgw_of 75 (by decide +kernel) rfl)
abbrev M_X11_goesIn : zM := (yX11_goesIn, cX11_goesIn, 1, none)
theorem md_X11_goesIn : zMd M_X11_goesIn 0 := ⟨plainFor_of_name (by decide +kernel), (zgw_of 1330 (by decide +kernel) rfl), (zgw_of 104 (by decide +kernel) rfl), ⟨by decide +kernel, by decide +kernel⟩, by decide +kernel, by decide⟩
theorem mi_X11_goesIn : Cond.instanceMethod yX11_goesIn ∈ zgw := (zgw_of 1329 (by decide +kernel) rfl)
theorem mv_X11_goesIn : Cond.selects RX11 yX11_goesIn yX11_goesIn ∈ zgw := (zgw_of 72 (by decide +kernel) rfl)
abbrev M_X11_passes : zM := (yX11_passes, cX11_passes, 7, some .int)
theorem md_X11_passes : zMd M_X11_passes 3 := ⟨plainFor_of_name (by decide +kernel), (zgw_of 1334 (by decide +kernel) rfl), (zgw_of 104 (by decide +kernel) rfl), ⟨by decide +kernel, by decide +kernel⟩, by decide +kernel, by decide⟩
theorem mi_X11_passes : Cond.instanceMethod yX11_passes ∈ zgw := (zgw_of 1333 (by decide +kernel) rfl)
theorem mv_X11_passes : Cond.selects RX11 yX11_passes yX11_passes ∈ zgw := (zgw_of 73 (by decide +kernel) rfl)
abbrev M_X11_laysOut : zM := (yX11_laysOut, cX11_laysOut, 6, none)
theorem md_X11_laysOut : zMd M_X11_laysOut 1 := ⟨plainFor_of_name (by decide +kernel), (zgw_of 1326 (by decide +kernel) rfl), (zgw_of 104 (by decide +kernel) rfl), ⟨by decide +kernel, by decide +kernel⟩, by decide +kernel, by decide⟩
theorem mi_X11_laysOut : Cond.instanceMethod yX11_laysOut ∈ zgw := (zgw_of 1325 (by decide +kernel) rfl)
theorem mv_X11_laysOut : Cond.selects RX11 yX11_laysOut yX11_laysOut ∈ zgw := (zgw_of 71 (by decide +kernel) rfl)
abbrev M_X11_expectedOf : zM := (yX11_expectedOf, cX11_expectedOf, 4, some .int)
theorem md_X11_expectedOf : zMd M_X11_expectedOf 1 := ⟨plainFor_of_name (by decide +kernel), (zgw_of 1372 (by decide +kernel) rfl), (zgw_of 104 (by decide +kernel) rfl), ⟨by decide +kernel, by decide +kernel⟩, by decide +kernel, by decide⟩
theorem mi_X11_expectedOf : Cond.instanceMethod yX11_expectedOf ∈ zgw := (zgw_of 1371 (by decide +kernel) rfl)
theorem mv_X11_expectedOf : Cond.selects RX11 yX11_expectedOf yX11_expectedOf ∈ zgw := (zgw_of 82 (by decide +kernel) rfl)
abbrev M_X11_adds : zM := (yX11_adds, cX11_adds, 6, some .int)
theorem md_X11_adds : zMd M_X11_adds 3 := ⟨plainFor_of_name (by decide +kernel), (zgw_of 1376 (by decide +kernel) rfl), (zgw_of 104 (by decide +kernel) rfl), ⟨by decide +kernel, by decide +kernel⟩, by decide +kernel, by decide⟩
theorem ms_X11_adds : Cond.static yX11_adds ∈ zgw := (zgw_of 1375 (by decide +kernel) rfl)
abbrev M_X11_isWrong : zM := (yX11_isWrong, cX11_isWrong, 2, some .boolean)
theorem md_X11_isWrong : zMd M_X11_isWrong 1 := ⟨plainFor_of_name (by decide +kernel), (zgw_of 1368 (by decide +kernel) rfl), (zgw_of 104 (by decide +kernel) rfl), ⟨by decide +kernel, by decide +kernel⟩, by decide +kernel, by decide⟩
theorem mi_X11_isWrong : Cond.instanceMethod yX11_isWrong ∈ zgw := (zgw_of 1367 (by decide +kernel) rfl)
theorem mv_X11_isWrong : Cond.selects RX11 yX11_isWrong yX11_isWrong ∈ zgw := (zgw_of 81 (by decide +kernel) rfl)
abbrev M_X11_wrongs : zM := (yX11_wrongs, cX11_wrongs, 3, some .int)
theorem md_X11_wrongs : zMd M_X11_wrongs 0 := ⟨plainFor_of_name (by decide +kernel), (zgw_of 1420 (by decide +kernel) rfl), (zgw_of 104 (by decide +kernel) rfl), ⟨by decide +kernel, by decide +kernel⟩, by decide +kernel, by decide⟩
theorem mi_X11_wrongs : Cond.instanceMethod yX11_wrongs ∈ zgw := (zgw_of 1419 (by decide +kernel) rfl)
theorem mv_X11_wrongs : Cond.selects RX11 yX11_wrongs yX11_wrongs ∈ zgw := (zgw_of 84 (by decide +kernel) rfl)
abbrev M_X11_puts : zM := (yX11_puts, cX11_puts, 7, none)
theorem md_X11_puts : zMd M_X11_puts 2 := ⟨plainFor_of_name (by decide +kernel), (zgw_of 1382 (by decide +kernel) rfl), (zgw_of 104 (by decide +kernel) rfl), ⟨by decide +kernel, by decide +kernel⟩, by decide +kernel, by decide⟩
theorem mi_X11_puts : Cond.instanceMethod yX11_puts ∈ zgw := (zgw_of 1381 (by decide +kernel) rfl)
theorem mv_X11_puts : Cond.selects RX11 yX11_puts yX11_puts ∈ zgw := (zgw_of 83 (by decide +kernel) rfl)
abbrev M_X11_rounds : zM := (yX11_rounds, cX11_rounds, 4, some .boolean)
theorem md_X11_rounds : zMd M_X11_rounds 0 := ⟨plainFor_of_name (by decide +kernel), (zgw_of 1322 (by decide +kernel) rfl), (zgw_of 104 (by decide +kernel) rfl), ⟨by decide +kernel, by decide +kernel⟩, by decide +kernel, by decide⟩
theorem mi_X11_rounds : Cond.instanceMethod yX11_rounds ∈ zgw := (zgw_of 1321 (by decide +kernel) rfl)
theorem mv_X11_rounds : Cond.selects RX11 yX11_rounds yX11_rounds ∈ zgw := (zgw_of 70 (by decide +kernel) rfl)
abbrev M_X11_updates : zM := (yX11_updates, cX11_updates, 2, some .int)
theorem md_X11_updates : zMd M_X11_updates 0 := ⟨plainFor_of_name (by decide +kernel), (zgw_of 1318 (by decide +kernel) rfl), (zgw_of 104 (by decide +kernel) rfl), ⟨by decide +kernel, by decide +kernel⟩, by decide +kernel, by decide⟩
theorem mi_X11_updates : Cond.instanceMethod yX11_updates ∈ zgw := (zgw_of 1317 (by decide +kernel) rfl)
theorem mv_X11_updates : Cond.selects RX11 yX11_updates yX11_updates ∈ zgw := (zgw_of 69 (by decide +kernel) rfl)
abbrev M_X11_copies : zM := (yX11_copies, cX11_copies, 5, none)
theorem md_X11_copies : zMd M_X11_copies 4 := ⟨plainFor_of_name (by decide +kernel), (zgw_of 1298 (by decide +kernel) rfl), (zgw_of 104 (by decide +kernel) rfl), ⟨by decide +kernel, by decide +kernel⟩, by decide +kernel, by decide⟩
theorem ms_X11_copies : Cond.static yX11_copies ∈ zgw := (zgw_of 1297 (by decide +kernel) rfl)
abbrev M_X11_keeps : zM := (yX11_keeps, cX11_keeps, 1, none)
theorem md_X11_keeps : zMd M_X11_keeps 0 := ⟨plainFor_of_name (by decide +kernel), (zgw_of 1295 (by decide +kernel) rfl), (zgw_of 104 (by decide +kernel) rfl), ⟨by decide +kernel, by decide +kernel⟩, by decide +kernel, by decide⟩
theorem mi_X11_keeps : Cond.instanceMethod yX11_keeps ∈ zgw := (zgw_of 1294 (by decide +kernel) rfl)
theorem mv_X11_keeps : Cond.selects RX11 yX11_keeps yX11_keeps ∈ zgw := (zgw_of 64 (by decide +kernel) rfl)
abbrev M_X11_stays : zM := (yX11_stays, cX11_stays, 4, some .boolean)
theorem md_X11_stays : zMd M_X11_stays 1 := ⟨plainFor_of_name (by decide +kernel), (zgw_of 1314 (by decide +kernel) rfl), (zgw_of 104 (by decide +kernel) rfl), ⟨by decide +kernel, by decide +kernel⟩, by decide +kernel, by decide⟩
theorem mi_X11_stays : Cond.instanceMethod yX11_stays ∈ zgw := (zgw_of 1313 (by decide +kernel) rfl)
theorem mv_X11_stays : Cond.selects RX11 yX11_stays yX11_stays ∈ zgw := (zgw_of 68 (by decide +kernel) rfl)
abbrev M_X11_length : zM := (yX11_length, cX11_length, 1, some .int)
theorem md_X11_length : zMd M_X11_length 0 := ⟨plainFor_of_name (by decide +kernel), (zgw_of 1281 (by decide +kernel) rfl), (zgw_of 104 (by decide +kernel) rfl), ⟨by decide +kernel, by decide +kernel⟩, by decide +kernel, by decide⟩
theorem mi_X11_length : Cond.instanceMethod yX11_length ∈ zgw := (zgw_of 1279 (by decide +kernel) rfl)
theorem mv_X11_length : Cond.selects RX11 yX11_length yX11_length ∈ zgw := (zgw_of 1280 (by decide +kernel) rfl)
abbrev M_X11_byteAt : zM := (yX11_byteAt, cX11_byteAt, 2, some .int)
theorem md_X11_byteAt : zMd M_X11_byteAt 1 := ⟨plainFor_of_name (by decide +kernel), (zgw_of 1285 (by decide +kernel) rfl), (zgw_of 104 (by decide +kernel) rfl), ⟨by decide +kernel, by decide +kernel⟩, by decide +kernel, by decide⟩
theorem mi_X11_byteAt : Cond.instanceMethod yX11_byteAt ∈ zgw := (zgw_of 1283 (by decide +kernel) rfl)
theorem mv_X11_byteAt : Cond.selects RX11 yX11_byteAt yX11_byteAt ∈ zgw := (zgw_of 1284 (by decide +kernel) rfl)
abbrev M_X11_opens : zM := (yX11_opens, cX11_opens, 4, none)
theorem md_X11_opens : zMd M_X11_opens 2 := ⟨plainFor_of_name (by decide +kernel), (zgw_of 1302 (by decide +kernel) rfl), (zgw_of 104 (by decide +kernel) rfl), ⟨by decide +kernel, by decide +kernel⟩, by decide +kernel, by decide⟩
theorem mi_X11_opens : Cond.instanceMethod yX11_opens ∈ zgw := (zgw_of 1301 (by decide +kernel) rfl)
theorem mv_X11_opens : Cond.selects RX11 yX11_opens yX11_opens ∈ zgw := (zgw_of 65 (by decide +kernel) rfl)
abbrev M_X11_insert : zM := (yX11_insert, cX11_insert, 5, some .int)
theorem md_X11_insert : zMd M_X11_insert 3 := ⟨plainFor_of_name (by decide +kernel), (zgw_of 1289 (by decide +kernel) rfl), (zgw_of 104 (by decide +kernel) rfl), ⟨by decide +kernel, by decide +kernel⟩, by decide +kernel, by decide⟩
theorem mi_X11_insert : Cond.instanceMethod yX11_insert ∈ zgw := (zgw_of 1287 (by decide +kernel) rfl)
theorem mv_X11_insert : Cond.selects RX11 yX11_insert yX11_insert ∈ zgw := (zgw_of 1288 (by decide +kernel) rfl)
abbrev M_X11_delete : zM := (yX11_delete, cX11_delete, 4, some .int)
theorem md_X11_delete : zMd M_X11_delete 2 := ⟨plainFor_of_name (by decide +kernel), (zgw_of 1386 (by decide +kernel) rfl), (zgw_of 104 (by decide +kernel) rfl), ⟨by decide +kernel, by decide +kernel⟩, by decide +kernel, by decide⟩
theorem mi_X11_delete : Cond.instanceMethod yX11_delete ∈ zgw := (zgw_of 1384 (by decide +kernel) rfl)
theorem mv_X11_delete : Cond.selects RX11 yX11_delete yX11_delete ∈ zgw := (zgw_of 1385 (by decide +kernel) rfl)
abbrev M_X11_overwrite : zM := (yX11_overwrite, cX11_overwrite, 4, some .int)
theorem md_X11_overwrite : zMd M_X11_overwrite 2 := ⟨plainFor_of_name (by decide +kernel), (zgw_of 1390 (by decide +kernel) rfl), (zgw_of 104 (by decide +kernel) rfl), ⟨by decide +kernel, by decide +kernel⟩, by decide +kernel, by decide⟩
theorem mi_X11_overwrite : Cond.instanceMethod yX11_overwrite ∈ zgw := (zgw_of 1388 (by decide +kernel) rfl)
theorem mv_X11_overwrite : Cond.selects RX11 yX11_overwrite yX11_overwrite ∈ zgw := (zgw_of 1389 (by decide +kernel) rfl)
abbrev M_X11_copy : zM := (yX11_copy, cX11_copy, 4, some .int)
theorem md_X11_copy : zMd M_X11_copy 2 := ⟨plainFor_of_name (by decide +kernel), (zgw_of 1394 (by decide +kernel) rfl), (zgw_of 104 (by decide +kernel) rfl), ⟨by decide +kernel, by decide +kernel⟩, by decide +kernel, by decide⟩
theorem mi_X11_copy : Cond.instanceMethod yX11_copy ∈ zgw := (zgw_of 1392 (by decide +kernel) rfl)
theorem mv_X11_copy : Cond.selects RX11 yX11_copy yX11_copy ∈ zgw := (zgw_of 1393 (by decide +kernel) rfl)
abbrev M_X11_paste : zM := (yX11_paste, cX11_paste, 3, some .int)
theorem md_X11_paste : zMd M_X11_paste 1 := ⟨plainFor_of_name (by decide +kernel), (zgw_of 1399 (by decide +kernel) rfl), (zgw_of 104 (by decide +kernel) rfl), ⟨by decide +kernel, by decide +kernel⟩, by decide +kernel, by decide⟩
theorem mi_X11_paste : Cond.instanceMethod yX11_paste ∈ zgw := (zgw_of 1397 (by decide +kernel) rfl)
theorem mv_X11_paste : Cond.selects RX11 yX11_paste yX11_paste ∈ zgw := (zgw_of 1398 (by decide +kernel) rfl)
abbrev M_X11_pasteOver : zM := (yX11_pasteOver, cX11_pasteOver, 3, some .int)
theorem md_X11_pasteOver : zMd M_X11_pasteOver 1 := ⟨plainFor_of_name (by decide +kernel), (zgw_of 1403 (by decide +kernel) rfl), (zgw_of 104 (by decide +kernel) rfl), ⟨by decide +kernel, by decide +kernel⟩, by decide +kernel, by decide⟩
theorem mi_X11_pasteOver : Cond.instanceMethod yX11_pasteOver ∈ zgw := (zgw_of 1401 (by decide +kernel) rfl)
theorem mv_X11_pasteOver : Cond.selects RX11 yX11_pasteOver yX11_pasteOver ∈ zgw := (zgw_of 1402 (by decide +kernel) rfl)
abbrev M_X11_lay : zM := (yX11_lay, cX11_lay, 4, some .int)
theorem md_X11_lay : zMd M_X11_lay 3 := ⟨plainFor_of_name (by decide +kernel), (zgw_of 1407 (by decide +kernel) rfl), (zgw_of 104 (by decide +kernel) rfl), ⟨by decide +kernel, by decide +kernel⟩, by decide +kernel, by decide⟩
theorem mi_X11_lay : Cond.instanceMethod yX11_lay ∈ zgw := (zgw_of 1405 (by decide +kernel) rfl)
theorem mv_X11_lay : Cond.selects RX11 yX11_lay yX11_lay ∈ zgw := (zgw_of 1406 (by decide +kernel) rfl)
abbrev M_X11_remove : zM := (yX11_remove, cX11_remove, 4, some .int)
theorem md_X11_remove : zMd M_X11_remove 1 := ⟨plainFor_of_name (by decide +kernel), (zgw_of 1411 (by decide +kernel) rfl), (zgw_of 104 (by decide +kernel) rfl), ⟨by decide +kernel, by decide +kernel⟩, by decide +kernel, by decide⟩
theorem mi_X11_remove : Cond.instanceMethod yX11_remove ∈ zgw := (zgw_of 1409 (by decide +kernel) rfl)
theorem mv_X11_remove : Cond.selects RX11 yX11_remove yX11_remove ∈ zgw := (zgw_of 1410 (by decide +kernel) rfl)
abbrev M_X11_overlay : zM := (yX11_overlay, cX11_overlay, 3, some .int)
theorem md_X11_overlay : zMd M_X11_overlay 2 := ⟨plainFor_of_name (by decide +kernel), (zgw_of 1415 (by decide +kernel) rfl), (zgw_of 104 (by decide +kernel) rfl), ⟨by decide +kernel, by decide +kernel⟩, by decide +kernel, by decide⟩
theorem mi_X11_overlay : Cond.instanceMethod yX11_overlay ∈ zgw := (zgw_of 1413 (by decide +kernel) rfl)
theorem mv_X11_overlay : Cond.selects RX11 yX11_overlay yX11_overlay ∈ zgw := (zgw_of 1414 (by decide +kernel) rfl)
abbrev M_X11_hasField : zM := (yX11_hasField, cX11_hasField, 3, some .boolean)
theorem md_X11_hasField : zMd M_X11_hasField 2 := ⟨plainFor_of_name (by decide +kernel), (zgw_of 1428 (by decide +kernel) rfl), (zgw_of 104 (by decide +kernel) rfl), ⟨by decide +kernel, by decide +kernel⟩, by decide +kernel, by decide⟩
theorem mi_X11_hasField : Cond.instanceMethod yX11_hasField ∈ zgw := (zgw_of 1427 (by decide +kernel) rfl)
theorem mv_X11_hasField : Cond.selects RX11 yX11_hasField yX11_hasField ∈ zgw := (zgw_of 85 (by decide +kernel) rfl)
abbrev M_X11_partOf : zM := (yX11_partOf, cX11_partOf, 3, some .int)
theorem md_X11_partOf : zMd M_X11_partOf 2 := ⟨plainFor_of_name (by decide +kernel), (zgw_of 1433 (by decide +kernel) rfl), (zgw_of 104 (by decide +kernel) rfl), ⟨by decide +kernel, by decide +kernel⟩, by decide +kernel, by decide⟩
theorem mi_X11_partOf : Cond.instanceMethod yX11_partOf ∈ zgw := (zgw_of 1432 (by decide +kernel) rfl)
theorem mv_X11_partOf : Cond.selects RX11 yX11_partOf yX11_partOf ∈ zgw := (zgw_of 86 (by decide +kernel) rfl)
abbrev M_X11_field : zM := (yX11_field, cX11_field, 4, some .int)
theorem md_X11_field : zMd M_X11_field 3 := ⟨plainFor_of_name (by decide +kernel), (zgw_of 1424 (by decide +kernel) rfl), (zgw_of 104 (by decide +kernel) rfl), ⟨by decide +kernel, by decide +kernel⟩, by decide +kernel, by decide⟩
theorem mi_X11_field : Cond.instanceMethod yX11_field ∈ zgw := (zgw_of 1422 (by decide +kernel) rfl)
theorem mv_X11_field : Cond.selects RX11 yX11_field yX11_field ∈ zgw := (zgw_of 1423 (by decide +kernel) rfl)
abbrev M_X11_value : zM := (yX11_value, cX11_value, 3, some .long)
theorem md_X11_value : zMd M_X11_value 2 := ⟨plainFor_of_name (by decide +kernel), (zgw_of 1437 (by decide +kernel) rfl), (zgw_of 104 (by decide +kernel) rfl), ⟨by decide +kernel, by decide +kernel⟩, by decide +kernel, by decide⟩
theorem mi_X11_value : Cond.instanceMethod yX11_value ∈ zgw := (zgw_of 1435 (by decide +kernel) rfl)
theorem mv_X11_value : Cond.selects RX11 yX11_value yX11_value ∈ zgw := (zgw_of 1436 (by decide +kernel) rfl)
abbrev M_X11_path : zM := (yX11_path, cX11_path, 4, some .int)
theorem md_X11_path : zMd M_X11_path 3 := ⟨plainFor_of_name (by decide +kernel), (zgw_of 1442 (by decide +kernel) rfl), (zgw_of 104 (by decide +kernel) rfl), ⟨by decide +kernel, by decide +kernel⟩, by decide +kernel, by decide⟩
theorem mi_X11_path : Cond.instanceMethod yX11_path ∈ zgw := (zgw_of 1440 (by decide +kernel) rfl)
theorem mv_X11_path : Cond.selects RX11 yX11_path yX11_path ∈ zgw := (zgw_of 1441 (by decide +kernel) rfl)
abbrev M_X11_fieldAt : zM := (yX11_fieldAt, cX11_fieldAt, 4, some .int)
theorem md_X11_fieldAt : zMd M_X11_fieldAt 2 := ⟨plainFor_of_name (by decide +kernel), (zgw_of 1446 (by decide +kernel) rfl), (zgw_of 104 (by decide +kernel) rfl), ⟨by decide +kernel, by decide +kernel⟩, by decide +kernel, by decide⟩
theorem mi_X11_fieldAt : Cond.instanceMethod yX11_fieldAt ∈ zgw := (zgw_of 1444 (by decide +kernel) rfl)
theorem mv_X11_fieldAt : Cond.selects RX11 yX11_fieldAt yX11_fieldAt ∈ zgw := (zgw_of 1445 (by decide +kernel) rfl)
abbrev M_X11_counterpart : zM := (yX11_counterpart, cX11_counterpart, 8, some .int)
theorem md_X11_counterpart : zMd M_X11_counterpart 3 := ⟨plainFor_of_name (by decide +kernel), (zgw_of 1450 (by decide +kernel) rfl), (zgw_of 104 (by decide +kernel) rfl), ⟨by decide +kernel, by decide +kernel⟩, by decide +kernel, by decide⟩
theorem mi_X11_counterpart : Cond.instanceMethod yX11_counterpart ∈ zgw := (zgw_of 1448 (by decide +kernel) rfl)
theorem mv_X11_counterpart : Cond.selects RX11 yX11_counterpart yX11_counterpart ∈ zgw := (zgw_of 1449 (by decide +kernel) rfl)
abbrev M_X11_fits : zM := (yX11_fits, cX11_fits, 6, some .boolean)
theorem md_X11_fits : zMd M_X11_fits 2 := ⟨plainFor_of_name (by decide +kernel), (zgw_of 1458 (by decide +kernel) rfl), (zgw_of 104 (by decide +kernel) rfl), ⟨by decide +kernel, by decide +kernel⟩, by decide +kernel, by decide⟩
theorem mi_X11_fits : Cond.instanceMethod yX11_fits ∈ zgw := (zgw_of 1457 (by decide +kernel) rfl)
theorem mv_X11_fits : Cond.selects RX11 yX11_fits yX11_fits ∈ zgw := (zgw_of 87 (by decide +kernel) rfl)
abbrev M_X11_setField : zM := (yX11_setField, cX11_setField, 5, some .int)
theorem md_X11_setField : zMd M_X11_setField 3 := ⟨plainFor_of_name (by decide +kernel), (zgw_of 1454 (by decide +kernel) rfl), (zgw_of 104 (by decide +kernel) rfl), ⟨by decide +kernel, by decide +kernel⟩, by decide +kernel, by decide⟩
theorem mi_X11_setField : Cond.instanceMethod yX11_setField ∈ zgw := (zgw_of 1452 (by decide +kernel) rfl)
theorem mv_X11_setField : Cond.selects RX11 yX11_setField yX11_setField ∈ zgw := (zgw_of 1453 (by decide +kernel) rfl)
abbrev M_X11_follow : zM := (yX11_follow, cX11_follow, 3, some .int)
theorem md_X11_follow : zMd M_X11_follow 1 := ⟨plainFor_of_name (by decide +kernel), (zgw_of 1462 (by decide +kernel) rfl), (zgw_of 104 (by decide +kernel) rfl), ⟨by decide +kernel, by decide +kernel⟩, by decide +kernel, by decide⟩
theorem mi_X11_follow : Cond.instanceMethod yX11_follow ∈ zgw := (zgw_of 1460 (by decide +kernel) rfl)
theorem mv_X11_follow : Cond.selects RX11 yX11_follow yX11_follow ∈ zgw := (zgw_of 1461 (by decide +kernel) rfl)
abbrev M_X11_refresh : zM := (yX11_refresh, cX11_refresh, 2, some .int)
theorem md_X11_refresh : zMd M_X11_refresh 0 := ⟨plainFor_of_name (by decide +kernel), (zgw_of 1466 (by decide +kernel) rfl), (zgw_of 104 (by decide +kernel) rfl), ⟨by decide +kernel, by decide +kernel⟩, by decide +kernel, by decide⟩
theorem mi_X11_refresh : Cond.instanceMethod yX11_refresh ∈ zgw := (zgw_of 1464 (by decide +kernel) rfl)
theorem mv_X11_refresh : Cond.selects RX11 yX11_refresh yX11_refresh ∈ zgw := (zgw_of 1465 (by decide +kernel) rfl)
abbrev M_X11_expected : zM := (yX11_expected, cX11_expected, 3, some .int)
theorem md_X11_expected : zMd M_X11_expected 2 := ⟨plainFor_of_name (by decide +kernel), (zgw_of 1470 (by decide +kernel) rfl), (zgw_of 104 (by decide +kernel) rfl), ⟨by decide +kernel, by decide +kernel⟩, by decide +kernel, by decide⟩
theorem mi_X11_expected : Cond.instanceMethod yX11_expected ∈ zgw := (zgw_of 1468 (by decide +kernel) rfl)
theorem mv_X11_expected : Cond.selects RX11 yX11_expected yX11_expected ∈ zgw := (zgw_of 1469 (by decide +kernel) rfl)
abbrev M_X11_repair : zM := (yX11_repair, cX11_repair, 10, some .int)
theorem md_X11_repair : zMd M_X11_repair 2 := ⟨plainFor_of_name (by decide +kernel), (zgw_of 1474 (by decide +kernel) rfl), (zgw_of 104 (by decide +kernel) rfl), ⟨by decide +kernel, by decide +kernel⟩, by decide +kernel, by decide⟩
theorem mi_X11_repair : Cond.instanceMethod yX11_repair ∈ zgw := (zgw_of 1472 (by decide +kernel) rfl)
theorem mv_X11_repair : Cond.selects RX11 yX11_repair yX11_repair ∈ zgw := (zgw_of 1473 (by decide +kernel) rfl)
abbrev M_X11_undo : zM := (yX11_undo, cX11_undo, 1, some .int)
theorem md_X11_undo : zMd M_X11_undo 0 := ⟨plainFor_of_name (by decide +kernel), (zgw_of 1481 (by decide +kernel) rfl), (zgw_of 104 (by decide +kernel) rfl), ⟨by decide +kernel, by decide +kernel⟩, by decide +kernel, by decide⟩
theorem mi_X11_undo : Cond.instanceMethod yX11_undo ∈ zgw := (zgw_of 1479 (by decide +kernel) rfl)
theorem mv_X11_undo : Cond.selects RX11 yX11_undo yX11_undo ∈ zgw := (zgw_of 1480 (by decide +kernel) rfl)
abbrev M_X11_redo : zM := (yX11_redo, cX11_redo, 1, some .int)
theorem md_X11_redo : zMd M_X11_redo 0 := ⟨plainFor_of_name (by decide +kernel), (zgw_of 1485 (by decide +kernel) rfl), (zgw_of 104 (by decide +kernel) rfl), ⟨by decide +kernel, by decide +kernel⟩, by decide +kernel, by decide⟩
theorem mi_X11_redo : Cond.instanceMethod yX11_redo ∈ zgw := (zgw_of 1483 (by decide +kernel) rfl)
theorem mv_X11_redo : Cond.selects RX11 yX11_redo yX11_redo ∈ zgw := (zgw_of 1484 (by decide +kernel) rfl)
abbrev M_X11_mark : zM := (yX11_mark, cX11_mark, 2, some .int)
theorem md_X11_mark : zMd M_X11_mark 0 := ⟨plainFor_of_name (by decide +kernel), (zgw_of 1489 (by decide +kernel) rfl), (zgw_of 104 (by decide +kernel) rfl), ⟨by decide +kernel, by decide +kernel⟩, by decide +kernel, by decide⟩
theorem mi_X11_mark : Cond.instanceMethod yX11_mark ∈ zgw := (zgw_of 1487 (by decide +kernel) rfl)
theorem mv_X11_mark : Cond.selects RX11 yX11_mark yX11_mark ∈ zgw := (zgw_of 1488 (by decide +kernel) rfl)
abbrev M_X11_difference : zM := (yX11_difference, cX11_difference, 5, some .int)
theorem md_X11_difference : zMd M_X11_difference 1 := ⟨plainFor_of_name (by decide +kernel), (zgw_of 1493 (by decide +kernel) rfl), (zgw_of 104 (by decide +kernel) rfl), ⟨by decide +kernel, by decide +kernel⟩, by decide +kernel, by decide⟩
theorem mi_X11_difference : Cond.instanceMethod yX11_difference ∈ zgw := (zgw_of 1491 (by decide +kernel) rfl)
theorem mv_X11_difference : Cond.selects RX11 yX11_difference yX11_difference ∈ zgw := (zgw_of 1492 (by decide +kernel) rfl)
abbrev M_X11_distance : zM := (yX11_distance, cX11_distance, 5, some .int)
theorem md_X11_distance : zMd M_X11_distance 0 := ⟨plainFor_of_name (by decide +kernel), (zgw_of 1497 (by decide +kernel) rfl), (zgw_of 104 (by decide +kernel) rfl), ⟨by decide +kernel, by decide +kernel⟩, by decide +kernel, by decide⟩
theorem mi_X11_distance : Cond.instanceMethod yX11_distance ∈ zgw := (zgw_of 1495 (by decide +kernel) rfl)
theorem mv_X11_distance : Cond.selects RX11 yX11_distance yX11_distance ∈ zgw := (zgw_of 1496 (by decide +kernel) rfl)
abbrev M_X11_present : zM := (yX11_present, cX11_present, 3, some .int)
theorem md_X11_present : zMd M_X11_present 0 := ⟨plainFor_of_name (by decide +kernel), (zgw_of 1505 (by decide +kernel) rfl), (zgw_of 104 (by decide +kernel) rfl), ⟨by decide +kernel, by decide +kernel⟩, by decide +kernel, by decide⟩
theorem mi_X11_present : Cond.instanceMethod yX11_present ∈ zgw := (zgw_of 1504 (by decide +kernel) rfl)
theorem mv_X11_present : Cond.selects RX11 yX11_present yX11_present ∈ zgw := (zgw_of 88 (by decide +kernel) rfl)
abbrev M_X11_allWrong : zM := (yX11_allWrong, cX11_allWrong, 3, some .int)
theorem md_X11_allWrong : zMd M_X11_allWrong 0 := ⟨plainFor_of_name (by decide +kernel), (zgw_of 1509 (by decide +kernel) rfl), (zgw_of 104 (by decide +kernel) rfl), ⟨by decide +kernel, by decide +kernel⟩, by decide +kernel, by decide⟩
theorem mi_X11_allWrong : Cond.instanceMethod yX11_allWrong ∈ zgw := (zgw_of 1508 (by decide +kernel) rfl)
theorem mv_X11_allWrong : Cond.selects RX11 yX11_allWrong yX11_allWrong ∈ zgw := (zgw_of 89 (by decide +kernel) rfl)
abbrev M_X11_count : zM := (yX11_count, cX11_count, 2, some .int)
theorem md_X11_count : zMd M_X11_count 1 := ⟨plainFor_of_name (by decide +kernel), (zgw_of 1501 (by decide +kernel) rfl), (zgw_of 104 (by decide +kernel) rfl), ⟨by decide +kernel, by decide +kernel⟩, by decide +kernel, by decide⟩
theorem mi_X11_count : Cond.instanceMethod yX11_count ∈ zgw := (zgw_of 1499 (by decide +kernel) rfl)
theorem mv_X11_count : Cond.selects RX11 yX11_count yX11_count ∈ zgw := (zgw_of 1500 (by decide +kernel) rfl)
abbrev M_X11_mixes : zM := (yX11_mixes, cX11_mixes, 3, none)
theorem md_X11_mixes : zMd M_X11_mixes 1 := ⟨plainFor_of_name (by decide +kernel), (zgw_of 1518 (by decide +kernel) rfl), (zgw_of 104 (by decide +kernel) rfl), ⟨by decide +kernel, by decide +kernel⟩, by decide +kernel, by decide⟩
theorem mi_X11_mixes : Cond.instanceMethod yX11_mixes ∈ zgw := (zgw_of 1517 (by decide +kernel) rfl)
theorem mv_X11_mixes : Cond.selects RX11 yX11_mixes yX11_mixes ∈ zgw := (zgw_of 90 (by decide +kernel) rfl)
abbrev M_X11_mixesOverlay : zM := (yX11_mixesOverlay, cX11_mixesOverlay, 4, none)
theorem md_X11_mixesOverlay : zMd M_X11_mixesOverlay 1 := ⟨plainFor_of_name (by decide +kernel), (zgw_of 1523 (by decide +kernel) rfl), (zgw_of 104 (by decide +kernel) rfl), ⟨by decide +kernel, by decide +kernel⟩, by decide +kernel, by decide⟩
theorem mi_X11_mixesOverlay : Cond.instanceMethod yX11_mixesOverlay ∈ zgw := (zgw_of 1522 (by decide +kernel) rfl)
theorem mv_X11_mixesOverlay : Cond.selects RX11 yX11_mixesOverlay yX11_mixesOverlay ∈ zgw := (zgw_of 91 (by decide +kernel) rfl)
abbrev M_X11_digest : zM := (yX11_digest, cX11_digest, 2, some .long)
theorem md_X11_digest : zMd M_X11_digest 0 := ⟨plainFor_of_name (by decide +kernel), (zgw_of 1513 (by decide +kernel) rfl), (zgw_of 104 (by decide +kernel) rfl), ⟨by decide +kernel, by decide +kernel⟩, by decide +kernel, by decide⟩
theorem mi_X11_digest : Cond.instanceMethod yX11_digest ∈ zgw := (zgw_of 1511 (by decide +kernel) rfl)
theorem mv_X11_digest : Cond.selects RX11 yX11_digest yX11_digest ∈ zgw := (zgw_of 1512 (by decide +kernel) rfl)
abbrev M_J9_floorMod_7cf53 : zM := (yJ9_floorMod_7cf53, cJ9_floorMod_7cf53, 3, some .int)
theorem md_J9_floorMod_7cf53 : zMd M_J9_floorMod_7cf53 2 := ⟨by decide +kernel, (zgw_of 914 (by decide +kernel) rfl), (zgw_of 95 (by decide +kernel) rfl), ⟨by decide +kernel, by decide +kernel⟩, by decide +kernel, by decide⟩
theorem ms_J9_floorMod_7cf53 : Cond.static yJ9_floorMod_7cf53 ∈ zgw := (zgw_of 913 (by decide +kernel) rfl)
abbrev M_J9_max_7cf53 : zM := (yJ9_max_7cf53, cJ9_max_7cf53, 2, some .int)
theorem md_J9_max_7cf53 : zMd M_J9_max_7cf53 2 := ⟨by decide +kernel, (zgw_of 123 (by decide +kernel) rfl), (zgw_of 95 (by decide +kernel) rfl), ⟨by decide +kernel, by decide +kernel⟩, by decide +kernel, by decide⟩
theorem ms_J9_max_7cf53 : Cond.static yJ9_max_7cf53 ∈ zgw := (zgw_of 122 (by decide +kernel) rfl)
abbrev M_J9_max_f86c9 : zM := (yJ9_max_f86c9, cJ9_max_f86c9, 4, some .long)
theorem md_J9_max_f86c9 : zMd M_J9_max_f86c9 2 := ⟨by decide +kernel, (zgw_of 696 (by decide +kernel) rfl), (zgw_of 95 (by decide +kernel) rfl), ⟨by decide +kernel, by decide +kernel⟩, by decide +kernel, by decide⟩
theorem ms_J9_max_f86c9 : Cond.static yJ9_max_f86c9 ∈ zgw := (zgw_of 695 (by decide +kernel) rfl)
abbrev M_J9_min_7cf53 : zM := (yJ9_min_7cf53, cJ9_min_7cf53, 2, some .int)
theorem md_J9_min_7cf53 : zMd M_J9_min_7cf53 2 := ⟨by decide +kernel, (zgw_of 783 (by decide +kernel) rfl), (zgw_of 95 (by decide +kernel) rfl), ⟨by decide +kernel, by decide +kernel⟩, by decide +kernel, by decide⟩
theorem ms_J9_min_7cf53 : Cond.static yJ9_min_7cf53 ∈ zgw := (zgw_of 782 (by decide +kernel) rfl)
abbrev M_J9_min_f86c9 : zM := (yJ9_min_f86c9, cJ9_min_f86c9, 4, some .long)
theorem md_J9_min_f86c9 : zMd M_J9_min_f86c9 2 := ⟨by decide +kernel, (zgw_of 693 (by decide +kernel) rfl), (zgw_of 95 (by decide +kernel) rfl), ⟨by decide +kernel, by decide +kernel⟩, by decide +kernel, by decide⟩
theorem ms_J9_min_f86c9 : Cond.static yJ9_min_f86c9 ∈ zgw := (zgw_of 692 (by decide +kernel) rfl)
abbrev M_L_law : zM := (yL_law, code, 4, some .boolean)
end
section
theorem it_L : Cond.initialized RL ∈ zgw := (zgw_of 92 (by decide +kernel) rfl)
theorem it_X10 : Cond.initialized RX10 ∈ zgw := (zgw_of 93 (by decide +kernel) rfl)
theorem it_X0 : Cond.initialized RX0 ∈ zgw := (zgw_of 94 (by decide +kernel) rfl)
theorem it_J9 : Cond.initialized RJ9 ∈ zgw := (zgw_of 95 (by decide +kernel) rfl)
theorem it_X2 : Cond.initialized RX2 ∈ zgw := (zgw_of 96 (by decide +kernel) rfl)
theorem it_X4 : Cond.initialized RX4 ∈ zgw := (zgw_of 97 (by decide +kernel) rfl)
theorem it_X8 : Cond.initialized RX8 ∈ zgw := (zgw_of 98 (by decide +kernel) rfl)
theorem it_X5 : Cond.initialized RX5 ∈ zgw := (zgw_of 99 (by decide +kernel) rfl)
theorem it_X9 : Cond.initialized RX9 ∈ zgw := (zgw_of 100 (by decide +kernel) rfl)
theorem it_X7 : Cond.initialized RX7 ∈ zgw := (zgw_of 101 (by decide +kernel) rfl)
theorem it_X6 : Cond.initialized RX6 ∈ zgw := (zgw_of 102 (by decide +kernel) rfl)
theorem it_X3 : Cond.initialized RX3 ∈ zgw := (zgw_of 103 (by decide +kernel) rfl)
theorem it_X11 : Cond.initialized RX11 ∈ zgw := (zgw_of 104 (by decide +kernel) rfl)
theorem it_J10 : Cond.initialized RJ10 ∈ zgw := (zgw_of 105 (by decide +kernel) rfl)
theorem it_X1 : Cond.initialized RX1 ∈ zgw := (zgw_of 106 (by decide +kernel) rfl)
theorem ck_L_7 : Cond.classLink RL 7 RX10 ∈ zgw := (zgw_of 107 (by decide +kernel) rfl)
theorem in_X10 : Cond.instantiable RX10 (zN 10) ∈ zgw := (zgw_of 108 (by decide +kernel) rfl)
theorem lk_L_9 : Cond.methodLink RL 9 yX10_init ∈ zgw := (zgw_of 109 (by decide +kernel) rfl)
theorem lk_X10_1 : Cond.methodLink RX10 1 Lib.objectInit ∈ zgw := (zgw_of 112 (by decide +kernel) rfl)
theorem ck_X10_7 : Cond.classLink RX10 7 RX0 ∈ zgw := (zgw_of 115 (by decide +kernel) rfl)
theorem in_X0 : Cond.instantiable RX0 (zN 0) ∈ zgw := (zgw_of 116 (by decide +kernel) rfl)
theorem lk_X10_11 : Cond.methodLink RX10 11 yX0_init ∈ zgw := (zgw_of 117 (by decide +kernel) rfl)
theorem lk_X0_3 : Cond.methodLink RX0 3 Lib.objectInit ∈ zgw := (zgw_of 120 (by decide +kernel) rfl)
theorem lk_X0_9 : Cond.methodLink RX0 9 yJ9_max_7cf53 ∈ zgw := (zgw_of 121 (by decide +kernel) rfl)
-- ('arrayClass',)
theorem ck_X10_24 : Cond.classLink RX10 24 RX2 ∈ zgw := (zgw_of 138 (by decide +kernel) rfl)
theorem in_X2 : Cond.instantiable RX2 (zN 2) ∈ zgw := (zgw_of 139 (by decide +kernel) rfl)
theorem lk_X10_26 : Cond.methodLink RX10 26 yX2_init ∈ zgw := (zgw_of 140 (by decide +kernel) rfl)
theorem lk_X2_3 : Cond.methodLink RX2 3 Lib.objectInit ∈ zgw := (zgw_of 143 (by decide +kernel) rfl)
theorem ck_X2_9 : Cond.classLink RX2 9 RX0 ∈ zgw := (zgw_of 144 (by decide +kernel) rfl)
theorem lk_X2_11 : Cond.methodLink RX2 11 yX0_init ∈ zgw := (zgw_of 145 (by decide +kernel) rfl)
theorem ck_X10_31 : Cond.classLink RX10 31 RX4 ∈ zgw := (zgw_of 159 (by decide +kernel) rfl)
theorem in_X4 : Cond.instantiable RX4 (zN 4) ∈ zgw := (zgw_of 160 (by decide +kernel) rfl)
theorem lk_X10_33 : Cond.methodLink RX10 33 yX4_init ∈ zgw := (zgw_of 161 (by decide +kernel) rfl)
theorem lk_X4_1 : Cond.methodLink RX4 1 Lib.objectInit ∈ zgw := (zgw_of 164 (by decide +kernel) rfl)
theorem ck_X4_13 : Cond.classLink RX4 13 RX2 ∈ zgw := (zgw_of 165 (by decide +kernel) rfl)
theorem lk_X4_19 : Cond.methodLink RX4 19 yX2_init ∈ zgw := (zgw_of 167 (by decide +kernel) rfl)
theorem ck_X10_40 : Cond.classLink RX10 40 RX8 ∈ zgw := (zgw_of 183 (by decide +kernel) rfl)
theorem in_X8 : Cond.instantiable RX8 (zN 8) ∈ zgw := (zgw_of 185 (by decide +kernel) rfl)
theorem lk_X10_46 : Cond.methodLink RX10 46 yX8_init ∈ zgw := (zgw_of 186 (by decide +kernel) rfl)
theorem lk_X8_1 : Cond.methodLink RX8 1 Lib.objectInit ∈ zgw := (zgw_of 189 (by decide +kernel) rfl)
theorem ck_X8_9 : Cond.classLink RX8 9 RX5 ∈ zgw := (zgw_of 190 (by decide +kernel) rfl)
theorem in_X5 : Cond.instantiable RX5 (zN 5) ∈ zgw := (zgw_of 192 (by decide +kernel) rfl)
theorem lk_X5_1 : Cond.methodLink RX5 1 Lib.objectInit ∈ zgw := (zgw_of 196 (by decide +kernel) rfl)
theorem ck_X10_51 : Cond.classLink RX10 51 RX9 ∈ zgw := (zgw_of 275 (by decide +kernel) rfl)
theorem in_X9 : Cond.instantiable RX9 (zN 9) ∈ zgw := (zgw_of 276 (by decide +kernel) rfl)
theorem lk_X10_53 : Cond.methodLink RX10 53 yX9_init ∈ zgw := (zgw_of 277 (by decide +kernel) rfl)
theorem lk_X9_3 : Cond.methodLink RX9 3 Lib.objectInit ∈ zgw := (zgw_of 280 (by decide +kernel) rfl)
theorem ck_X10_60 : Cond.classLink RX10 60 RX7 ∈ zgw := (zgw_of 297 (by decide +kernel) rfl)
theorem in_X7 : Cond.instantiable RX7 (zN 7) ∈ zgw := (zgw_of 298 (by decide +kernel) rfl)
theorem lk_X10_62 : Cond.methodLink RX10 62 yX7_init ∈ zgw := (zgw_of 299 (by decide +kernel) rfl)
theorem lk_X7_3 : Cond.methodLink RX7 3 Lib.objectInit ∈ zgw := (zgw_of 302 (by decide +kernel) rfl)
theorem ck_X10_67 : Cond.classLink RX10 67 RX6 ∈ zgw := (zgw_of 313 (by decide +kernel) rfl)
theorem in_X6 : Cond.instantiable RX6 (zN 6) ∈ zgw := (zgw_of 314 (by decide +kernel) rfl)
theorem lk_X10_72 : Cond.methodLink RX10 72 yX6_init ∈ zgw := (zgw_of 315 (by decide +kernel) rfl)
theorem lk_X6_3 : Cond.methodLink RX6 3 Lib.objectInit ∈ zgw := (zgw_of 318 (by decide +kernel) rfl)
theorem ck_X6_11 : Cond.classLink RX6 11 RX3 ∈ zgw := (zgw_of 319 (by decide +kernel) rfl)
theorem in_X3 : Cond.instantiable RX3 (zN 3) ∈ zgw := (zgw_of 321 (by decide +kernel) rfl)
theorem lk_X6_17 : Cond.methodLink RX6 17 yX3_init ∈ zgw := (zgw_of 322 (by decide +kernel) rfl)
theorem lk_X3_3 : Cond.methodLink RX3 3 Lib.objectInit ∈ zgw := (zgw_of 325 (by decide +kernel) rfl)
-- ('arrayClass',)
theorem lk_L_13 : Cond.methodLink RL 13 yX10_type ∈ zgw := (zgw_of 452 (by decide +kernel) rfl)
theorem lk_X10_87 : Cond.methodLink RX10 87 yX10_isWithin ∈ zgw := (zgw_of 456 (by decide +kernel) rfl)
theorem lk_X10_91 : Cond.methodLink RX10 91 yX0_append ∈ zgw := (zgw_of 459 (by decide +kernel) rfl)
theorem lk_L_18 : Cond.methodLink RL 18 yX10_clearText ∈ zgw := (zgw_of 463 (by decide +kernel) rfl)
theorem lk_L_23 : Cond.methodLink RL 23 yX10_templateFault ∈ zgw := (zgw_of 467 (by decide +kernel) rfl)
theorem lk_X10_99 : Cond.methodLink RX10 99 yX9_faultOf ∈ zgw := (zgw_of 471 (by decide +kernel) rfl)
theorem lk_X9_36 : Cond.methodLink RX9 36 yX9_moveTo ∈ zgw := (zgw_of 475 (by decide +kernel) rfl)
theorem lk_X9_46 : Cond.methodLink RX9 46 yJ9_max_7cf53 ∈ zgw := (zgw_of 479 (by decide +kernel) rfl)
theorem lk_X9_42 : Cond.methodLink RX9 42 yX9_parseBlock ∈ zgw := (zgw_of 480 (by decide +kernel) rfl)
theorem lk_X9_63 : Cond.methodLink RX9 63 yX9_parseItem ∈ zgw := (zgw_of 484 (by decide +kernel) rfl)
theorem lk_X9_66 : Cond.methodLink RX9 66 yX8_append ∈ zgw := (zgw_of 488 (by decide +kernel) rfl)
theorem lk_X8_20 : Cond.methodLink RX8 20 yX5_reset ∈ zgw := (zgw_of 492 (by decide +kernel) rfl)
theorem lk_X9_59 : Cond.methodLink RX9 59 yX9_refuse ∈ zgw := (zgw_of 496 (by decide +kernel) rfl)
theorem lk_X9_70 : Cond.methodLink RX9 70 yX9_parseCondition ∈ zgw := (zgw_of 500 (by decide +kernel) rfl)
theorem lk_X9_93 : Cond.methodLink RX9 93 yX9_parseReference ∈ zgw := (zgw_of 504 (by decide +kernel) rfl)
theorem lk_X9_112 : Cond.methodLink RX9 112 yX9_isName ∈ zgw := (zgw_of 508 (by decide +kernel) rfl)
theorem lk_X9_154 : Cond.methodLink RX9 154 yX8_lookUp ∈ zgw := (zgw_of 511 (by decide +kernel) rfl)
theorem lk_X9_157 : Cond.methodLink RX9 157 yX5_isPlainInteger ∈ zgw := (zgw_of 515 (by decide +kernel) rfl)
theorem lk_X9_87 : Cond.methodLink RX9 87 yX9_parseSign ∈ zgw := (zgw_of 519 (by decide +kernel) rfl)
theorem lk_X9_96 : Cond.methodLink RX9 96 yX9_parseNumber ∈ zgw := (zgw_of 523 (by decide +kernel) rfl)
theorem lk_X9_161 : Cond.methodLink RX9 161 yX9_isDigit ∈ zgw := (zgw_of 527 (by decide +kernel) rfl)
theorem lk_X9_164 : Cond.methodLink RX9 164 yX0_get ∈ zgw := (zgw_of 530 (by decide +kernel) rfl)
theorem lk_X9_77 : Cond.methodLink RX9 77 yX9_parseGap ∈ zgw := (zgw_of 534 (by decide +kernel) rfl)
theorem lk_X9_81 : Cond.methodLink RX9 81 yX9_parseName ∈ zgw := (zgw_of 538 (by decide +kernel) rfl)
theorem lk_X9_115 : Cond.methodLink RX9 115 yX8_sibling ∈ zgw := (zgw_of 542 (by decide +kernel) rfl)
theorem lk_X9_84 : Cond.methodLink RX9 84 yX9_parseType ∈ zgw := (zgw_of 546 (by decide +kernel) rfl)
theorem lk_X9_121 : Cond.methodLink RX9 121 yX9_parseInteger ∈ zgw := (zgw_of 550 (by decide +kernel) rfl)
theorem lk_X9_124 : Cond.methodLink RX9 124 yX9_parseCount ∈ zgw := (zgw_of 554 (by decide +kernel) rfl)
theorem lk_X9_127 : Cond.methodLink RX9 127 yX9_parseStructure ∈ zgw := (zgw_of 558 (by decide +kernel) rfl)
theorem lk_X9_130 : Cond.methodLink RX9 130 yX9_parseCheck ∈ zgw := (zgw_of 562 (by decide +kernel) rfl)
theorem lk_X9_139 : Cond.methodLink RX9 139 yX9_parseSibling ∈ zgw := (zgw_of 566 (by decide +kernel) rfl)
theorem lk_L_27 : Cond.methodLink RL 27 yX10_define ∈ zgw := (zgw_of 570 (by decide +kernel) rfl)
theorem lk_X10_103 : Cond.methodLink RX10 103 yX2_uses ∈ zgw := (zgw_of 574 (by decide +kernel) rfl)
theorem lk_X2_27 : Cond.methodLink RX2 27 yX2_isPresent ∈ zgw := (zgw_of 578 (by decide +kernel) rfl)
theorem lk_L_31 : Cond.methodLink RL 31 yX10_items ∈ zgw := (zgw_of 582 (by decide +kernel) rfl)
theorem lk_L_35 : Cond.methodLink RL 35 yX10_patternFault ∈ zgw := (zgw_of 586 (by decide +kernel) rfl)
theorem lk_X10_109 : Cond.methodLink RX10 109 yX7_faultOf ∈ zgw := (zgw_of 590 (by decide +kernel) rfl)
theorem lk_X7_27 : Cond.methodLink RX7 27 yX0_get ∈ zgw := (zgw_of 594 (by decide +kernel) rfl)
theorem lk_X7_31 : Cond.methodLink RX7 31 yX7_digitOf ∈ zgw := (zgw_of 595 (by decide +kernel) rfl)
theorem lk_L_39 : Cond.methodLink RL 39 yX10_find ∈ zgw := (zgw_of 598 (by decide +kernel) rfl)
theorem lk_X10_112 : Cond.methodLink RX10 112 yX7_fits ∈ zgw := (zgw_of 602 (by decide +kernel) rfl)
theorem lk_X7_34 : Cond.methodLink RX7 34 yX7_fitsDigit ∈ zgw := (zgw_of 606 (by decide +kernel) rfl)
theorem lk_L_43 : Cond.methodLink RL 43 yX10_matches ∈ zgw := (zgw_of 609 (by decide +kernel) rfl)
theorem lk_L_47 : Cond.methodLink RL 47 yX10_length ∈ zgw := (zgw_of 613 (by decide +kernel) rfl)
theorem lk_L_51 : Cond.methodLink RL 51 yX10_byteAt ∈ zgw := (zgw_of 617 (by decide +kernel) rfl)
theorem lk_X10_116 : Cond.methodLink RX10 116 yX0_has ∈ zgw := (zgw_of 621 (by decide +kernel) rfl)
theorem lk_X10_119 : Cond.methodLink RX10 119 yX0_get ∈ zgw := (zgw_of 625 (by decide +kernel) rfl)
theorem lk_L_55 : Cond.methodLink RL 55 yX10_insert ∈ zgw := (zgw_of 626 (by decide +kernel) rfl)
theorem lk_X10_123 : Cond.methodLink RX10 123 yX4_keep ∈ zgw := (zgw_of 630 (by decide +kernel) rfl)
theorem lk_X4_27 : Cond.methodLink RX4 27 yX2_become ∈ zgw := (zgw_of 634 (by decide +kernel) rfl)
theorem lk_X2_35 : Cond.methodLink RX2 35 yX0_become ∈ zgw := (zgw_of 638 (by decide +kernel) rfl)
theorem lk_X0_33 : Cond.methodLink RX0 33 arraycopyName ∈ zgw := (zgw_of 642 (by decide +kernel) rfl)
theorem lk_X10_126 : Cond.methodLink RX10 126 yX2_openGap ∈ zgw := (zgw_of 645 (by decide +kernel) rfl)
theorem lk_X2_39 : Cond.methodLink RX2 39 yX0_openGap ∈ zgw := (zgw_of 649 (by decide +kernel) rfl)
theorem lk_X10_130 : Cond.methodLink RX10 130 yX0_put ∈ zgw := (zgw_of 653 (by decide +kernel) rfl)
theorem lk_X10_133 : Cond.methodLink RX10 133 yX10_endChange ∈ zgw := (zgw_of 657 (by decide +kernel) rfl)
theorem lk_X10_269 : Cond.methodLink RX10 269 yX10_updateRound ∈ zgw := (zgw_of 661 (by decide +kernel) rfl)
theorem lk_X10_169 : Cond.methodLink RX10 169 yX10_layOut ∈ zgw := (zgw_of 665 (by decide +kernel) rfl)
theorem lk_X10_163 : Cond.methodLink RX10 163 yX2_isPresent ∈ zgw := (zgw_of 669 (by decide +kernel) rfl)
theorem lk_X10_281 : Cond.methodLink RX10 281 yX6_compute ∈ zgw := (zgw_of 670 (by decide +kernel) rfl)
theorem lk_X6_62 : Cond.methodLink RX6 62 yX6_goThrough ∈ zgw := (zgw_of 674 (by decide +kernel) rfl)
theorem lk_X6_81 : Cond.methodLink RX6 81 yX6_makeStep ∈ zgw := (zgw_of 678 (by decide +kernel) rfl)
theorem lk_X6_94 : Cond.methodLink RX6 94 yX6_repeatStructure ∈ zgw := (zgw_of 682 (by decide +kernel) rfl)
theorem lk_X6_107 : Cond.methodLink RX6 107 yX6_repetitionsOf ∈ zgw := (zgw_of 686 (by decide +kernel) rfl)
theorem kc_X6_121 : Cond.constantLong RX6 121 (Int64.ofInt (999)) ∈ zgw := (zgw_of 690 (by decide +kernel) rfl)
theorem lk_X6_123 : Cond.methodLink RX6 123 yJ9_min_f86c9 ∈ zgw := (zgw_of 691 (by decide +kernel) rfl)
theorem lk_X6_127 : Cond.methodLink RX6 127 yJ9_max_f86c9 ∈ zgw := (zgw_of 694 (by decide +kernel) rfl)
theorem lk_X6_75 : Cond.methodLink RX6 75 yJ9_max_7cf53 ∈ zgw := (zgw_of 697 (by decide +kernel) rfl)
theorem lk_X6_100 : Cond.methodLink RX6 100 yX6_align ∈ zgw := (zgw_of 698 (by decide +kernel) rfl)
theorem lk_X6_104 : Cond.methodLink RX6 104 yX6_layFields ∈ zgw := (zgw_of 702 (by decide +kernel) rfl)
theorem lk_X6_129 : Cond.methodLink RX6 129 yX6_layField ∈ zgw := (zgw_of 706 (by decide +kernel) rfl)
theorem lk_X6_171 : Cond.methodLink RX6 171 arraycopyName ∈ zgw := (zgw_of 710 (by decide +kernel) rfl)
theorem lk_X6_133 : Cond.methodLink RX6 133 yX5_isPlainInteger ∈ zgw := (zgw_of 711 (by decide +kernel) rfl)
theorem lk_X6_136 : Cond.methodLink RX6 136 yX0_read ∈ zgw := (zgw_of 712 (by decide +kernel) rfl)
theorem kc_X0_49 : Cond.constantLong RX0 49 (Int64.ofInt (256)) ∈ zgw := (zgw_of 716 (by decide +kernel) rfl)
theorem kc_X0_56 : Cond.constantLong RX0 56 (Int64.ofInt (2)) ∈ zgw := (zgw_of 717 (by decide +kernel) rfl)
theorem lk_X10_278 : Cond.methodLink RX10 278 yX10_updateWrongFields ∈ zgw := (zgw_of 718 (by decide +kernel) rfl)
theorem lk_X10_228 : Cond.methodLink RX10 228 yX1_isWrong ∈ zgw := (zgw_of 722 (by decide +kernel) rfl)
theorem lk_X1_42 : Cond.methodLink RX1 42 yX3_isCheck ∈ zgw := (zgw_of 725 (by decide +kernel) rfl)
theorem lk_X1_46 : Cond.methodLink RX1 46 yX0_read ∈ zgw := (zgw_of 729 (by decide +kernel) rfl)
theorem lk_X1_50 : Cond.methodLink RX1 50 yX1_expectedOf ∈ zgw := (zgw_of 730 (by decide +kernel) rfl)
theorem kc_X1_19 : Cond.constant RX1 19 (Int32.ofInt (65535)) ∈ zgw := (zgw_of 733 (by decide +kernel) rfl)
theorem lk_X1_26 : Cond.methodLink RX1 26 yX0_get ∈ zgw := (zgw_of 734 (by decide +kernel) rfl)
theorem lk_X1_32 : Cond.methodLink RX1 32 yJ9_max_7cf53 ∈ zgw := (zgw_of 735 (by decide +kernel) rfl)
theorem kc_X1_38 : Cond.constant RX1 38 (Int32.ofInt (65536)) ∈ zgw := (zgw_of 736 (by decide +kernel) rfl)
theorem lk_X1_39 : Cond.methodLink RX1 39 yX1_feed ∈ zgw := (zgw_of 737 (by decide +kernel) rfl)
theorem kc_X1_67 : Cond.constant RX1 67 (Int32.ofInt (32768)) ∈ zgw := (zgw_of 740 (by decide +kernel) rfl)
theorem lk_X10_222 : Cond.methodLink RX10 222 yX1_expectedOf ∈ zgw := (zgw_of 741 (by decide +kernel) rfl)
theorem lk_X10_214 : Cond.methodLink RX10 214 yX0_write ∈ zgw := (zgw_of 742 (by decide +kernel) rfl)
theorem kc_X0_58 : Cond.constantLong RX0 58 (Int64.ofInt (255)) ∈ zgw := (zgw_of 746 (by decide +kernel) rfl)
theorem lk_X0_29 : Cond.methodLink RX0 29 yX0_put ∈ zgw := (zgw_of 747 (by decide +kernel) rfl)
theorem lk_X10_272 : Cond.methodLink RX10 272 yX4_takeBack ∈ zgw := (zgw_of 748 (by decide +kernel) rfl)
theorem lk_X10_275 : Cond.methodLink RX10 275 yX4_commit ∈ zgw := (zgw_of 752 (by decide +kernel) rfl)
theorem lk_X4_31 : Cond.methodLink RX4 31 yX4_dropOldest ∈ zgw := (zgw_of 756 (by decide +kernel) rfl)
theorem lk_L_60 : Cond.methodLink RL 60 yX10_delete ∈ zgw := (zgw_of 760 (by decide +kernel) rfl)
theorem lk_X10_137 : Cond.methodLink RX10 137 yX2_closeGap ∈ zgw := (zgw_of 764 (by decide +kernel) rfl)
theorem lk_X2_43 : Cond.methodLink RX2 43 yX0_closeGap ∈ zgw := (zgw_of 768 (by decide +kernel) rfl)
theorem lk_X2_46 : Cond.methodLink RX2 46 yJ9_max_7cf53 ∈ zgw := (zgw_of 772 (by decide +kernel) rfl)
theorem lk_L_65 : Cond.methodLink RL 65 yX10_overwrite ∈ zgw := (zgw_of 773 (by decide +kernel) rfl)
theorem lk_L_69 : Cond.methodLink RL 69 yX10_copy ∈ zgw := (zgw_of 777 (by decide +kernel) rfl)
theorem lk_X10_140 : Cond.methodLink RX10 140 yJ9_min_7cf53 ∈ zgw := (zgw_of 781 (by decide +kernel) rfl)
theorem lk_X10_146 : Cond.methodLink RX10 146 yX0_become ∈ zgw := (zgw_of 784 (by decide +kernel) rfl)
theorem lk_L_73 : Cond.methodLink RL 73 yX10_paste ∈ zgw := (zgw_of 785 (by decide +kernel) rfl)
theorem lk_X10_150 : Cond.methodLink RX10 150 yX0_putAll ∈ zgw := (zgw_of 789 (by decide +kernel) rfl)
theorem lk_X0_25 : Cond.methodLink RX0 25 yX0_get ∈ zgw := (zgw_of 793 (by decide +kernel) rfl)
theorem lk_L_77 : Cond.methodLink RL 77 yX10_pasteOver ∈ zgw := (zgw_of 794 (by decide +kernel) rfl)
theorem lk_L_81 : Cond.methodLink RL 81 yX10_lay ∈ zgw := (zgw_of 798 (by decide +kernel) rfl)
theorem lk_X10_160 : Cond.methodLink RX10 160 yX10_fieldsOf ∈ zgw := (zgw_of 802 (by decide +kernel) rfl)
theorem lk_L_85 : Cond.methodLink RL 85 yX10_remove ∈ zgw := (zgw_of 806 (by decide +kernel) rfl)
theorem lk_X10_166 : Cond.methodLink RX10 166 yX2_drop ∈ zgw := (zgw_of 810 (by decide +kernel) rfl)
theorem lk_L_89 : Cond.methodLink RL 89 yX10_overlay ∈ zgw := (zgw_of 814 (by decide +kernel) rfl)
theorem lk_X10_172 : Cond.methodLink RX10 172 yX10_overlayProperty ∈ zgw := (zgw_of 818 (by decide +kernel) rfl)
theorem lk_X10_291 : Cond.methodLink RX10 291 yX10_wrongFields ∈ zgw := (zgw_of 822 (by decide +kernel) rfl)
theorem lk_L_93 : Cond.methodLink RL 93 yX10_field ∈ zgw := (zgw_of 826 (by decide +kernel) rfl)
theorem lk_X10_175 : Cond.methodLink RX10 175 yX10_layOutField ∈ zgw := (zgw_of 830 (by decide +kernel) rfl)
theorem lk_X10_183 : Cond.methodLink RX10 183 yX3_property ∈ zgw := (zgw_of 834 (by decide +kernel) rfl)
theorem lk_L_97 : Cond.methodLink RL 97 yX10_value ∈ zgw := (zgw_of 838 (by decide +kernel) rfl)
theorem lk_X10_188 : Cond.methodLink RX10 188 yX0_read ∈ zgw := (zgw_of 842 (by decide +kernel) rfl)
theorem kc_X10_194 : Cond.constantLong RX10 194 (Int64.ofInt (-9223372036854775808)) ∈ zgw := (zgw_of 843 (by decide +kernel) rfl)
theorem lk_L_102 : Cond.methodLink RL 102 yX10_path ∈ zgw := (zgw_of 844 (by decide +kernel) rfl)
theorem lk_X10_196 : Cond.methodLink RX10 196 yX3_pathName ∈ zgw := (zgw_of 848 (by decide +kernel) rfl)
theorem lk_L_106 : Cond.methodLink RL 106 yX10_fieldAt ∈ zgw := (zgw_of 852 (by decide +kernel) rfl)
theorem lk_X10_200 : Cond.methodLink RX10 200 yX3_contains ∈ zgw := (zgw_of 856 (by decide +kernel) rfl)
theorem lk_L_110 : Cond.methodLink RL 110 yX10_counterpart ∈ zgw := (zgw_of 860 (by decide +kernel) rfl)
theorem lk_X10_203 : Cond.methodLink RX10 203 yX6_seek ∈ zgw := (zgw_of 864 (by decide +kernel) rfl)
theorem lk_X10_206 : Cond.methodLink RX10 206 yX6_firstSought ∈ zgw := (zgw_of 868 (by decide +kernel) rfl)
theorem lk_X6_180 : Cond.methodLink RX6 180 yX6_isSought ∈ zgw := (zgw_of 872 (by decide +kernel) rfl)
theorem lk_L_116 : Cond.methodLink RL 116 yX10_setField ∈ zgw := (zgw_of 876 (by decide +kernel) rfl)
theorem lk_X10_210 : Cond.methodLink RX10 210 yX3_takes ∈ zgw := (zgw_of 880 (by decide +kernel) rfl)
theorem kc_X3_29 : Cond.constantLong RX3 29 (Int64.ofInt (2)) ∈ zgw := (zgw_of 884 (by decide +kernel) rfl)
theorem lk_L_121 : Cond.methodLink RL 121 yX10_follow ∈ zgw := (zgw_of 885 (by decide +kernel) rfl)
theorem lk_L_126 : Cond.methodLink RL 126 yX10_refresh ∈ zgw := (zgw_of 889 (by decide +kernel) rfl)
theorem lk_L_130 : Cond.methodLink RL 130 yX10_expected ∈ zgw := (zgw_of 893 (by decide +kernel) rfl)
theorem lk_X10_218 : Cond.methodLink RX10 218 yX3_isCheck ∈ zgw := (zgw_of 897 (by decide +kernel) rfl)
theorem lk_L_134 : Cond.methodLink RL 134 yX10_repair ∈ zgw := (zgw_of 898 (by decide +kernel) rfl)
theorem lk_X10_232 : Cond.methodLink RX10 232 yX1_repairOf ∈ zgw := (zgw_of 902 (by decide +kernel) rfl)
theorem lk_X1_54 : Cond.methodLink RX1 54 yJ9_min_7cf53 ∈ zgw := (zgw_of 905 (by decide +kernel) rfl)
theorem lk_X1_57 : Cond.methodLink RX1 57 yX1_repairOfCrc ∈ zgw := (zgw_of 906 (by decide +kernel) rfl)
theorem lk_X1_64 : Cond.methodLink RX1 64 yX1_halve ∈ zgw := (zgw_of 909 (by decide +kernel) rfl)
theorem lk_X1_61 : Cond.methodLink RX1 61 yJ9_floorMod_7cf53 ∈ zgw := (zgw_of 912 (by decide +kernel) rfl)
theorem lk_L_138 : Cond.methodLink RL 138 yX10_undo ∈ zgw := (zgw_of 915 (by decide +kernel) rfl)
theorem lk_X10_236 : Cond.methodLink RX10 236 yX4_back ∈ zgw := (zgw_of 919 (by decide +kernel) rfl)
theorem lk_X4_34 : Cond.methodLink RX4 34 yX4_keep ∈ zgw := (zgw_of 923 (by decide +kernel) rfl)
theorem lk_X4_37 : Cond.methodLink RX4 37 yX4_takeBack ∈ zgw := (zgw_of 924 (by decide +kernel) rfl)
theorem lk_L_142 : Cond.methodLink RL 142 yX10_redo ∈ zgw := (zgw_of 925 (by decide +kernel) rfl)
theorem lk_X10_242 : Cond.methodLink RX10 242 yX4_forward ∈ zgw := (zgw_of 929 (by decide +kernel) rfl)
theorem lk_L_146 : Cond.methodLink RL 146 yX10_mark ∈ zgw := (zgw_of 933 (by decide +kernel) rfl)
theorem lk_L_150 : Cond.methodLink RL 150 yX10_difference ∈ zgw := (zgw_of 937 (by decide +kernel) rfl)
theorem lk_X10_248 : Cond.methodLink RX10 248 yJ9_max_7cf53 ∈ zgw := (zgw_of 941 (by decide +kernel) rfl)
theorem lk_L_154 : Cond.methodLink RL 154 yX10_distance ∈ zgw := (zgw_of 942 (by decide +kernel) rfl)
theorem lk_X10_251 : Cond.methodLink RX10 251 yX10_nextDistances ∈ zgw := (zgw_of 946 (by decide +kernel) rfl)
theorem lk_L_158 : Cond.methodLink RL 158 yX10_count ∈ zgw := (zgw_of 950 (by decide +kernel) rfl)
theorem lk_X10_254 : Cond.methodLink RX10 254 yX10_numberOf ∈ zgw := (zgw_of 954 (by decide +kernel) rfl)
theorem lk_X10_294 : Cond.methodLink RX10 294 yX2_presentOverlays ∈ zgw := (zgw_of 958 (by decide +kernel) rfl)
theorem lk_X10_297 : Cond.methodLink RX10 297 yX10_wrongFieldsOfAll ∈ zgw := (zgw_of 962 (by decide +kernel) rfl)
theorem lk_L_162 : Cond.methodLink RL 162 yX10_digest ∈ zgw := (zgw_of 966 (by decide +kernel) rfl)
theorem kc_X10_257 : Cond.constantLong RX10 257 (Int64.ofInt (11)) ∈ zgw := (zgw_of 970 (by decide +kernel) rfl)
theorem lk_X10_259 : Cond.methodLink RX10 259 yX10_mix ∈ zgw := (zgw_of 971 (by decide +kernel) rfl)
theorem kc_X10_300 : Cond.constantLong RX10 300 (Int64.ofInt (31)) ∈ zgw := (zgw_of 974 (by decide +kernel) rfl)
theorem lk_X10_263 : Cond.methodLink RX10 263 yX10_mixOverlay ∈ zgw := (zgw_of 975 (by decide +kernel) rfl)
theorem lk_X10_302 : Cond.methodLink RX10 302 yX10_mixField ∈ zgw := (zgw_of 979 (by decide +kernel) rfl)
theorem kc_X10_267 : Cond.constantLong RX10 267 (Int64.ofInt (-1)) ∈ zgw := (zgw_of 983 (by decide +kernel) rfl)
theorem ck_L_10 : Cond.classLink RL 10 RX11 ∈ zgw := (zgw_of 984 (by decide +kernel) rfl)
theorem in_X11 : Cond.instantiable RX11 (zN 11) ∈ zgw := (zgw_of 985 (by decide +kernel) rfl)
theorem lk_L_12 : Cond.methodLink RL 12 yX11_init ∈ zgw := (zgw_of 986 (by decide +kernel) rfl)
theorem lk_X11_1 : Cond.methodLink RX11 1 Lib.objectInit ∈ zgw := (zgw_of 989 (by decide +kernel) rfl)
theorem lk_L_17 : Cond.methodLink RL 17 yX11_type ∈ zgw := (zgw_of 1126 (by decide +kernel) rfl)
theorem kc_X11_95 : Cond.constantLong RX11 95 (Int64.ofInt (127)) ∈ zgw := (zgw_of 1130 (by decide +kernel) rfl)
theorem lk_X11_91 : Cond.methodLink RX11 91 yX11_in ∈ zgw := (zgw_of 1131 (by decide +kernel) rfl)
theorem lk_L_22 : Cond.methodLink RL 22 yX11_clearText ∈ zgw := (zgw_of 1134 (by decide +kernel) rfl)
theorem lk_L_26 : Cond.methodLink RL 26 yX11_templateFault ∈ zgw := (zgw_of 1138 (by decide +kernel) rfl)
theorem lk_X11_111 : Cond.methodLink RX11 111 yX11_blanks ∈ zgw := (zgw_of 1142 (by decide +kernel) rfl)
theorem lk_X11_104 : Cond.methodLink RX11 104 yX11_next ∈ zgw := (zgw_of 1146 (by decide +kernel) rfl)
theorem lk_X11_195 : Cond.methodLink RX11 195 yX11_closes ∈ zgw := (zgw_of 1150 (by decide +kernel) rfl)
theorem lk_X11_114 : Cond.methodLink RX11 114 yX11_takes ∈ zgw := (zgw_of 1154 (by decide +kernel) rfl)
theorem lk_X11_143 : Cond.methodLink RX11 143 yX11_readOf ∈ zgw := (zgw_of 1158 (by decide +kernel) rfl)
theorem lk_X11_139 : Cond.methodLink RX11 139 yX11_of ∈ zgw := (zgw_of 1162 (by decide +kernel) rfl)
theorem lk_X11_163 : Cond.methodLink RX11 163 yX11_writes ∈ zgw := (zgw_of 1166 (by decide +kernel) rfl)
theorem lk_X11_173 : Cond.methodLink RX11 173 yX11_readsCount ∈ zgw := (zgw_of 1170 (by decide +kernel) rfl)
theorem kc_X11_125 : Cond.constantLong RX11 125 (Int64.ofInt (48)) ∈ zgw := (zgw_of 1174 (by decide +kernel) rfl)
theorem kc_X11_127 : Cond.constantLong RX11 127 (Int64.ofInt (57)) ∈ zgw := (zgw_of 1175 (by decide +kernel) rfl)
theorem lk_X11_156 : Cond.methodLink RX11 156 yX11_number ∈ zgw := (zgw_of 1176 (by decide +kernel) rfl)
theorem lk_X11_118 : Cond.methodLink RX11 118 yX11_faults ∈ zgw := (zgw_of 1180 (by decide +kernel) rfl)
theorem lk_X11_129 : Cond.methodLink RX11 129 yX11_blanksBehindNumber ∈ zgw := (zgw_of 1184 (by decide +kernel) rfl)
theorem lk_X11_159 : Cond.methodLink RX11 159 yX11_integerNamed ∈ zgw := (zgw_of 1188 (by decide +kernel) rfl)
theorem lk_X11_150 : Cond.methodLink RX11 150 yX11_name ∈ zgw := (zgw_of 1192 (by decide +kernel) rfl)
theorem kc_X11_135 : Cond.constantLong RX11 135 (Int64.ofInt (97)) ∈ zgw := (zgw_of 1196 (by decide +kernel) rfl)
theorem kc_X11_137 : Cond.constantLong RX11 137 (Int64.ofInt (122)) ∈ zgw := (zgw_of 1197 (by decide +kernel) rfl)
theorem lk_X11_153 : Cond.methodLink RX11 153 yX11_named ∈ zgw := (zgw_of 1198 (by decide +kernel) rfl)
theorem lk_X11_147 : Cond.methodLink RX11 147 yX11_inBlock ∈ zgw := (zgw_of 1202 (by decide +kernel) rfl)
theorem lk_X11_167 : Cond.methodLink RX11 167 yX11_expects ∈ zgw := (zgw_of 1206 (by decide +kernel) rfl)
theorem lk_X11_198 : Cond.methodLink RX11 198 yX11_readsItem ∈ zgw := (zgw_of 1210 (by decide +kernel) rfl)
theorem lk_X11_189 : Cond.methodLink RX11 189 yX11_readsNamed ∈ zgw := (zgw_of 1214 (by decide +kernel) rfl)
theorem lk_X11_192 : Cond.methodLink RX11 192 yX11_readsType ∈ zgw := (zgw_of 1218 (by decide +kernel) rfl)
theorem lk_X11_176 : Cond.methodLink RX11 176 yX11_readsInteger ∈ zgw := (zgw_of 1222 (by decide +kernel) rfl)
theorem lk_X11_179 : Cond.methodLink RX11 179 yX11_readsCheck ∈ zgw := (zgw_of 1226 (by decide +kernel) rfl)
theorem lk_X11_170 : Cond.methodLink RX11 170 yX11_siblingNamed ∈ zgw := (zgw_of 1230 (by decide +kernel) rfl)
theorem lk_L_30 : Cond.methodLink RL 30 yX11_define ∈ zgw := (zgw_of 1234 (by decide +kernel) rfl)
theorem kc_X11_89 : Cond.constantLong RX11 89 (Int64.ofInt (3)) ∈ zgw := (zgw_of 1238 (by decide +kernel) rfl)
theorem lk_X11_201 : Cond.methodLink RX11 201 yX11_templateFault ∈ zgw := (zgw_of 1239 (by decide +kernel) rfl)
theorem lk_X11_204 : Cond.methodLink RX11 204 yX11_isPresent ∈ zgw := (zgw_of 1240 (by decide +kernel) rfl)
theorem lk_X11_207 : Cond.methodLink RX11 207 yX11_templateOf ∈ zgw := (zgw_of 1244 (by decide +kernel) rfl)
theorem lk_L_34 : Cond.methodLink RL 34 yX11_items ∈ zgw := (zgw_of 1248 (by decide +kernel) rfl)
theorem lk_L_38 : Cond.methodLink RL 38 yX11_patternFault ∈ zgw := (zgw_of 1252 (by decide +kernel) rfl)
theorem lk_X11_215 : Cond.methodLink RX11 215 yX11_halfOf ∈ zgw := (zgw_of 1256 (by decide +kernel) rfl)
theorem kc_X11_210 : Cond.constantLong RX11 210 (Int64.ofInt (102)) ∈ zgw := (zgw_of 1259 (by decide +kernel) rfl)
theorem lk_L_42 : Cond.methodLink RL 42 yX11_find ∈ zgw := (zgw_of 1260 (by decide +kernel) rfl)
theorem kc_X11_221 : Cond.constantLong RX11 221 (Int64.ofInt (200)) ∈ zgw := (zgw_of 1264 (by decide +kernel) rfl)
theorem lk_X11_223 : Cond.methodLink RX11 223 yX11_patternFault ∈ zgw := (zgw_of 1265 (by decide +kernel) rfl)
theorem lk_X11_218 : Cond.methodLink RX11 218 yX11_size ∈ zgw := (zgw_of 1266 (by decide +kernel) rfl)
theorem lk_X11_226 : Cond.methodLink RX11 226 yX11_matchesAt ∈ zgw := (zgw_of 1270 (by decide +kernel) rfl)
theorem lk_L_46 : Cond.methodLink RL 46 yX11_matches ∈ zgw := (zgw_of 1274 (by decide +kernel) rfl)
theorem lk_L_50 : Cond.methodLink RL 50 yX11_length ∈ zgw := (zgw_of 1278 (by decide +kernel) rfl)
theorem lk_L_54 : Cond.methodLink RL 54 yX11_byteAt ∈ zgw := (zgw_of 1282 (by decide +kernel) rfl)
theorem lk_L_59 : Cond.methodLink RL 59 yX11_insert ∈ zgw := (zgw_of 1286 (by decide +kernel) rfl)
theorem kc_X11_293 : Cond.constantLong RX11 293 (Int64.ofInt (255)) ∈ zgw := (zgw_of 1290 (by decide +kernel) rfl)
theorem kc_X11_326 : Cond.constantLong RX11 326 (Int64.ofInt (64)) ∈ zgw := (zgw_of 1291 (by decide +kernel) rfl)
theorem lk_X11_328 : Cond.methodLink RX11 328 yX11_keeps ∈ zgw := (zgw_of 1292 (by decide +kernel) rfl)
theorem lk_X11_306 : Cond.methodLink RX11 306 yX11_copies ∈ zgw := (zgw_of 1296 (by decide +kernel) rfl)
theorem lk_X11_331 : Cond.methodLink RX11 331 yX11_opens ∈ zgw := (zgw_of 1299 (by decide +kernel) rfl)
theorem lk_X11_275 : Cond.methodLink RX11 275 yX11_offsetOf ∈ zgw := (zgw_of 1303 (by decide +kernel) rfl)
theorem lk_X11_323 : Cond.methodLink RX11 323 yX11_moves ∈ zgw := (zgw_of 1307 (by decide +kernel) rfl)
theorem lk_X11_334 : Cond.methodLink RX11 334 yX11_stays ∈ zgw := (zgw_of 1311 (by decide +kernel) rfl)
theorem lk_X11_314 : Cond.methodLink RX11 314 yX11_updates ∈ zgw := (zgw_of 1315 (by decide +kernel) rfl)
theorem lk_X11_302 : Cond.methodLink RX11 302 yX11_rounds ∈ zgw := (zgw_of 1319 (by decide +kernel) rfl)
theorem lk_X11_295 : Cond.methodLink RX11 295 yX11_laysOut ∈ zgw := (zgw_of 1323 (by decide +kernel) rfl)
theorem lk_X11_260 : Cond.methodLink RX11 260 yX11_goesIn ∈ zgw := (zgw_of 1327 (by decide +kernel) rfl)
theorem lk_X11_278 : Cond.methodLink RX11 278 yX11_passes ∈ zgw := (zgw_of 1331 (by decide +kernel) rfl)
theorem lk_X11_266 : Cond.methodLink RX11 266 yX11_aligns ∈ zgw := (zgw_of 1335 (by decide +kernel) rfl)
theorem lk_X11_269 : Cond.methodLink RX11 269 yX11_enters ∈ zgw := (zgw_of 1339 (by decide +kernel) rfl)
theorem lk_X11_249 : Cond.methodLink RX11 249 yX11_countOf ∈ zgw := (zgw_of 1343 (by decide +kernel) rfl)
theorem kc_X11_247 : Cond.constantLong RX11 247 (Int64.ofInt (999)) ∈ zgw := (zgw_of 1347 (by decide +kernel) rfl)
theorem lk_X11_272 : Cond.methodLink RX11 272 yX11_laysAll ∈ zgw := (zgw_of 1348 (by decide +kernel) rfl)
theorem lk_X11_252 : Cond.methodLink RX11 252 yX11_lays ∈ zgw := (zgw_of 1352 (by decide +kernel) rfl)
theorem lk_X11_256 : Cond.methodLink RX11 256 yX11_valueOf ∈ zgw := (zgw_of 1356 (by decide +kernel) rfl)
theorem lk_X11_231 : Cond.methodLink RX11 231 yX11_read ∈ zgw := (zgw_of 1360 (by decide +kernel) rfl)
theorem kc_X11_229 : Cond.constantLong RX11 229 (Int64.ofInt (2)) ∈ zgw := (zgw_of 1364 (by decide +kernel) rfl)
theorem lk_X11_290 : Cond.methodLink RX11 290 yX11_isWrong ∈ zgw := (zgw_of 1365 (by decide +kernel) rfl)
theorem lk_X11_287 : Cond.methodLink RX11 287 yX11_expectedOf ∈ zgw := (zgw_of 1369 (by decide +kernel) rfl)
theorem kc_X11_281 : Cond.constant RX11 281 (Int32.ofInt (65535)) ∈ zgw := (zgw_of 1373 (by decide +kernel) rfl)
theorem lk_X11_282 : Cond.methodLink RX11 282 yX11_adds ∈ zgw := (zgw_of 1374 (by decide +kernel) rfl)
theorem kc_X11_285 : Cond.constant RX11 285 (Int32.ofInt (65536)) ∈ zgw := (zgw_of 1377 (by decide +kernel) rfl)
theorem kc_X11_286 : Cond.constant RX11 286 (Int32.ofInt (32768)) ∈ zgw := (zgw_of 1378 (by decide +kernel) rfl)
theorem lk_X11_298 : Cond.methodLink RX11 298 yX11_puts ∈ zgw := (zgw_of 1379 (by decide +kernel) rfl)
theorem lk_L_64 : Cond.methodLink RL 64 yX11_delete ∈ zgw := (zgw_of 1383 (by decide +kernel) rfl)
theorem lk_L_68 : Cond.methodLink RL 68 yX11_overwrite ∈ zgw := (zgw_of 1387 (by decide +kernel) rfl)
theorem lk_L_72 : Cond.methodLink RL 72 yX11_copy ∈ zgw := (zgw_of 1391 (by decide +kernel) rfl)
theorem kc_X11_338 : Cond.constantLong RX11 338 (Int64.ofInt (32)) ∈ zgw := (zgw_of 1395 (by decide +kernel) rfl)
theorem lk_L_76 : Cond.methodLink RL 76 yX11_paste ∈ zgw := (zgw_of 1396 (by decide +kernel) rfl)
theorem lk_L_80 : Cond.methodLink RL 80 yX11_pasteOver ∈ zgw := (zgw_of 1400 (by decide +kernel) rfl)
theorem lk_L_84 : Cond.methodLink RL 84 yX11_lay ∈ zgw := (zgw_of 1404 (by decide +kernel) rfl)
theorem lk_L_88 : Cond.methodLink RL 88 yX11_remove ∈ zgw := (zgw_of 1408 (by decide +kernel) rfl)
theorem lk_L_92 : Cond.methodLink RL 92 yX11_overlay ∈ zgw := (zgw_of 1412 (by decide +kernel) rfl)
theorem kc_X11_343 : Cond.constantLong RX11 343 (Int64.ofInt (5)) ∈ zgw := (zgw_of 1416 (by decide +kernel) rfl)
theorem lk_X11_345 : Cond.methodLink RX11 345 yX11_wrongs ∈ zgw := (zgw_of 1417 (by decide +kernel) rfl)
theorem lk_L_96 : Cond.methodLink RL 96 yX11_field ∈ zgw := (zgw_of 1421 (by decide +kernel) rfl)
theorem lk_X11_348 : Cond.methodLink RX11 348 yX11_hasField ∈ zgw := (zgw_of 1425 (by decide +kernel) rfl)
theorem kc_X11_352 : Cond.constantLong RX11 352 (Int64.ofInt (6)) ∈ zgw := (zgw_of 1429 (by decide +kernel) rfl)
theorem lk_X11_354 : Cond.methodLink RX11 354 yX11_partOf ∈ zgw := (zgw_of 1430 (by decide +kernel) rfl)
theorem lk_L_101 : Cond.methodLink RL 101 yX11_value ∈ zgw := (zgw_of 1434 (by decide +kernel) rfl)
theorem kc_X11_357 : Cond.constantLong RX11 357 (Int64.ofInt (-9223372036854775808)) ∈ zgw := (zgw_of 1438 (by decide +kernel) rfl)
theorem lk_L_105 : Cond.methodLink RL 105 yX11_path ∈ zgw := (zgw_of 1439 (by decide +kernel) rfl)
theorem lk_L_109 : Cond.methodLink RL 109 yX11_fieldAt ∈ zgw := (zgw_of 1443 (by decide +kernel) rfl)
theorem lk_L_113 : Cond.methodLink RL 113 yX11_counterpart ∈ zgw := (zgw_of 1447 (by decide +kernel) rfl)
theorem lk_L_120 : Cond.methodLink RL 120 yX11_setField ∈ zgw := (zgw_of 1451 (by decide +kernel) rfl)
theorem lk_X11_359 : Cond.methodLink RX11 359 yX11_fits ∈ zgw := (zgw_of 1455 (by decide +kernel) rfl)
theorem lk_L_125 : Cond.methodLink RL 125 yX11_follow ∈ zgw := (zgw_of 1459 (by decide +kernel) rfl)
theorem lk_L_129 : Cond.methodLink RL 129 yX11_refresh ∈ zgw := (zgw_of 1463 (by decide +kernel) rfl)
theorem lk_L_133 : Cond.methodLink RL 133 yX11_expected ∈ zgw := (zgw_of 1467 (by decide +kernel) rfl)
theorem lk_L_137 : Cond.methodLink RL 137 yX11_repair ∈ zgw := (zgw_of 1471 (by decide +kernel) rfl)
theorem lk_X11_363 : Cond.methodLink RX11 363 yX11_less ∈ zgw := (zgw_of 1475 (by decide +kernel) rfl)
theorem lk_L_141 : Cond.methodLink RL 141 yX11_undo ∈ zgw := (zgw_of 1478 (by decide +kernel) rfl)
theorem lk_L_145 : Cond.methodLink RL 145 yX11_redo ∈ zgw := (zgw_of 1482 (by decide +kernel) rfl)
theorem lk_L_149 : Cond.methodLink RL 149 yX11_mark ∈ zgw := (zgw_of 1486 (by decide +kernel) rfl)
theorem lk_L_153 : Cond.methodLink RL 153 yX11_difference ∈ zgw := (zgw_of 1490 (by decide +kernel) rfl)
theorem lk_L_157 : Cond.methodLink RL 157 yX11_distance ∈ zgw := (zgw_of 1494 (by decide +kernel) rfl)
theorem lk_L_161 : Cond.methodLink RL 161 yX11_count ∈ zgw := (zgw_of 1498 (by decide +kernel) rfl)
theorem lk_X11_369 : Cond.methodLink RX11 369 yX11_present ∈ zgw := (zgw_of 1502 (by decide +kernel) rfl)
theorem lk_X11_372 : Cond.methodLink RX11 372 yX11_allWrong ∈ zgw := (zgw_of 1506 (by decide +kernel) rfl)
theorem lk_L_166 : Cond.methodLink RL 166 yX11_digest ∈ zgw := (zgw_of 1510 (by decide +kernel) rfl)
theorem kc_X11_388 : Cond.constantLong RX11 388 (Int64.ofInt (11)) ∈ zgw := (zgw_of 1514 (by decide +kernel) rfl)
theorem lk_X11_384 : Cond.methodLink RX11 384 yX11_mixes ∈ zgw := (zgw_of 1515 (by decide +kernel) rfl)
theorem kc_X11_375 : Cond.constantLong RX11 375 (Int64.ofInt (31)) ∈ zgw := (zgw_of 1519 (by decide +kernel) rfl)
theorem lk_X11_390 : Cond.methodLink RX11 390 yX11_mixesOverlay ∈ zgw := (zgw_of 1520 (by decide +kernel) rfl)
theorem lk_X11_381 : Cond.methodLink RX11 381 yX11_overlay ∈ zgw := (zgw_of 1524 (by decide +kernel) rfl)
theorem kc_X11_393 : Cond.constantLong RX11 393 (Int64.ofInt (-1)) ∈ zgw := (zgw_of 1525 (by decide +kernel) rfl)
theorem lk_X11_395 : Cond.methodLink RX11 395 yX11_count ∈ zgw := (zgw_of 1526 (by decide +kernel) rfl)
theorem kc_L_114 : Cond.constantLong RL 114 (Int64.ofInt (4294967295)) ∈ zgw := (zgw_of 1527 (by decide +kernel) rfl)
theorem ob_i : Cond.instanceMethod Lib.objectInit ∈ zgw := (zgw_of 113 (by decide +kernel) rfl)
theorem ob_c : Cond.code Lib.objectInit ⟨#[0xb1]⟩ 1 none ∈ zgw := (zgw_of 114 (by decide +kernel) rfl)
theorem ac_n : Cond.native arraycopyName ∈ zgw := (zgw_of 644 (by decide +kernel) rfl)
theorem ac_s : Cond.static arraycopyName ∈ zgw := (zgw_of 643 (by decide +kernel) rfl)
theorem ac_i : Cond.initialized "java/lang/System" ∈ zgw := (zgw_of 105 (by decide +kernel) rfl)
theorem ar_I : Cond.arrayClass .int ∈ zgw := (zgw_of 137 (by decide +kernel) rfl)
theorem ar_L : Cond.arrayClass .long ∈ zgw := (zgw_of 414 (by decide +kernel) rfl)
end
section
theorem zi_of {z : Int} (h : zII z) : (Int32.ofInt z).toInt = z := by
  have h1 := h.1
  have h2 := h.2
  rw [Int32.toInt_ofInt]
  show z.bmod (2 ^ 32) = z
  rw [Int.bmod_eq_of_le (by omega) (by omega)]
theorem zl_of {z : Int} (h : zIL z) : (Int64.ofInt z).toInt = z := by
  have h1 := h.1
  have h2 := h.2
  rw [Int64.toInt_ofInt]
  show z.bmod (2 ^ 64) = z
  rw [Int.bmod_eq_of_le (by omega) (by omega)]
theorem zi_rng (x : Int32) : zII x.toInt := by
  have h1 := Int32.le_toInt x
  have h2 := Int32.toInt_lt x
  exact ⟨by omega, by omega⟩
theorem zl_rng (x : Int64) : zIL x.toInt := by
  have h1 := Int64.le_toInt x
  have h2 := Int64.toInt_lt x
  exact ⟨by omega, by omega⟩
theorem zi_lt {x y : Int} (hx : zII x) (hy : zII y) : Int32.ofInt x < Int32.ofInt y ↔ x < y := by rw [Int32.lt_iff_toInt_lt, zi_of hx, zi_of hy]
theorem zi_le {x y : Int} (hx : zII x) (hy : zII y) : Int32.ofInt x ≤ Int32.ofInt y ↔ x ≤ y := by rw [Int32.le_iff_toInt_le, zi_of hx, zi_of hy]
theorem zi_eq {x y : Int} (hx : zII x) (hy : zII y) : Int32.ofInt x = Int32.ofInt y ↔ x = y := by rw [← Int32.toInt_inj, zi_of hx, zi_of hy]
theorem zl_lt' {x y : Int} (hx : zIL x) (hy : zIL y) : Int64.ofInt x < Int64.ofInt y ↔ x < y := by rw [Int64.lt_iff_toInt_lt, zl_of hx, zl_of hy]
theorem zl_eq {x y : Int} (hx : zIL x) (hy : zIL y) : Int64.ofInt x = Int64.ofInt y ↔ x = y := by rw [← Int64.toInt_inj, zl_of hx, zl_of hy]
theorem zII0 : zII 0 := ⟨by omega, by omega⟩
theorem zi_0 : Int32.ofInt 0 = 0 := rfl
theorem zi_lt0 {x : Int} (hx : zII x) : Int32.ofInt x < 0 ↔ x < 0 := by rw [← zi_0]; exact zi_lt hx zII0
theorem zi_le0 {x : Int} (hx : zII x) : Int32.ofInt x ≤ 0 ↔ x ≤ 0 := by rw [← zi_0]; exact zi_le hx zII0
theorem zi_ge0 {x : Int} (hx : zII x) : 0 ≤ Int32.ofInt x ↔ 0 ≤ x := by rw [← zi_0]; exact zi_le zII0 hx
theorem zi_gt0 {x : Int} (hx : zII x) : 0 < Int32.ofInt x ↔ 0 < x := by rw [← zi_0]; exact zi_lt zII0 hx
theorem zi_eq0 {x : Int} (hx : zII x) : Int32.ofInt x = 0 ↔ x = 0 := by rw [← zi_0]; exact zi_eq hx zII0
theorem zi_nat {x : Int} (hx : zII x) : (Int32.ofInt x).toNatClampNeg = x.toNat := by
  show (Int32.ofInt x).toInt.toNat = _
  rw [zi_of hx]
theorem zi_in {x : Int} {n : Nat} (hx : zII x) (h0 : 0 ≤ x) (h1 : x < n) : vp_in (Int32.ofInt x) n := by
  rw [vp_in_iff, zi_of hx]
  exact ⟨h0, h1⟩
def zxor (x y : Int) : Int := (Int32.ofInt x ^^^ Int32.ofInt y).toInt
def zand (x y : Int) : Int := (Int32.ofInt x &&& Int32.ofInt y).toInt
def zandL (x y : Int) : Int := (Int64.ofInt x &&& Int64.ofInt y).toInt
def zorL (x y : Int) : Int := (Int64.ofInt x ||| Int64.ofInt y).toInt
def zshl (x y : Int) : Int := (Int64.ofInt x <<< ((Int32.ofInt y).toInt64 &&& 63)).toInt
def zshr (x y : Int) : Int := (Int64.ofInt x >>> ((Int32.ofInt y).toInt64 &&& 63)).toInt
def w32 (z : Int) : Int := z.bmod (2 ^ 32)
def w64 (z : Int) : Int := z.bmod (2 ^ 64)
theorem w32_of {z : Int} (h : zII z) : w32 z = z := by
  unfold w32
  rw [Int.bmod_eq_of_le (by have := h.1; omega) (by have := h.2; omega)]
theorem w64_of {z : Int} (h : zIL z) : w64 z = z := by
  unfold w64
  rw [Int.bmod_eq_of_le (by have := h.1; omega) (by have := h.2; omega)]
theorem w32_I (z : Int) : Int32.ofInt (w32 z) = Int32.ofInt z := by
  apply Int32.toInt_inj.mp
  rw [Int32.toInt_ofInt, Int32.toInt_ofInt, w32, Int.bmod_bmod]
theorem w64_L (z : Int) : Int64.ofInt (w64 z) = Int64.ofInt z := by
  apply Int64.toInt_inj.mp
  rw [Int64.toInt_ofInt, Int64.toInt_ofInt, w64, Int.bmod_bmod]
theorem w32_r (z : Int) : zII (w32 z) := by
  have h := zi_rng (Int32.ofInt z)
  rw [Int32.toInt_ofInt] at h
  exact h
theorem w64_r (z : Int) : zIL (w64 z) := by
  have h := zl_rng (Int64.ofInt z)
  rw [Int64.toInt_ofInt] at h
  exact h
theorem zi_back (x : Int32) : Int32.ofInt x.toInt = x := Int32.ofInt_toInt x
theorem zl_back (x : Int64) : Int64.ofInt x.toInt = x := Int64.ofInt_toInt x
theorem z_tdiv {x y : Int} (h0 : 0 < y) : (0 ≤ x → 0 ≤ x.tdiv y ∧ x.tdiv y ≤ x) ∧ (x < 0 → x ≤ x.tdiv y ∧ x.tdiv y ≤ 0) := by
  have h2 : (x.tdiv y).natAbs ≤ x.natAbs := by rw [Int.natAbs_tdiv]; exact Nat.div_le_self _ _
  constructor
  · intro h
    have h3 : 0 ≤ x.tdiv y := Int.tdiv_nonneg h (Int.le_of_lt h0)
    omega
  · intro h
    have h3 : 0 ≤ (-x).tdiv y := Int.tdiv_nonneg (by omega) (Int.le_of_lt h0)
    rw [Int.neg_tdiv] at h3
    omega
theorem zi_div {x y : Int} (hx : zII x) (hy : zII y) (h0 : 0 < y) : Int32.ofInt x / Int32.ofInt y = Int32.ofInt (x.tdiv y) ∧ zII (x.tdiv y) := by
  have e : (Int32.ofInt x / Int32.ofInt y).toInt = (x.tdiv y).bmod (2 ^ 32) := by rw [Int32.toInt_div, zi_of hx, zi_of hy]
  have hr : zII (x.tdiv y) := by
    have h2 := z_tdiv (x := x) h0
    have := hx.1
    have := hx.2
    exact ⟨by omega, by omega⟩
  refine ⟨?_, hr⟩
  apply Int32.toInt_inj.mp
  rw [e, Int32.toInt_ofInt]
theorem zl_div {x y : Int} (hx : zIL x) (hy : zIL y) (h0 : 0 < y) : Int64.ofInt x / Int64.ofInt y = Int64.ofInt (x.tdiv y) ∧ zIL (x.tdiv y) := by
  have e : (Int64.ofInt x / Int64.ofInt y).toInt = (x.tdiv y).bmod (2 ^ 64) := by rw [Int64.toInt_div, zl_of hx, zl_of hy]
  have hr : zIL (x.tdiv y) := by
    have h2 := z_tdiv (x := x) h0
    have := hx.1
    have := hx.2
    exact ⟨by omega, by omega⟩
  refine ⟨?_, hr⟩
  apply Int64.toInt_inj.mp
  rw [e, Int64.toInt_ofInt]
theorem zi_rem {x y : Int} (hx : zII x) (hy : zII y) (h0 : 0 < y) : Int32.ofInt x - Int32.ofInt x / Int32.ofInt y * Int32.ofInt y = Int32.ofInt (x.tmod y) ∧ zII (x.tmod y) := by
  have hd := (zi_div hx hy h0).1
  have hr : zII (x.tmod y) := by
    have h2 : (x.tmod y).natAbs ≤ x.natAbs := by rw [Int.natAbs_tmod]; exact Nat.mod_le _ _
    have h3 : 0 ≤ x → 0 ≤ x.tmod y := fun h => Int.tmod_nonneg y h
    have h4 : x < 0 → 0 ≤ (-x).tmod y := fun h => Int.tmod_nonneg y (by omega)
    rw [Int.neg_tmod] at h4
    have := hx.1
    have := hx.2
    exact ⟨by omega, by omega⟩
  refine ⟨?_, hr⟩
  rw [hd, ← Int32.ofInt_mul, ← Int32.ofInt_sub, Int.tmod_def, Int.mul_comm]
theorem zi_i2l {x : Int} (hx : zII x) : (Int32.ofInt x).toInt64 = Int64.ofInt x ∧ zIL x := by
  have hl : zIL x := ⟨by have := hx.1; omega, by have := hx.2; omega⟩
  refine ⟨?_, hl⟩
  apply Int64.toInt_inj.mp
  rw [Int32.toInt_toInt64, zi_of hx, zl_of hl]
theorem zl_l2i {x : Int} (hx : zIL x) : (Int64.ofInt x).toInt32 = Int32.ofInt (w32 x) := by
  rw [w32_I]
  apply Int32.toInt_inj.mp
  rw [Int64.toInt_toInt32, zl_of hx, Int32.toInt_ofInt]
theorem zcons {v : zV} {st : List zV} (h : zok v) (hs : ∀ w ∈ st, zok w) : ∀ w ∈ v :: st, zok w := List.forall_mem_cons.mpr ⟨h, hs⟩
theorem zhd {v : zV} {st : List zV} (hs : ∀ w ∈ v :: st, zok w) : zok v := (List.forall_mem_cons.mp hs).1
theorem ztl {v : zV} {st : List zV} (hs : ∀ w ∈ v :: st, zok w) : ∀ w ∈ st, zok w := (List.forall_mem_cons.mp hs).2
theorem zlm_at {B : Nat} {ls : zLs} {lr : Array Slot} {nL : Nat} (h : lv_has lr nL (zlm B ls)) (k : Nat) {i : Nat} {v : zV} (hk : ls[k]? = some (i, v)) : lr[i]? = some (.val (zv B v)) := by
  refine h.2.2 (i, zv B v) ?_
  exact List.mem_map.mpr ⟨(i, v), List.mem_of_getElem? hk, rfl⟩
theorem zls_ok {ls : zLs} (h : ∀ q ∈ ls, zok q.2) {k i : Nat} {v : zV} (hk : ls[k]? = some (i, v)) : zok v := h (i, v) (List.mem_of_getElem? hk)
def zins (q : Nat × zV) : zLs → zLs
  | [] => [q]
  | r :: rs => if q.1 < r.1 then q :: r :: rs else r :: zins q rs
theorem zins_mem {q x : Nat × zV} : ∀ {l : zLs}, x ∈ zins q l → x = q ∨ x ∈ l
  | [], h => by
    rw [zins] at h
    exact Or.inl (List.mem_singleton.mp h)
  | r :: rs, h => by
    rw [zins] at h
    split at h
    · rcases List.mem_cons.mp h with h | h
      · exact Or.inl h
      · exact Or.inr h
    · rcases List.mem_cons.mp h with h | h
      · exact Or.inr (by rw [h]; exact List.mem_cons_self)
      · rcases zins_mem h with h | h
        · exact Or.inl h
        · exact Or.inr (List.mem_cons_of_mem _ h)
def zkeep1 (i : Nat) (ls : zLs) : zLs := ls.filter (fun q => !(q.1 == i) && !(q.1 + 1 == i && zcat q.2 == 2))
def zkeep2 (i : Nat) (ls : zLs) : zLs := ls.filter (fun q => !(q.1 == i) && (!(q.1 == i + 1) && !(q.1 + 1 == i && zcat q.2 == 2)))
def zput1 (i : Nat) (v : zV) (ls : zLs) : zLs := zins (i, v) (zkeep1 i ls)
def zput2 (i : Nat) (v : zV) (ls : zLs) : zLs := zins (i, v) (zkeep2 i ls)
theorem zput1_has {B : Nat} {ls : zLs} {i nL : Nat} {v : zV} {lr : Array Slot} (h : lv_has lr nL ((i, zv B v) :: (zlm B ls).filter (fun q => !(q.1 == i) && !(q.1 + 1 == i && q.2.category == 2)))) : lv_has lr nL (zlm B (zput1 i v ls)) := by
  refine ⟨h.1, h.2.1, fun q hq => h.2.2 q ?_⟩
  obtain ⟨x, hx, rfl⟩ := List.mem_map.mp hq
  rcases zins_mem hx with rfl | hx
  · exact List.mem_cons_self
  · obtain ⟨h1, h2⟩ := List.mem_filter.mp hx
    refine List.mem_cons_of_mem _ (List.mem_filter.mpr ⟨List.mem_map.mpr ⟨x, h1, rfl⟩, ?_⟩)
    simpa [zcat_v] using h2
theorem zput2_has {B : Nat} {ls : zLs} {i nL : Nat} {v : zV} {lr : Array Slot} (h : lv_has lr nL ((i, zv B v) :: (zlm B ls).filter (fun q => !(q.1 == i) && (!(q.1 == i + 1) && !(q.1 + 1 == i && q.2.category == 2))))) : lv_has lr nL (zlm B (zput2 i v ls)) := by
  refine ⟨h.1, h.2.1, fun q hq => h.2.2 q ?_⟩
  obtain ⟨x, hx, rfl⟩ := List.mem_map.mp hq
  rcases zins_mem hx with rfl | hx
  · exact List.mem_cons_self
  · obtain ⟨h1, h2⟩ := List.mem_filter.mp hx
    refine List.mem_cons_of_mem _ (List.mem_filter.mpr ⟨List.mem_map.mpr ⟨x, h1, rfl⟩, ?_⟩)
    simpa [zcat_v] using h2
theorem zput1_ok {ls : zLs} {i : Nat} {v : zV} (h : ∀ q ∈ ls, zok q.2) (hv : zok v) : ∀ q ∈ zput1 i v ls, zok q.2 := by
  intro q hq
  rcases zins_mem hq with rfl | hq
  · exact hv
  · exact h q (List.mem_filter.mp hq).1
theorem zput2_ok {ls : zLs} {i : Nat} {v : zV} (h : ∀ q ∈ ls, zok q.2) (hv : zok v) : ∀ q ∈ zput2 i v ls, zok q.2 := by
  intro q hq
  rcases zins_mem hq with rfl | hq
  · exact hv
  · exact h q (List.mem_filter.mp hq).1
section RULES
variable {G : zG} {R : Room} {Z : List Frame → Array Value → State → State → Prop} {X : Array Value → State → Prop} {M : zM} {n0 n pc : Nat} {ls : zLs} {st : List zV} {h : zHp}
theorem wq_sub {ls' : zLs} (hs : ∀ q ∈ ls', q ∈ ls) (k : wq G R Z X M n0 n pc ls' st h) : wq G R Z X M n0 n pc ls st h := by
  intro p e s m args below meth c H locs lr hX hH hl hn h1 h2
  refine k p e s m args below meth c H locs lr hX hH ⟨hl.1, hl.2.1, fun q hq => hl.2.2 q ?_⟩ hn (fun q hq => h1 q (hs q hq)) h2
  obtain ⟨x, hx, rfl⟩ := List.mem_map.mp hq
  exact List.mem_map.mpr ⟨x, hs x hx, rfl⟩
theorem wq_iconst {z : Int} (hz : zII z) (d : decode M.2.1 pc = .ok (.iconst z, 1)) (k : wq G R Z X M n0 n (pc + 1) ls (vI z :: st) h) : wq G R Z X M n0 n pc ls (st) h := by
  intro p e s m args below meth c H locs lr hX hH hl hn h1 h2
  exact lv_iconst hX.1 hX.2.1 d rfl (k p e s m args below meth c H locs lr hX hH hl hn h1 (zcons hz h2))
theorem wq_bipush {z : Int} (hz : zII z) (e9 : (Int8.ofInt z).toInt32 = Int32.ofInt z) (d : decode M.2.1 pc = .ok (.bipush z, 2)) (k : wq G R Z X M n0 n (pc + 2) ls (vI z :: st) h) : wq G R Z X M n0 n pc ls (st) h := by
  intro p e s m args below meth c H locs lr hX hH hl hn h1 h2
  exact lv_bipush hX.1 hX.2.1 d e9 (k p e s m args below meth c H locs lr hX hH hl hn h1 (zcons hz h2))
theorem wq_sipush {z : Int} (hz : zII z) (e9 : (Int16.ofInt z).toInt32 = Int32.ofInt z) (d : decode M.2.1 pc = .ok (.sipush z, 3)) (k : wq G R Z X M n0 n (pc + 3) ls (vI z :: st) h) : wq G R Z X M n0 n pc ls (st) h := by
  intro p e s m args below meth c H locs lr hX hH hl hn h1 h2
  exact lv_sipush hX.1 hX.2.1 d e9 (k p e s m args below meth c H locs lr hX hH hl hn h1 (zcons hz h2))
theorem wq_lconst {i : Fin 2} {z : Int} (hz : zIL z) (e9 : Int64.ofNat (i : Nat) = Int64.ofInt z) (d : decode M.2.1 pc = .ok (.lconst i, 1)) (k : wq G R Z X M n0 n (pc + 1) ls (vL z :: st) h) : wq G R Z X M n0 n pc ls (st) h := by
  intro p e s m args below meth c H locs lr hX hH hl hn h1 h2
  exact lv_lconst hX.1 hX.2.1 d e9 (k p e s m args below meth c H locs lr hX hH hl hn h1 (zcons hz h2))
theorem wq_ldc {i : Nat} {z : Int} (hz : zII z) (hw : Cond.constant M.1.cls i (Int32.ofInt z) ∈ zgw) (d : decode M.2.1 pc = .ok (.ldc i, 2)) (k : wq G R Z X M n0 n (pc + 2) ls (vI z :: st) h) : wq G R Z X M n0 n pc ls (st) h := by
  intro p e s m args below meth c H locs lr hX hH hl hn h1 h2
  exact lv_ldc hX.1 hX.2.1 hX.2.2.2.2.2.1 (hX.2.2.2.2.2.2.1 _ hw) d (k p e s m args below meth c H locs lr hX hH hl hn h1 (zcons hz h2))
theorem wq_ldc_w {i : Nat} {z : Int} (hz : zII z) (hw : Cond.constant M.1.cls i (Int32.ofInt z) ∈ zgw) (d : decode M.2.1 pc = .ok (.ldc_w i, 3)) (k : wq G R Z X M n0 n (pc + 3) ls (vI z :: st) h) : wq G R Z X M n0 n pc ls (st) h := by
  intro p e s m args below meth c H locs lr hX hH hl hn h1 h2
  exact lv_ldcw hX.1 hX.2.1 hX.2.2.2.2.2.1 (hX.2.2.2.2.2.2.1 _ hw) d (k p e s m args below meth c H locs lr hX hH hl hn h1 (zcons hz h2))
theorem wq_ldc2_w {i : Nat} {z : Int} (hz : zIL z) (hw : Cond.constantLong M.1.cls i (Int64.ofInt z) ∈ zgw) (d : decode M.2.1 pc = .ok (.ldc2_w i, 3)) (k : wq G R Z X M n0 n (pc + 3) ls (vL z :: st) h) : wq G R Z X M n0 n pc ls (st) h := by
  intro p e s m args below meth c H locs lr hX hH hl hn h1 h2
  exact lv_ldc2 hX.1 hX.2.1 hX.2.2.2.2.2.1 (hX.2.2.2.2.2.2.1 _ hw) d (k p e s m args below meth c H locs lr hX hH hl hn h1 (zcons hz h2))
theorem wq_iload_n {i : Fin 4} {j : Nat} {x : Int} (q : Nat) (hj : (i : Nat) = j) (hq : ls[q]? = some (j, vI x)) (d : decode M.2.1 pc = .ok (.iload_n i, 1)) (k : wq G R Z X M n0 n (pc + 1) ls (vI x :: st) h) : wq G R Z X M n0 n pc ls (st) h := by
  intro p e s m args below meth c H locs lr hX hH hl hn h1 h2
  exact lv_iload_n hX.1 hX.2.1 d hj (zlm_at hl q hq) (k p e s m args below meth c H locs lr hX hH hl hn h1 (zcons (zls_ok h1 hq) h2))
theorem wq_iload {j : Nat} {x : Int} (q : Nat) (hq : ls[q]? = some (j, vI x)) (d : decode M.2.1 pc = .ok (.iload j, 2)) (k : wq G R Z X M n0 n (pc + 2) ls (vI x :: st) h) : wq G R Z X M n0 n pc ls (st) h := by
  intro p e s m args below meth c H locs lr hX hH hl hn h1 h2
  exact lv_iload hX.1 hX.2.1 d (zlm_at hl q hq) (k p e s m args below meth c H locs lr hX hH hl hn h1 (zcons (zls_ok h1 hq) h2))
theorem wq_istore_n {j : Nat} {x : Int} {ls' : zLs} {i : Fin 4} (hj : (i : Nat) = j) (hn9 : j < M.2.2.1) (hl9 : zput1 j (vI x) ls = ls') (d : decode M.2.1 pc = .ok (.istore_n i, 1)) (k : wq G R Z X M n0 n (pc + 1) ls' st h) : wq G R Z X M n0 n pc ls (vI x :: st) h := by
  intro p e s m args below meth c H locs lr hX hH hl hn h1 h2
  subst hl9
  exact lv_istore_n hX.1 hX.2.1 d hj hl hn9 rfl (fun lr' hl' => k p e s m args below meth c H locs lr' hX hH (zput1_has (v := vI x) hl') hn (zput1_ok h1 (zhd h2)) (ztl h2))
theorem wq_istore {j : Nat} {x : Int} {ls' : zLs}  (hn9 : j < M.2.2.1) (hl9 : zput1 j (vI x) ls = ls') (d : decode M.2.1 pc = .ok (.istore j, 2)) (k : wq G R Z X M n0 n (pc + 2) ls' st h) : wq G R Z X M n0 n pc ls (vI x :: st) h := by
  intro p e s m args below meth c H locs lr hX hH hl hn h1 h2
  subst hl9
  exact lv_istore hX.1 hX.2.1 d hl hn9 rfl (fun lr' hl' => k p e s m args below meth c H locs lr' hX hH (zput1_has (v := vI x) hl') hn (zput1_ok h1 (zhd h2)) (ztl h2))
theorem wq_lload_n {i : Fin 4} {j : Nat} {x : Int} (q : Nat) (hj : (i : Nat) = j) (hq : ls[q]? = some (j, vL x)) (d : decode M.2.1 pc = .ok (.lload_n i, 1)) (k : wq G R Z X M n0 n (pc + 1) ls (vL x :: st) h) : wq G R Z X M n0 n pc ls (st) h := by
  intro p e s m args below meth c H locs lr hX hH hl hn h1 h2
  exact lv_lload_n hX.1 hX.2.1 d hj (zlm_at hl q hq) (k p e s m args below meth c H locs lr hX hH hl hn h1 (zcons (zls_ok h1 hq) h2))
theorem wq_lload {j : Nat} {x : Int} (q : Nat) (hq : ls[q]? = some (j, vL x)) (d : decode M.2.1 pc = .ok (.lload j, 2)) (k : wq G R Z X M n0 n (pc + 2) ls (vL x :: st) h) : wq G R Z X M n0 n pc ls (st) h := by
  intro p e s m args below meth c H locs lr hX hH hl hn h1 h2
  exact lv_lload hX.1 hX.2.1 d (zlm_at hl q hq) (k p e s m args below meth c H locs lr hX hH hl hn h1 (zcons (zls_ok h1 hq) h2))
theorem wq_lstore_n {j : Nat} {x : Int} {ls' : zLs} {i : Fin 4} (hj : (i : Nat) = j) (hn9 : j + 1 < M.2.2.1) (hl9 : zput2 j (vL x) ls = ls') (d : decode M.2.1 pc = .ok (.lstore_n i, 1)) (k : wq G R Z X M n0 n (pc + 1) ls' st h) : wq G R Z X M n0 n pc ls (vL x :: st) h := by
  intro p e s m args below meth c H locs lr hX hH hl hn h1 h2
  subst hl9
  exact lv_lstore_n hX.1 hX.2.1 d hj hl hn9 rfl (fun lr' hl' => k p e s m args below meth c H locs lr' hX hH (zput2_has (v := vL x) hl') hn (zput2_ok h1 (zhd h2)) (ztl h2))
theorem wq_lstore {j : Nat} {x : Int} {ls' : zLs}  (hn9 : j + 1 < M.2.2.1) (hl9 : zput2 j (vL x) ls = ls') (d : decode M.2.1 pc = .ok (.lstore j, 2)) (k : wq G R Z X M n0 n (pc + 2) ls' st h) : wq G R Z X M n0 n pc ls (vL x :: st) h := by
  intro p e s m args below meth c H locs lr hX hH hl hn h1 h2
  subst hl9
  exact lv_lstore hX.1 hX.2.1 d hl hn9 rfl (fun lr' hl' => k p e s m args below meth c H locs lr' hX hH (zput2_has (v := vL x) hl') hn (zput2_ok h1 (zhd h2)) (ztl h2))
theorem wq_aload_n {i : Fin 4} {j : Nat} {x : Nat} (q : Nat) (hj : (i : Nat) = j) (hq : ls[q]? = some (j, vR x)) (d : decode M.2.1 pc = .ok (.aload_n i, 1)) (k : wq G R Z X M n0 n (pc + 1) ls (vR x :: st) h) : wq G R Z X M n0 n pc ls (st) h := by
  intro p e s m args below meth c H locs lr hX hH hl hn h1 h2
  exact lv_aload_n hX.1 hX.2.1 d hj (zlm_at hl q hq) (k p e s m args below meth c H locs lr hX hH hl hn h1 (zcons (zls_ok h1 hq) h2))
theorem wq_aload {j : Nat} {x : Nat} (q : Nat) (hq : ls[q]? = some (j, vR x)) (d : decode M.2.1 pc = .ok (.aload j, 2)) (k : wq G R Z X M n0 n (pc + 2) ls (vR x :: st) h) : wq G R Z X M n0 n pc ls (st) h := by
  intro p e s m args below meth c H locs lr hX hH hl hn h1 h2
  exact lv_aload hX.1 hX.2.1 d (zlm_at hl q hq) (k p e s m args below meth c H locs lr hX hH hl hn h1 (zcons (zls_ok h1 hq) h2))
theorem wq_astore_n {j : Nat} {x : Nat} {ls' : zLs} {i : Fin 4} (hj : (i : Nat) = j) (hn9 : j < M.2.2.1) (hl9 : zput1 j (vR x) ls = ls') (d : decode M.2.1 pc = .ok (.astore_n i, 1)) (k : wq G R Z X M n0 n (pc + 1) ls' st h) : wq G R Z X M n0 n pc ls (vR x :: st) h := by
  intro p e s m args below meth c H locs lr hX hH hl hn h1 h2
  subst hl9
  exact lv_astore_n hX.1 hX.2.1 d hj hl hn9 rfl (fun lr' hl' => k p e s m args below meth c H locs lr' hX hH (zput1_has (v := vR x) hl') hn (zput1_ok h1 (zhd h2)) (ztl h2))
theorem wq_astore {j : Nat} {x : Nat} {ls' : zLs}  (hn9 : j < M.2.2.1) (hl9 : zput1 j (vR x) ls = ls') (d : decode M.2.1 pc = .ok (.astore j, 2)) (k : wq G R Z X M n0 n (pc + 2) ls' st h) : wq G R Z X M n0 n pc ls (vR x :: st) h := by
  intro p e s m args below meth c H locs lr hX hH hl hn h1 h2
  subst hl9
  exact lv_astore hX.1 hX.2.1 d hl hn9 rfl (fun lr' hl' => k p e s m args below meth c H locs lr' hX hH (zput1_has (v := vR x) hl') hn (zput1_ok h1 (zhd h2)) (ztl h2))
theorem wq_iinc {j : Nat} {x z y : Int} {ls' : zLs} (q : Nat) (hq : ls[q]? = some (j, vI x)) (hy : x + z = y) (hr : zII y) (hn9 : j < M.2.2.1) (hl9 : zput1 j (vI y) ls = ls') (d : decode M.2.1 pc = .ok (.iinc j z, 3)) (k : wq G R Z X M n0 n (pc + 3) ls' st h) : wq G R Z X M n0 n pc ls st h := by
  intro p e s m args below meth c H locs lr hX hH hl hn h1 h2
  subst hl9
  have hq' : (zlm G.2.1 ls)[q]? = some (j, Value.int (Int32.ofInt x)) := by rw [zlm, List.getElem?_map, hq]; rfl
  exact lv_iinc hX.1 hX.2.1 d hl hq' (v := Int32.ofInt y) (by rw [← hy, Int32.ofInt_add]) hn9 rfl (fun lr' hl' => k p e s m args below meth c H locs lr' hX hH (zput1_has (v := vI y) hl') hn (zput1_ok h1 hr) h2)
theorem wq_iadd {x y : Int} (hr : zII (x + y)) (d : decode M.2.1 pc = .ok (.iadd, 1)) (k : wq G R Z X M n0 n (pc + 1) ls (vI (x + y) :: st) h) : wq G R Z X M n0 n pc ls (vI y :: vI x :: st) h := by
  intro p e s m args below meth c H locs lr hX hH hl hn h1 h2
  refine lv_iadd hX.1 hX.2.1 d ?_
  rw [← Int32.ofInt_add]
  exact k p e s m args below meth c H locs lr hX hH hl hn h1 (zcons hr (ztl (ztl h2)))
theorem wq_iadd_w {x y : Int} (d : decode M.2.1 pc = .ok (.iadd, 1)) (k : wq G R Z X M n0 n (pc + 1) ls (vI (w32 (x + y)) :: st) h) : wq G R Z X M n0 n pc ls (vI y :: vI x :: st) h := by
  intro p e s m args below meth c H locs lr hX hH hl hn h1 h2
  refine lv_iadd hX.1 hX.2.1 d ?_
  rw [← Int32.ofInt_add, ← w32_I]
  exact k p e s m args below meth c H locs lr hX hH hl hn h1 (zcons (w32_r _) (ztl (ztl h2)))
theorem wq_ladd {x y : Int} (hr : zIL (x + y)) (d : decode M.2.1 pc = .ok (.ladd, 1)) (k : wq G R Z X M n0 n (pc + 1) ls (vL (x + y) :: st) h) : wq G R Z X M n0 n pc ls (vL y :: vL x :: st) h := by
  intro p e s m args below meth c H locs lr hX hH hl hn h1 h2
  refine lv_ladd hX.1 hX.2.1 d ?_
  rw [← Int64.ofInt_add]
  exact k p e s m args below meth c H locs lr hX hH hl hn h1 (zcons hr (ztl (ztl h2)))
theorem wq_ladd_w {x y : Int} (d : decode M.2.1 pc = .ok (.ladd, 1)) (k : wq G R Z X M n0 n (pc + 1) ls (vL (w64 (x + y)) :: st) h) : wq G R Z X M n0 n pc ls (vL y :: vL x :: st) h := by
  intro p e s m args below meth c H locs lr hX hH hl hn h1 h2
  refine lv_ladd hX.1 hX.2.1 d ?_
  rw [← Int64.ofInt_add, ← w64_L]
  exact k p e s m args below meth c H locs lr hX hH hl hn h1 (zcons (w64_r _) (ztl (ztl h2)))
theorem wq_isub {x y : Int} (hr : zII (x - y)) (d : decode M.2.1 pc = .ok (.isub, 1)) (k : wq G R Z X M n0 n (pc + 1) ls (vI (x - y) :: st) h) : wq G R Z X M n0 n pc ls (vI y :: vI x :: st) h := by
  intro p e s m args below meth c H locs lr hX hH hl hn h1 h2
  refine lv_isub hX.1 hX.2.1 d ?_
  rw [← Int32.ofInt_sub]
  exact k p e s m args below meth c H locs lr hX hH hl hn h1 (zcons hr (ztl (ztl h2)))
theorem wq_isub_w {x y : Int} (d : decode M.2.1 pc = .ok (.isub, 1)) (k : wq G R Z X M n0 n (pc + 1) ls (vI (w32 (x - y)) :: st) h) : wq G R Z X M n0 n pc ls (vI y :: vI x :: st) h := by
  intro p e s m args below meth c H locs lr hX hH hl hn h1 h2
  refine lv_isub hX.1 hX.2.1 d ?_
  rw [← Int32.ofInt_sub, ← w32_I]
  exact k p e s m args below meth c H locs lr hX hH hl hn h1 (zcons (w32_r _) (ztl (ztl h2)))
theorem wq_lsub {x y : Int} (hr : zIL (x - y)) (d : decode M.2.1 pc = .ok (.lsub, 1)) (k : wq G R Z X M n0 n (pc + 1) ls (vL (x - y) :: st) h) : wq G R Z X M n0 n pc ls (vL y :: vL x :: st) h := by
  intro p e s m args below meth c H locs lr hX hH hl hn h1 h2
  refine lv_lsub hX.1 hX.2.1 d ?_
  rw [← Int64.ofInt_sub]
  exact k p e s m args below meth c H locs lr hX hH hl hn h1 (zcons hr (ztl (ztl h2)))
theorem wq_lsub_w {x y : Int} (d : decode M.2.1 pc = .ok (.lsub, 1)) (k : wq G R Z X M n0 n (pc + 1) ls (vL (w64 (x - y)) :: st) h) : wq G R Z X M n0 n pc ls (vL y :: vL x :: st) h := by
  intro p e s m args below meth c H locs lr hX hH hl hn h1 h2
  refine lv_lsub hX.1 hX.2.1 d ?_
  rw [← Int64.ofInt_sub, ← w64_L]
  exact k p e s m args below meth c H locs lr hX hH hl hn h1 (zcons (w64_r _) (ztl (ztl h2)))
theorem wq_imul {x y : Int} (hr : zII (x * y)) (d : decode M.2.1 pc = .ok (.imul, 1)) (k : wq G R Z X M n0 n (pc + 1) ls (vI (x * y) :: st) h) : wq G R Z X M n0 n pc ls (vI y :: vI x :: st) h := by
  intro p e s m args below meth c H locs lr hX hH hl hn h1 h2
  refine lv_imul hX.1 hX.2.1 d ?_
  rw [← Int32.ofInt_mul]
  exact k p e s m args below meth c H locs lr hX hH hl hn h1 (zcons hr (ztl (ztl h2)))
theorem wq_imul_w {x y : Int} (d : decode M.2.1 pc = .ok (.imul, 1)) (k : wq G R Z X M n0 n (pc + 1) ls (vI (w32 (x * y)) :: st) h) : wq G R Z X M n0 n pc ls (vI y :: vI x :: st) h := by
  intro p e s m args below meth c H locs lr hX hH hl hn h1 h2
  refine lv_imul hX.1 hX.2.1 d ?_
  rw [← Int32.ofInt_mul, ← w32_I]
  exact k p e s m args below meth c H locs lr hX hH hl hn h1 (zcons (w32_r _) (ztl (ztl h2)))
theorem wq_lmul {x y : Int} (hr : zIL (x * y)) (d : decode M.2.1 pc = .ok (.lmul, 1)) (k : wq G R Z X M n0 n (pc + 1) ls (vL (x * y) :: st) h) : wq G R Z X M n0 n pc ls (vL y :: vL x :: st) h := by
  intro p e s m args below meth c H locs lr hX hH hl hn h1 h2
  refine lv_lmul hX.1 hX.2.1 d ?_
  rw [← Int64.ofInt_mul]
  exact k p e s m args below meth c H locs lr hX hH hl hn h1 (zcons hr (ztl (ztl h2)))
theorem wq_lmul_w {x y : Int} (d : decode M.2.1 pc = .ok (.lmul, 1)) (k : wq G R Z X M n0 n (pc + 1) ls (vL (w64 (x * y)) :: st) h) : wq G R Z X M n0 n pc ls (vL y :: vL x :: st) h := by
  intro p e s m args below meth c H locs lr hX hH hl hn h1 h2
  refine lv_lmul hX.1 hX.2.1 d ?_
  rw [← Int64.ofInt_mul, ← w64_L]
  exact k p e s m args below meth c H locs lr hX hH hl hn h1 (zcons (w64_r _) (ztl (ztl h2)))
theorem wq_idiv {x y : Int} (h0 : 0 < y) (d : decode M.2.1 pc = .ok (.idiv, 1)) (k : wq G R Z X M n0 n (pc + 1) ls (vI (x.tdiv y) :: st) h) : wq G R Z X M n0 n pc ls (vI y :: vI x :: st) h := by
  intro p e s m args below meth c H locs lr hX hH hl hn h1 h2
  have q := zi_div (zhd (ztl h2)) (zhd h2) h0
  refine lv_idiv hX.1 hX.2.1 d (fun e => by have e := (zi_eq0 (zhd h2)).mp e; omega) ?_
  rw [q.1]
  exact k p e s m args below meth c H locs lr hX hH hl hn h1 (zcons q.2 (ztl (ztl h2)))
theorem wq_irem {x y : Int} (h0 : 0 < y) (d : decode M.2.1 pc = .ok (.irem, 1)) (k : wq G R Z X M n0 n (pc + 1) ls (vI (x.tmod y) :: st) h) : wq G R Z X M n0 n pc ls (vI y :: vI x :: st) h := by
  intro p e s m args below meth c H locs lr hX hH hl hn h1 h2
  have q := zi_rem (zhd (ztl h2)) (zhd h2) h0
  refine lv_irem hX.1 hX.2.1 d (fun e => by have e := (zi_eq0 (zhd h2)).mp e; omega) ?_
  rw [q.1]
  exact k p e s m args below meth c H locs lr hX hH hl hn h1 (zcons q.2 (ztl (ztl h2)))
theorem wq_ldiv {x y : Int} (h0 : 0 < y) (d : decode M.2.1 pc = .ok (.ldiv, 1)) (k : wq G R Z X M n0 n (pc + 1) ls (vL (x.tdiv y) :: st) h) : wq G R Z X M n0 n pc ls (vL y :: vL x :: st) h := by
  intro p e s m args below meth c H locs lr hX hH hl hn h1 h2
  have q := zl_div (zhd (ztl h2)) (zhd h2) h0
  refine lv_ldiv hX.1 hX.2.1 d (fun e => by have e := (zl_eq (y := 0) (zhd h2) ⟨by omega, by omega⟩).mp e; omega) ?_
  rw [q.1]
  exact k p e s m args below meth c H locs lr hX hH hl hn h1 (zcons q.2 (ztl (ztl h2)))
theorem wq_ixor {x y : Int} (d : decode M.2.1 pc = .ok (.ixor, 1)) (k : wq G R Z X M n0 n (pc + 1) ls (vI (zxor x y) :: st) h) : wq G R Z X M n0 n pc ls (vI y :: vI x :: st) h := by
  intro p e s m args below meth c H locs lr hX hH hl hn h1 h2
  refine lv_ixor hX.1 hX.2.1 d ?_
  have q := k p e s m args below meth c H locs lr hX hH hl hn h1 (zcons (zi_rng _) (ztl (ztl h2)))
  simp only [List.map_cons, zv, zxor, zi_back] at q
  exact q
theorem wq_iand {x y : Int} (d : decode M.2.1 pc = .ok (.iand, 1)) (k : wq G R Z X M n0 n (pc + 1) ls (vI (zand x y) :: st) h) : wq G R Z X M n0 n pc ls (vI y :: vI x :: st) h := by
  intro p e s m args below meth c H locs lr hX hH hl hn h1 h2
  refine lv_iand hX.1 hX.2.1 d ?_
  have q := k p e s m args below meth c H locs lr hX hH hl hn h1 (zcons (zi_rng _) (ztl (ztl h2)))
  simp only [List.map_cons, zv, zand, zi_back] at q
  exact q
theorem wq_land {x y : Int} (d : decode M.2.1 pc = .ok (.land, 1)) (k : wq G R Z X M n0 n (pc + 1) ls (vL (zandL x y) :: st) h) : wq G R Z X M n0 n pc ls (vL y :: vL x :: st) h := by
  intro p e s m args below meth c H locs lr hX hH hl hn h1 h2
  refine lv_land hX.1 hX.2.1 d ?_
  have q := k p e s m args below meth c H locs lr hX hH hl hn h1 (zcons (zl_rng _) (ztl (ztl h2)))
  simp only [List.map_cons, zv, zandL, zl_back] at q
  exact q
theorem wq_lor {x y : Int} (d : decode M.2.1 pc = .ok (.lor, 1)) (k : wq G R Z X M n0 n (pc + 1) ls (vL (zorL x y) :: st) h) : wq G R Z X M n0 n pc ls (vL y :: vL x :: st) h := by
  intro p e s m args below meth c H locs lr hX hH hl hn h1 h2
  refine lv_lor hX.1 hX.2.1 d ?_
  have q := k p e s m args below meth c H locs lr hX hH hl hn h1 (zcons (zl_rng _) (ztl (ztl h2)))
  simp only [List.map_cons, zv, zorL, zl_back] at q
  exact q
theorem wq_lshl {x y : Int} (d : decode M.2.1 pc = .ok (.lshl, 1)) (k : wq G R Z X M n0 n (pc + 1) ls (vL (zshl x y) :: st) h) : wq G R Z X M n0 n pc ls (vI y :: vL x :: st) h := by
  intro p e s m args below meth c H locs lr hX hH hl hn h1 h2
  refine lv_lshl hX.1 hX.2.1 d rfl ?_
  have q := k p e s m args below meth c H locs lr hX hH hl hn h1 (zcons (zl_rng _) (ztl (ztl h2)))
  simp only [List.map_cons, zv, zshl, zl_back] at q
  exact q
theorem wq_lshr {x y : Int} (d : decode M.2.1 pc = .ok (.lshr, 1)) (k : wq G R Z X M n0 n (pc + 1) ls (vL (zshr x y) :: st) h) : wq G R Z X M n0 n pc ls (vI y :: vL x :: st) h := by
  intro p e s m args below meth c H locs lr hX hH hl hn h1 h2
  refine lv_lshr hX.1 hX.2.1 d rfl ?_
  have q := k p e s m args below meth c H locs lr hX hH hl hn h1 (zcons (zl_rng _) (ztl (ztl h2)))
  simp only [List.map_cons, zv, zshr, zl_back] at q
  exact q
theorem wq_lneg {x : Int} (hr : zIL (-x)) (d : decode M.2.1 pc = .ok (.lneg, 1)) (k : wq G R Z X M n0 n (pc + 1) ls (vL (-x) :: st) h) : wq G R Z X M n0 n pc ls (vL x :: st) h := by
  intro p e s m args below meth c H locs lr hX hH hl hn h1 h2
  refine lv_lneg hX.1 hX.2.1 d ?_
  rw [← Int64.ofInt_neg]
  exact k p e s m args below meth c H locs lr hX hH hl hn h1 (zcons hr (ztl h2))
theorem wq_i2l {x : Int} (d : decode M.2.1 pc = .ok (.i2l, 1)) (k : wq G R Z X M n0 n (pc + 1) ls (vL x :: st) h) : wq G R Z X M n0 n pc ls (vI x :: st) h := by
  intro p e s m args below meth c H locs lr hX hH hl hn h1 h2
  have q := zi_i2l (zhd h2)
  exact lv_i2l hX.1 hX.2.1 d q.1 (k p e s m args below meth c H locs lr hX hH hl hn h1 (zcons q.2 (ztl h2)))
theorem wq_l2i {x : Int} (d : decode M.2.1 pc = .ok (.l2i, 1)) (k : wq G R Z X M n0 n (pc + 1) ls (vI (w32 x) :: st) h) : wq G R Z X M n0 n pc ls (vL x :: st) h := by
  intro p e s m args below meth c H locs lr hX hH hl hn h1 h2
  exact lv_l2i hX.1 hX.2.1 d (zl_l2i (zhd h2)) (k p e s m args below meth c H locs lr hX hH hl hn h1 (zcons (w32_r _) (ztl h2)))
theorem wq_dup {v : zV} (hv : zcat v = 1) (d : decode M.2.1 pc = .ok (.dup, 1)) (k : wq G R Z X M n0 n (pc + 1) ls (v :: v :: st) h) : wq G R Z X M n0 n pc ls (v :: st) h := by
  intro p e s m args below meth c H locs lr hX hH hl hn h1 h2
  exact lv_dup hX.1 hX.2.1 d (by rw [zcat_v]; exact hv) (k p e s m args below meth c H locs lr hX hH hl hn h1 (zcons (zhd h2) h2))
theorem wq_pop {v : zV} (hv : zcat v = 1) (d : decode M.2.1 pc = .ok (.pop, 1)) (k : wq G R Z X M n0 n (pc + 1) ls (st) h) : wq G R Z X M n0 n pc ls (v :: st) h := by
  intro p e s m args below meth c H locs lr hX hH hl hn h1 h2
  exact lv_pop hX.1 hX.2.1 d (by rw [zcat_v]; exact hv) (k p e s m args below meth c H locs lr hX hH hl hn h1 (ztl h2))
theorem wq_dup2 {v w : zV} (hv : zcat v = 1) (hw : zcat w = 1) (d : decode M.2.1 pc = .ok (.dup2, 1)) (k : wq G R Z X M n0 n (pc + 1) ls (v :: w :: v :: w :: st) h) : wq G R Z X M n0 n pc ls (v :: w :: st) h := by
  intro p e s m args below meth c H locs lr hX hH hl hn h1 h2
  exact lv_dup2_11 hX.1 hX.2.1 d (by rw [zcat_v]; exact hv) (by rw [zcat_v]; exact hw) (k p e s m args below meth c H locs lr hX hH hl hn h1 (zcons (zhd h2) (zcons (zhd (ztl h2)) h2)))
theorem wq_if_eq {x : Int} {off : Int} (tgt : Nat) (ht : (pc : Int) + off = (tgt : Int)) (d : decode M.2.1 pc = .ok (.ifCond .eq off, 3)) (kt : x = 0 → wq G R Z X M n0 n tgt ls st h) (kf : x ≠ 0 → wq G R Z X M n0 n (pc + 3) ls st h) : wq G R Z X M n0 n pc ls (vI x :: st) h := by
  intro p e s m args below meth c H locs lr hX hH hl hn h1 h2
  exact lv_if_eq hX.1 hX.2.1 d ht (fun q => kt ((zi_eq0 (zhd h2)).mp q) p e s m args below meth c H locs lr hX hH hl hn h1 (ztl h2)) (fun q => kf (fun z => q ((zi_eq0 (zhd h2)).mpr z)) p e s m args below meth c H locs lr hX hH hl hn h1 (ztl h2))
theorem wq_if_ne {x : Int} {off : Int} (tgt : Nat) (ht : (pc : Int) + off = (tgt : Int)) (d : decode M.2.1 pc = .ok (.ifCond .ne off, 3)) (kt : x ≠ 0 → wq G R Z X M n0 n tgt ls st h) (kf : x = 0 → wq G R Z X M n0 n (pc + 3) ls st h) : wq G R Z X M n0 n pc ls (vI x :: st) h := by
  intro p e s m args below meth c H locs lr hX hH hl hn h1 h2
  exact lv_if_ne hX.1 hX.2.1 d ht (fun q => kt (fun z => q ((zi_eq0 (zhd h2)).mpr z)) p e s m args below meth c H locs lr hX hH hl hn h1 (ztl h2)) (fun q => kf ((zi_eq0 (zhd h2)).mp q) p e s m args below meth c H locs lr hX hH hl hn h1 (ztl h2))
theorem wq_if_lt {x : Int} {off : Int} (tgt : Nat) (ht : (pc : Int) + off = (tgt : Int)) (d : decode M.2.1 pc = .ok (.ifCond .lt off, 3)) (kt : x < 0 → wq G R Z X M n0 n tgt ls st h) (kf : 0 ≤ x → wq G R Z X M n0 n (pc + 3) ls st h) : wq G R Z X M n0 n pc ls (vI x :: st) h := by
  intro p e s m args below meth c H locs lr hX hH hl hn h1 h2
  exact lv_if_lt hX.1 hX.2.1 d ht (fun q => kt ((zi_lt0 (zhd h2)).mp q) p e s m args below meth c H locs lr hX hH hl hn h1 (ztl h2)) (fun q => kf (Int.not_lt.mp (fun z => q ((zi_lt0 (zhd h2)).mpr z))) p e s m args below meth c H locs lr hX hH hl hn h1 (ztl h2))
theorem wq_if_ge {x : Int} {off : Int} (tgt : Nat) (ht : (pc : Int) + off = (tgt : Int)) (d : decode M.2.1 pc = .ok (.ifCond .ge off, 3)) (kt : 0 ≤ x → wq G R Z X M n0 n tgt ls st h) (kf : x < 0 → wq G R Z X M n0 n (pc + 3) ls st h) : wq G R Z X M n0 n pc ls (vI x :: st) h := by
  intro p e s m args below meth c H locs lr hX hH hl hn h1 h2
  exact lv_if_ge hX.1 hX.2.1 d ht (fun q => kt ((zi_ge0 (zhd h2)).mp q) p e s m args below meth c H locs lr hX hH hl hn h1 (ztl h2)) (fun q => kf (Int.not_le.mp (fun z => q ((zi_ge0 (zhd h2)).mpr z))) p e s m args below meth c H locs lr hX hH hl hn h1 (ztl h2))
theorem wq_if_gt {x : Int} {off : Int} (tgt : Nat) (ht : (pc : Int) + off = (tgt : Int)) (d : decode M.2.1 pc = .ok (.ifCond .gt off, 3)) (kt : 0 < x → wq G R Z X M n0 n tgt ls st h) (kf : x ≤ 0 → wq G R Z X M n0 n (pc + 3) ls st h) : wq G R Z X M n0 n pc ls (vI x :: st) h := by
  intro p e s m args below meth c H locs lr hX hH hl hn h1 h2
  exact lv_if_gt hX.1 hX.2.1 d ht (fun q => kt ((zi_gt0 (zhd h2)).mp q) p e s m args below meth c H locs lr hX hH hl hn h1 (ztl h2)) (fun q => kf (Int.not_lt.mp (fun z => q ((zi_gt0 (zhd h2)).mpr z))) p e s m args below meth c H locs lr hX hH hl hn h1 (ztl h2))
theorem wq_if_le {x : Int} {off : Int} (tgt : Nat) (ht : (pc : Int) + off = (tgt : Int)) (d : decode M.2.1 pc = .ok (.ifCond .le off, 3)) (kt : x ≤ 0 → wq G R Z X M n0 n tgt ls st h) (kf : 0 < x → wq G R Z X M n0 n (pc + 3) ls st h) : wq G R Z X M n0 n pc ls (vI x :: st) h := by
  intro p e s m args below meth c H locs lr hX hH hl hn h1 h2
  exact lv_if_le hX.1 hX.2.1 d ht (fun q => kt ((zi_le0 (zhd h2)).mp q) p e s m args below meth c H locs lr hX hH hl hn h1 (ztl h2)) (fun q => kf (Int.not_le.mp (fun z => q ((zi_le0 (zhd h2)).mpr z))) p e s m args below meth c H locs lr hX hH hl hn h1 (ztl h2))
theorem wq_icmp_eq {x y : Int} {off : Int} (tgt : Nat) (ht : (pc : Int) + off = (tgt : Int)) (d : decode M.2.1 pc = .ok (.if_icmp .eq off, 3)) (kt : x = y → wq G R Z X M n0 n tgt ls st h) (kf : x ≠ y → wq G R Z X M n0 n (pc + 3) ls st h) : wq G R Z X M n0 n pc ls (vI y :: vI x :: st) h := by
  intro p e s m args below meth c H locs lr hX hH hl hn h1 h2
  exact lv_icmp_eq hX.1 hX.2.1 d ht (fun q => kt ((zi_eq (zhd (ztl h2)) (zhd h2)).mp q) p e s m args below meth c H locs lr hX hH hl hn h1 (ztl (ztl h2))) (fun q => kf (fun z => q ((zi_eq (zhd (ztl h2)) (zhd h2)).mpr z)) p e s m args below meth c H locs lr hX hH hl hn h1 (ztl (ztl h2)))
theorem wq_icmp_ne {x y : Int} {off : Int} (tgt : Nat) (ht : (pc : Int) + off = (tgt : Int)) (d : decode M.2.1 pc = .ok (.if_icmp .ne off, 3)) (kt : x ≠ y → wq G R Z X M n0 n tgt ls st h) (kf : x = y → wq G R Z X M n0 n (pc + 3) ls st h) : wq G R Z X M n0 n pc ls (vI y :: vI x :: st) h := by
  intro p e s m args below meth c H locs lr hX hH hl hn h1 h2
  exact lv_icmp_ne hX.1 hX.2.1 d ht (fun q => kt (fun z => q ((zi_eq (zhd (ztl h2)) (zhd h2)).mpr z)) p e s m args below meth c H locs lr hX hH hl hn h1 (ztl (ztl h2))) (fun q => kf ((zi_eq (zhd (ztl h2)) (zhd h2)).mp q) p e s m args below meth c H locs lr hX hH hl hn h1 (ztl (ztl h2)))
theorem wq_icmp_lt {x y : Int} {off : Int} (tgt : Nat) (ht : (pc : Int) + off = (tgt : Int)) (d : decode M.2.1 pc = .ok (.if_icmp .lt off, 3)) (kt : x < y → wq G R Z X M n0 n tgt ls st h) (kf : y ≤ x → wq G R Z X M n0 n (pc + 3) ls st h) : wq G R Z X M n0 n pc ls (vI y :: vI x :: st) h := by
  intro p e s m args below meth c H locs lr hX hH hl hn h1 h2
  exact lv_icmp_lt hX.1 hX.2.1 d ht (fun q => kt ((zi_lt (zhd (ztl h2)) (zhd h2)).mp q) p e s m args below meth c H locs lr hX hH hl hn h1 (ztl (ztl h2))) (fun q => kf (Int.not_lt.mp (fun z => q ((zi_lt (zhd (ztl h2)) (zhd h2)).mpr z))) p e s m args below meth c H locs lr hX hH hl hn h1 (ztl (ztl h2)))
theorem wq_icmp_ge {x y : Int} {off : Int} (tgt : Nat) (ht : (pc : Int) + off = (tgt : Int)) (d : decode M.2.1 pc = .ok (.if_icmp .ge off, 3)) (kt : y ≤ x → wq G R Z X M n0 n tgt ls st h) (kf : x < y → wq G R Z X M n0 n (pc + 3) ls st h) : wq G R Z X M n0 n pc ls (vI y :: vI x :: st) h := by
  intro p e s m args below meth c H locs lr hX hH hl hn h1 h2
  exact lv_icmp_ge hX.1 hX.2.1 d ht (fun q => kt ((zi_le (zhd h2) (zhd (ztl h2))).mp q) p e s m args below meth c H locs lr hX hH hl hn h1 (ztl (ztl h2))) (fun q => kf (Int.not_le.mp (fun z => q ((zi_le (zhd h2) (zhd (ztl h2))).mpr z))) p e s m args below meth c H locs lr hX hH hl hn h1 (ztl (ztl h2)))
theorem wq_icmp_gt {x y : Int} {off : Int} (tgt : Nat) (ht : (pc : Int) + off = (tgt : Int)) (d : decode M.2.1 pc = .ok (.if_icmp .gt off, 3)) (kt : y < x → wq G R Z X M n0 n tgt ls st h) (kf : x ≤ y → wq G R Z X M n0 n (pc + 3) ls st h) : wq G R Z X M n0 n pc ls (vI y :: vI x :: st) h := by
  intro p e s m args below meth c H locs lr hX hH hl hn h1 h2
  exact lv_icmp_gt hX.1 hX.2.1 d ht (fun q => kt ((zi_lt (zhd h2) (zhd (ztl h2))).mp q) p e s m args below meth c H locs lr hX hH hl hn h1 (ztl (ztl h2))) (fun q => kf (Int.not_lt.mp (fun z => q ((zi_lt (zhd h2) (zhd (ztl h2))).mpr z))) p e s m args below meth c H locs lr hX hH hl hn h1 (ztl (ztl h2)))
theorem wq_icmp_le {x y : Int} {off : Int} (tgt : Nat) (ht : (pc : Int) + off = (tgt : Int)) (d : decode M.2.1 pc = .ok (.if_icmp .le off, 3)) (kt : x ≤ y → wq G R Z X M n0 n tgt ls st h) (kf : y < x → wq G R Z X M n0 n (pc + 3) ls st h) : wq G R Z X M n0 n pc ls (vI y :: vI x :: st) h := by
  intro p e s m args below meth c H locs lr hX hH hl hn h1 h2
  exact lv_icmp_le hX.1 hX.2.1 d ht (fun q => kt ((zi_le (zhd (ztl h2)) (zhd h2)).mp q) p e s m args below meth c H locs lr hX hH hl hn h1 (ztl (ztl h2))) (fun q => kf (Int.not_le.mp (fun z => q ((zi_le (zhd (ztl h2)) (zhd h2)).mpr z))) p e s m args below meth c H locs lr hX hH hl hn h1 (ztl (ztl h2)))
theorem wq_goto {off : Int} (tgt : Nat) (ht : (pc : Int) + off = (tgt : Int)) (d : decode M.2.1 pc = .ok (.goto off, 3)) (k : wq G R Z X M n0 n tgt ls st h) : wq G R Z X M n0 n pc ls st h := by
  intro p e s m args below meth c H locs lr hX hH hl hn h1 h2
  exact lv_goto hX.1 hX.2.1 d ht (k p e s m args below meth c H locs lr hX hH hl hn h1 h2)
theorem zcmp_val {x y : Int} (hx : zIL x) (hy : zIL y) : lg_cmp (Int64.ofInt x) (Int64.ofInt y) = if y < x then 1 else if x = y then 0 else -1 := by
  unfold lg_cmp
  by_cases a : y < x
  · rw [if_pos ((zl_lt' hy hx).mpr a), if_pos a]
  · rw [if_neg (fun q => a ((zl_lt' hy hx).mp q)), if_neg a]
    by_cases b : x = y
    · rw [if_pos (by rw [b]), if_pos b]
    · rw [if_neg (fun q => b ((zl_eq hx hy).mp q)), if_neg b]
theorem wq_lcmp_eq {x y : Int} {off : Int} (tgt : Nat) (ht : ((pc + 1 : Nat) : Int) + off = (tgt : Int)) (d1 : decode M.2.1 pc = .ok (.lcmp, 1)) (d : decode M.2.1 (pc + 1) = .ok (.ifCond .eq off, 3)) (kt : x = y → wq G R Z X M n0 n tgt ls st h) (kf : x ≠ y → wq G R Z X M n0 n (pc + 1 + 3) ls st h) : wq G R Z X M n0 n pc ls (vL y :: vL x :: st) h := by
  intro p e s m args below meth c H locs lr hX hH hl hn h1 h2
  refine W.lcmp hX.1 hX.2.1 d1 ?_
  rw [zcmp_val (zhd (ztl h2)) (zhd h2)]
  refine lv_if_eq hX.1 hX.2.1 d ht (fun q => kt ?_ p e s m args below meth c H locs lr hX hH hl hn h1 (ztl (ztl h2))) (fun q => kf ?_ p e s m args below meth c H locs lr hX hH hl hn h1 (ztl (ztl h2)))
  · revert q
    by_cases a : y < x
    · rw [if_pos a]; intro q; first | omega | exact absurd q (by decide)
    · rw [if_neg a]
      by_cases b : x = y
      · rw [if_pos b]; intro q; first | omega | exact absurd q (by decide)
      · rw [if_neg b]; intro q; first | omega | exact absurd q (by decide)
  · revert q
    by_cases a : y < x
    · rw [if_pos a]; intro q; first | omega | exact absurd q (by decide)
    · rw [if_neg a]
      by_cases b : x = y
      · rw [if_pos b]; intro q; first | omega | exact absurd q (by decide)
      · rw [if_neg b]; intro q; first | omega | exact absurd q (by decide)
theorem wq_lcmp_ne {x y : Int} {off : Int} (tgt : Nat) (ht : ((pc + 1 : Nat) : Int) + off = (tgt : Int)) (d1 : decode M.2.1 pc = .ok (.lcmp, 1)) (d : decode M.2.1 (pc + 1) = .ok (.ifCond .ne off, 3)) (kt : x ≠ y → wq G R Z X M n0 n tgt ls st h) (kf : x = y → wq G R Z X M n0 n (pc + 1 + 3) ls st h) : wq G R Z X M n0 n pc ls (vL y :: vL x :: st) h := by
  intro p e s m args below meth c H locs lr hX hH hl hn h1 h2
  refine W.lcmp hX.1 hX.2.1 d1 ?_
  rw [zcmp_val (zhd (ztl h2)) (zhd h2)]
  refine lv_if_ne hX.1 hX.2.1 d ht (fun q => kt ?_ p e s m args below meth c H locs lr hX hH hl hn h1 (ztl (ztl h2))) (fun q => kf ?_ p e s m args below meth c H locs lr hX hH hl hn h1 (ztl (ztl h2)))
  · revert q
    by_cases a : y < x
    · rw [if_pos a]; intro q; first | omega | exact absurd q (by decide)
    · rw [if_neg a]
      by_cases b : x = y
      · rw [if_pos b]; intro q; first | omega | exact absurd q (by decide)
      · rw [if_neg b]; intro q; first | omega | exact absurd q (by decide)
  · revert q
    by_cases a : y < x
    · rw [if_pos a]; intro q; first | omega | exact absurd q (by decide)
    · rw [if_neg a]
      by_cases b : x = y
      · rw [if_pos b]; intro q; first | omega | exact absurd q (by decide)
      · rw [if_neg b]; intro q; first | omega | exact absurd q (by decide)
theorem wq_lcmp_lt {x y : Int} {off : Int} (tgt : Nat) (ht : ((pc + 1 : Nat) : Int) + off = (tgt : Int)) (d1 : decode M.2.1 pc = .ok (.lcmp, 1)) (d : decode M.2.1 (pc + 1) = .ok (.ifCond .lt off, 3)) (kt : x < y → wq G R Z X M n0 n tgt ls st h) (kf : y ≤ x → wq G R Z X M n0 n (pc + 1 + 3) ls st h) : wq G R Z X M n0 n pc ls (vL y :: vL x :: st) h := by
  intro p e s m args below meth c H locs lr hX hH hl hn h1 h2
  refine W.lcmp hX.1 hX.2.1 d1 ?_
  rw [zcmp_val (zhd (ztl h2)) (zhd h2)]
  refine lv_if_lt hX.1 hX.2.1 d ht (fun q => kt ?_ p e s m args below meth c H locs lr hX hH hl hn h1 (ztl (ztl h2))) (fun q => kf ?_ p e s m args below meth c H locs lr hX hH hl hn h1 (ztl (ztl h2)))
  · revert q
    by_cases a : y < x
    · rw [if_pos a]; intro q; first | omega | exact absurd q (by decide)
    · rw [if_neg a]
      by_cases b : x = y
      · rw [if_pos b]; intro q; first | omega | exact absurd q (by decide)
      · rw [if_neg b]; intro q; first | omega | exact absurd q (by decide)
  · revert q
    by_cases a : y < x
    · rw [if_pos a]; intro q; first | omega | exact absurd q (by decide)
    · rw [if_neg a]
      by_cases b : x = y
      · rw [if_pos b]; intro q; first | omega | exact absurd q (by decide)
      · rw [if_neg b]; intro q; first | omega | exact absurd q (by decide)
theorem wq_lcmp_ge {x y : Int} {off : Int} (tgt : Nat) (ht : ((pc + 1 : Nat) : Int) + off = (tgt : Int)) (d1 : decode M.2.1 pc = .ok (.lcmp, 1)) (d : decode M.2.1 (pc + 1) = .ok (.ifCond .ge off, 3)) (kt : y ≤ x → wq G R Z X M n0 n tgt ls st h) (kf : x < y → wq G R Z X M n0 n (pc + 1 + 3) ls st h) : wq G R Z X M n0 n pc ls (vL y :: vL x :: st) h := by
  intro p e s m args below meth c H locs lr hX hH hl hn h1 h2
  refine W.lcmp hX.1 hX.2.1 d1 ?_
  rw [zcmp_val (zhd (ztl h2)) (zhd h2)]
  refine lv_if_ge hX.1 hX.2.1 d ht (fun q => kt ?_ p e s m args below meth c H locs lr hX hH hl hn h1 (ztl (ztl h2))) (fun q => kf ?_ p e s m args below meth c H locs lr hX hH hl hn h1 (ztl (ztl h2)))
  · revert q
    by_cases a : y < x
    · rw [if_pos a]; intro q; first | omega | exact absurd q (by decide)
    · rw [if_neg a]
      by_cases b : x = y
      · rw [if_pos b]; intro q; first | omega | exact absurd q (by decide)
      · rw [if_neg b]; intro q; first | omega | exact absurd q (by decide)
  · revert q
    by_cases a : y < x
    · rw [if_pos a]; intro q; first | omega | exact absurd q (by decide)
    · rw [if_neg a]
      by_cases b : x = y
      · rw [if_pos b]; intro q; first | omega | exact absurd q (by decide)
      · rw [if_neg b]; intro q; first | omega | exact absurd q (by decide)
theorem wq_lcmp_gt {x y : Int} {off : Int} (tgt : Nat) (ht : ((pc + 1 : Nat) : Int) + off = (tgt : Int)) (d1 : decode M.2.1 pc = .ok (.lcmp, 1)) (d : decode M.2.1 (pc + 1) = .ok (.ifCond .gt off, 3)) (kt : y < x → wq G R Z X M n0 n tgt ls st h) (kf : x ≤ y → wq G R Z X M n0 n (pc + 1 + 3) ls st h) : wq G R Z X M n0 n pc ls (vL y :: vL x :: st) h := by
  intro p e s m args below meth c H locs lr hX hH hl hn h1 h2
  refine W.lcmp hX.1 hX.2.1 d1 ?_
  rw [zcmp_val (zhd (ztl h2)) (zhd h2)]
  refine lv_if_gt hX.1 hX.2.1 d ht (fun q => kt ?_ p e s m args below meth c H locs lr hX hH hl hn h1 (ztl (ztl h2))) (fun q => kf ?_ p e s m args below meth c H locs lr hX hH hl hn h1 (ztl (ztl h2)))
  · revert q
    by_cases a : y < x
    · rw [if_pos a]; intro q; first | omega | exact absurd q (by decide)
    · rw [if_neg a]
      by_cases b : x = y
      · rw [if_pos b]; intro q; first | omega | exact absurd q (by decide)
      · rw [if_neg b]; intro q; first | omega | exact absurd q (by decide)
  · revert q
    by_cases a : y < x
    · rw [if_pos a]; intro q; first | omega | exact absurd q (by decide)
    · rw [if_neg a]
      by_cases b : x = y
      · rw [if_pos b]; intro q; first | omega | exact absurd q (by decide)
      · rw [if_neg b]; intro q; first | omega | exact absurd q (by decide)
theorem wq_lcmp_le {x y : Int} {off : Int} (tgt : Nat) (ht : ((pc + 1 : Nat) : Int) + off = (tgt : Int)) (d1 : decode M.2.1 pc = .ok (.lcmp, 1)) (d : decode M.2.1 (pc + 1) = .ok (.ifCond .le off, 3)) (kt : x ≤ y → wq G R Z X M n0 n tgt ls st h) (kf : y < x → wq G R Z X M n0 n (pc + 1 + 3) ls st h) : wq G R Z X M n0 n pc ls (vL y :: vL x :: st) h := by
  intro p e s m args below meth c H locs lr hX hH hl hn h1 h2
  refine W.lcmp hX.1 hX.2.1 d1 ?_
  rw [zcmp_val (zhd (ztl h2)) (zhd h2)]
  refine lv_if_le hX.1 hX.2.1 d ht (fun q => kt ?_ p e s m args below meth c H locs lr hX hH hl hn h1 (ztl (ztl h2))) (fun q => kf ?_ p e s m args below meth c H locs lr hX hH hl hn h1 (ztl (ztl h2)))
  · revert q
    by_cases a : y < x
    · rw [if_pos a]; intro q; first | omega | exact absurd q (by decide)
    · rw [if_neg a]
      by_cases b : x = y
      · rw [if_pos b]; intro q; first | omega | exact absurd q (by decide)
      · rw [if_neg b]; intro q; first | omega | exact absurd q (by decide)
  · revert q
    by_cases a : y < x
    · rw [if_pos a]; intro q; first | omega | exact absurd q (by decide)
    · rw [if_neg a]
      by_cases b : x = y
      · rw [if_pos b]; intro q; first | omega | exact absurd q (by decide)
      · rw [if_neg b]; intro q; first | omega | exact absurd q (by decide)
theorem wq_tsw {x : Int} {dflt lo hi : Int} {offs : Array Int} {len : Nat} (td : Nat) (tgts : List Nat) (hd : (pc : Int) + dflt = (td : Int)) (ht : offs.toList.map (fun o => (pc : Int) + o) = tgts.map (fun (t : Nat) => (t : Int))) (hh : hi = lo + tgts.length - 1) (d : decode M.2.1 pc = .ok (.tableswitch dflt lo hi offs, len))
    (kd : x < lo ∨ hi < x → wq G R Z X M n0 n td ls st h) (kc : ∀ (j tg : Nat), tgts[j]? = some tg → x = lo + j → wq G R Z X M n0 n tg ls st h) : wq G R Z X M n0 n pc ls (vI x :: st) h := by
  intro p e s m args below meth c H locs lr hX hH hl hn h1 h2
  have ex := zi_of (zhd h2)
  by_cases ho : x < lo ∨ hi < x
  · exact lv_tableOut hX.1 hX.2.1 d (by rw [ex]; exact ho) hd (kd ho p e s m args below meth c H locs lr hX hH hl hn h1 (ztl h2))
  · have g1 : ¬ x < lo := fun q => ho (Or.inl q)
    have g2 : ¬ hi < x := fun q => ho (Or.inr q)
    have hj : (x - lo).toNat < tgts.length := by omega
    have e1 : (offs.toList.map (fun o => (pc : Int) + o))[(x - lo).toNat]? = some ((tgts[(x - lo).toNat] : Nat) : Int) := by rw [ht, List.getElem?_map, List.getElem?_eq_getElem hj]; rfl
    rw [List.getElem?_map] at e1
    obtain ⟨off, e2, e3⟩ := Option.map_eq_some_iff.mp e1
    refine lv_tableIn hX.1 hX.2.1 d (by rw [ex]; exact g1) (by rw [ex]; exact g2) (off := off) (tgt := tgts[(x - lo).toNat]) (by rw [ex, ← Array.getElem?_toList]; exact e2) e3 ?_
    exact kc (x - lo).toNat _ (List.getElem?_eq_getElem hj) (by omega) p e s m args below meth c H locs lr hX hH hl hn h1 (ztl h2)
theorem wq_lsw {x : Int} {dflt : Int} {ps : Array (Int × Int)} {len : Nat} (hp : (ps.toList.zip (ps.toList.drop 1)).all (fun (a, next) => a.1 < next.1) = true) (d : decode M.2.1 pc = .ok (.lookupswitch dflt ps, len))
    (k : ∀ (off : Int), Op.lookupswitch.offset ps.toList dflt x = off → ∃ tgt : Nat, (pc : Int) + off = (tgt : Int) ∧ wq G R Z X M n0 n tgt ls st h) : wq G R Z X M n0 n pc ls (vI x :: st) h := by
  intro p e s m args below meth c H locs lr hX hH hl hn h1 h2
  have ex := zi_of (zhd h2)
  obtain ⟨tgt, ht, kk⟩ := k _ rfl
  exact lv_lookup hX.1 hX.2.1 d hp (by rw [ex]) ht (kk p e s m args below meth c H locs lr hX hH hl hn h1 (ztl h2))
end RULES
end
section
def gI (h : zHp) (a j : Nat) : Int := h.1 a j
def gL (h : zHp) (a j : Nat) : Int := h.2.1 a j
def gR (h : zHp) (a j : Nat) : Nat := h.2.2 a j
def sI (h : zHp) (a j : Nat) (z : Int) : zHp := (fun b k => if b = a ∧ k = j then z else h.1 b k, h.2.1, h.2.2)
def sL (h : zHp) (a j : Nat) (z : Int) : zHp := (h.1, fun b k => if b = a ∧ k = j then z else h.2.1 b k, h.2.2)
def sR (h : zHp) (a j : Nat) (r : Nat) : zHp := (h.1, h.2.1, fun b k => if b = a ∧ k = j then r else h.2.2 b k)
theorem gI_sI (h : zHp) (a j : Nat) (z : Int) (b k : Nat) : gI (sI h a j z) b k = if b = a ∧ k = j then z else gI h b k := rfl
theorem gL_sL (h : zHp) (a j : Nat) (z : Int) (b k : Nat) : gL (sL h a j z) b k = if b = a ∧ k = j then z else gL h b k := rfl
theorem gR_sR (h : zHp) (a j : Nat) (r b k : Nat) : gR (sR h a j r) b k = if b = a ∧ k = j then r else gR h b k := rfl
theorem gI_sL (h : zHp) (a j : Nat) (z : Int) (b k : Nat) : gI (sL h a j z) b k = gI h b k := rfl
theorem gI_sR (h : zHp) (a j r b k : Nat) : gI (sR h a j r) b k = gI h b k := rfl
theorem gL_sI (h : zHp) (a j : Nat) (z : Int) (b k : Nat) : gL (sI h a j z) b k = gL h b k := rfl
theorem gL_sR (h : zHp) (a j r b k : Nat) : gL (sR h a j r) b k = gL h b k := rfl
theorem gR_sI (h : zHp) (a j : Nat) (z : Int) (b k : Nat) : gR (sI h a j z) b k = gR h b k := rfl
theorem gR_sL (h : zHp) (a j : Nat) (z : Int) (b k : Nat) : gR (sL h a j z) b k = gR h b k := rfl
theorem zRg_sI {h : zHp} (hr : zRg h) {a j : Nat} {z : Int} (hz : zII z) : zRg (sI h a j z) := by
  intro b k
  refine ⟨?_, (hr b k).2⟩
  show zII (if b = a ∧ k = j then z else h.1 b k)
  split
  · exact hz
  · exact (hr b k).1
theorem zRg_sL {h : zHp} (hr : zRg h) {a j : Nat} {z : Int} (hz : zIL z) : zRg (sL h a j z) := by
  intro b k
  refine ⟨(hr b k).1, ?_⟩
  show zIL (if b = a ∧ k = j then z else h.2.1 b k)
  split
  · exact hz
  · exact (hr b k).2
theorem zRg_sR {h : zHp} (hr : zRg h) {a j r : Nat} : zRg (sR h a j r) := hr
theorem sI_row {h : zHp} {a j b : Nat} {z : Int} (hb : b ≠ a) : (sI h a j z).1 b = h.1 b ∧ (sI h a j z).2.1 b = h.2.1 b ∧ (sI h a j z).2.2 b = h.2.2 b := by
  refine ⟨?_, rfl, rfl⟩
  funext k
  show (if b = a ∧ k = j then z else h.1 b k) = _
  rw [if_neg (fun q => hb q.1)]
theorem sL_row {h : zHp} {a j b : Nat} {z : Int} (hb : b ≠ a) : (sL h a j z).1 b = h.1 b ∧ (sL h a j z).2.1 b = h.2.1 b ∧ (sL h a j z).2.2 b = h.2.2 b := by
  refine ⟨rfl, ?_, rfl⟩
  funext k
  show (if b = a ∧ k = j then z else h.2.1 b k) = _
  rw [if_neg (fun q => hb q.1)]
theorem sR_row {h : zHp} {a j b r : Nat} (hb : b ≠ a) : (sR h a j r).1 b = h.1 b ∧ (sR h a j r).2.1 b = h.2.1 b ∧ (sR h a j r).2.2 b = h.2.2 b := by
  refine ⟨rfl, rfl, ?_⟩
  funext k
  show (if b = a ∧ k = j then r else h.2.2 b k) = _
  rw [if_neg (fun q => hb q.1)]
theorem zfv_row {B b j : Nat} {h h' : zHp} (hr : h'.1 b = h.1 b ∧ h'.2.1 b = h.2.1 b ∧ h'.2.2 b = h.2.2 b) (t : FieldType) : zfv B h' b t j = zfv B h b t j := by
  unfold zfv
  cases t <;> simp only [hr.1, hr.2.1, hr.2.2]
theorem zent_row {G : zG} {h h' : zHp} {b : Nat} (t : Nat × Nat) (hr : h'.1 b = h.1 b ∧ h'.2.1 b = h.2.1 b ∧ h'.2.2 b = h.2.2 b) : zent G h' b t = zent G h b t := by
  unfold zent
  rw [hr.1, hr.2.1, hr.2.2]
  have e : ∀ c, zfl G.2.1 h' b c = zfl G.2.1 h b c := fun c => List.map_congr_left (fun j _ => zfv_row hr _)
  rw [e]
theorem zH_put {G : zG} {n0 n a k : Nat} {h h' : zHp} {s : State} {H H1 : Heap} {locs : List Loc} (hH : zH G n0 n h s H locs) (g1 : 1 ≤ a) (g2 : a ≤ n) (e1 : va_at G.2.2.1 zcl (G.2.1 + a, zent G h' a (zTAU a)) H1) (e2 : H1.size = H.size) (e3 : ∀ q : Nat, q ≠ G.2.1 + a → H1[q]? = H[q]?)
    (ho : ∀ b, b ≠ a → h'.1 b = h.1 b ∧ h'.2.1 b = h.2.1 b ∧ h'.2.2 b = h.2.2 b) (hr : zRg h')   : zH G n0 n h' s H1 (locs ++ [⟨G.2.1 + a, k⟩]) := by
  obtain ⟨⟨hP, hz, hZ, -⟩, hS, hB⟩ := hH
  refine ⟨⟨?_, e2.trans hz, ?_, hr⟩, hS.put e2 e3 (show G.2.1 < G.2.1 + a by omega), hB⟩
  · have q := va_P.set hP (zD G n h) (zl_get g1 g2) e1 e3
    rw [zl_set g1 g2 (fun b hb => zent_row _ (ho b hb))] at q
    exact q
  · intro b hb i
    obtain ⟨q1, q2, q3⟩ := ho b (by omega)
    rw [q1, q2, q3]
    exact hZ b hb i
theorem zT_at {n a : Nat} {t : Nat × Nat} (ht : zT n a = t) (h9 : t.1 ≠ 99) : 1 ≤ a ∧ a ≤ n ∧ zTAU a = t := by
  obtain ⟨q1, q2, q3⟩ := zT_in (c := t.1) (by rw [ht]) h9
  exact ⟨q1, q2, by rw [← q3, ht]⟩
theorem zent_0 {G : zG} {h : zHp} {a k : Nat} : zent G h a (0, k) = .inl (G.2.2.2 0, k, .inl (fun j => Int32.ofInt (h.1 a j))) := by unfold zent; rw [if_pos rfl]
theorem zent_1 {G : zG} {h : zHp} {a k : Nat} : zent G h a (1, k) = .inl (G.2.2.2 1, k, .inr (.inl (fun j => Int64.ofInt (h.2.1 a j)))) := by
  unfold zent; simp only; rw [if_neg (by omega)]; rfl
theorem zent_a {G : zG} {h : zHp} {a t k : Nat} (h1 : 2 ≤ t) (h2 : t < 100) : zent G h a (t, k) = .inl (G.2.2.2 t, k, .inr (.inr (.inr (.inr (fun j => zrO G.2.1 (h.2.2 a j)))))) := by
  unfold zent
  simp only
  rw [if_neg (by omega), if_neg (by omega), if_pos h2]
theorem zent_o {G : zG} {h : zHp} {a c k : Nat} : zent G h a (100 + c, k) = .inr (c, zfl G.2.1 h a c) := by
  unfold zent
  simp only
  rw [if_neg (by omega), if_neg (by omega), if_neg (by omega), show 100 + c - 100 = c by omega]
theorem zfl_get {B : Nat} {h : zHp} {a c j : Nat} (hj : j < zN c) : (zfl B h a c)[j]? = some (zfv B h a (zty c j) j) := by
  rw [zfl, List.getElem?_map, List.getElem?_range hj]
  rfl
theorem zfl_set {B : Nat} {h h' : zHp} {a c j : Nat} (hj : j < zN c) (ho : ∀ k, k ≠ j → zfv B h' a (zty c k) k = zfv B h a (zty c k) k) : (zfl B h a c).set j (zfv B h' a (zty c j) j) = zfl B h' a c := by
  apply List.ext_getElem?
  intro k
  have hl : (zfl B h a c).length = zN c := by simp [zfl]
  rw [List.getElem?_set, hl]
  by_cases hk : j = k
  · subst hk
    rw [if_pos rfl, if_pos hj, zfl_get hj]
  · rw [if_neg hk]
    by_cases hn : k < zN c
    · rw [zfl_get hn, zfl_get hn, ho k (fun q => hk q.symm)]
    · rw [List.getElem?_eq_none (by simp [zfl]; omega), List.getElem?_eq_none (by simp [zfl]; omega)]
theorem sI_fv {B : Nat} {h : zHp} {a j k : Nat} {z : Int} (t : FieldType) (hk : k ≠ j) : zfv B (sI h a j z) a t k = zfv B h a t k := by
  have e : (sI h a j z).1 a k = h.1 a k := by
    show (if a = a ∧ k = j then z else h.1 a k) = _
    rw [if_neg (fun q => hk q.2)]
  unfold zfv
  cases t <;> simp only [e] <;> rfl
theorem sL_fv {B : Nat} {h : zHp} {a j k : Nat} {z : Int} (t : FieldType) (hk : k ≠ j) : zfv B (sL h a j z) a t k = zfv B h a t k := by
  have e : (sL h a j z).2.1 a k = h.2.1 a k := by
    show (if a = a ∧ k = j then z else h.2.1 a k) = _
    rw [if_neg (fun q => hk q.2)]
  unfold zfv
  cases t <;> simp only [e] <;> rfl
theorem sR_fv {B : Nat} {h : zHp} {a j k r : Nat} (t : FieldType) (hk : k ≠ j) : zfv B (sR h a j r) a t k = zfv B h a t k := by
  have e : (sR h a j r).2.2 a k = h.2.2 a k := by
    show (if a = a ∧ k = j then r else h.2.2 a k) = _
    rw [if_neg (fun q => hk q.2)]
  unfold zfv
  cases t <;> simp only [e] <;> rfl
section HEAP
variable {G : zG} {R : Room} {Z : List Frame → Array Value → State → State → Prop} {X : Array Value → State → Prop} {M : zM} {n0 n pc : Nat} {ls : zLs} {st : List zV} {h : zHp}
theorem wq_getv {a c j idx : Nat} {C : String} {T : u_T} {v : zV} (hf : zFd M.1.cls idx c j C T) (ht : zT n a = (100 + c, zN c)) (hv : zfv G.2.1 h a (zty c j) j = zv G.2.1 v) (hok : zRg h → zok v) (d : decode M.2.1 pc = .ok (.getfield idx, 3)) (k : wq G R Z X M n0 n (pc + 3) ls (v :: st) h) : wq G R Z X M n0 n pc ls (vR a :: st) h := by
  intro p e s m args below meth c9 H locs lr hX hH hl hn h1 h2
  obtain ⟨⟨c1, c2, c3, c4⟩, f1, f2⟩ := hf
  obtain ⟨q1, q2, q3⟩ := zT_at ht (by simp only; omega)
  have he := zl_get (G := G) (h := h) q1 q2
  rw [q3, zent_o] at he
  refine va_get hX.1 hX.2.1 hX.2.2.2.2.2.2.1 c2 hX.2.2.2.2.2.1 hX.2.2.2.2.2.2.2.2.1.1 hH.1.1 (a - 1) he c1 j f1 (hX.2.2.2.2.2.2.1 _ f2) (fun _ x => x) (zfl_get f1) d ?_
  rw [hv]
  exact k p e s m args below meth c9 H locs lr hX hH hl hn h1 (zcons (hok hH.1.2.2.2) (ztl h2))
theorem wq_getI {a c j idx : Nat} {C : String} {T : u_T} (hf : zFd M.1.cls idx c j C T) (ht : zT n a = (100 + c, zN c)) (hk : ∀ (B : Nat) (h : zHp) (a : Nat), zfv B h a (zty c j) j = .int (Int32.ofInt (h.1 a j))) (d : decode M.2.1 pc = .ok (.getfield idx, 3)) (k : wq G R Z X M n0 n (pc + 3) ls (vI (gI h a j) :: st) h) : wq G R Z X M n0 n pc ls (vR a :: st) h :=
  wq_getv (v := vI (gI h a j)) hf ht (hk _ _ _) (fun hr => (hr a j).1) d k
theorem wq_getL {a c j idx : Nat} {C : String} {T : u_T} (hf : zFd M.1.cls idx c j C T) (ht : zT n a = (100 + c, zN c)) (hk : ∀ (B : Nat) (h : zHp) (a : Nat), zfv B h a (zty c j) j = .long (Int64.ofInt (h.2.1 a j))) (d : decode M.2.1 pc = .ok (.getfield idx, 3)) (k : wq G R Z X M n0 n (pc + 3) ls (vL (gL h a j) :: st) h) : wq G R Z X M n0 n pc ls (vR a :: st) h :=
  wq_getv (v := vL (gL h a j)) hf ht (hk _ _ _) (fun hr => (hr a j).2) d k
theorem wq_getR {a c j idx r : Nat} {C : String} {T : u_T} (hf : zFd M.1.cls idx c j C T) (ht : zT n a = (100 + c, zN c)) (hk : ∀ (B : Nat) (h : zHp) (a : Nat), zfv B h a (zty c j) j = va_rf (zrO B (h.2.2 a j))) (hr : gR h a j = r) (h0 : r ≠ 0) (d : decode M.2.1 pc = .ok (.getfield idx, 3)) (k : wq G R Z X M n0 n (pc + 3) ls (vR r :: st) h) : wq G R Z X M n0 n pc ls (vR a :: st) h := by
  refine wq_getv (v := vR r) hf ht ?_ (fun _ => trivial) d k
  rw [hk, show h.2.2 a j = r from hr, zrO, if_neg h0]
  rfl
theorem wq_putv {a c j idx : Nat} {C : String} {T : u_T} {v : zV} {h' : zHp} (hf : zFd M.1.cls idx c j C T) (ht : zT n a = (100 + c, zN c)) (hfin : (T j).2.2.2 = false ∨ ((T j).2.2.2 = true ∧ M.1.name = "<init>" ∧ (T j).1 = M.1.cls))
    (hv : zfv G.2.1 h' a (zty c j) j = zv G.2.1 v) (hna : narrow (zty c j) (zv G.2.1 v) = zv G.2.1 v) (hfi : fits (zty c j) (zv G.2.1 v) = true) (ho : ∀ b, b ≠ a → h'.1 b = h.1 b ∧ h'.2.1 b = h.2.1 b ∧ h'.2.2 b = h.2.2 b) (ho2 : ∀ k, k ≠ j → zfv G.2.1 h' a (zty c k) k = zfv G.2.1 h a (zty c k) k) (hrg : zok v → zRg h → zRg h')
    (d : decode M.2.1 pc = .ok (.putfield idx, 3)) (k : wq G R Z X M n0 n (pc + 3) ls st h') : wq G R Z X M n0 n pc ls (v :: vR a :: st) h := by
  intro p e s m args below meth c9 H locs lr hX hH hl hn h1 h2
  obtain ⟨⟨c1, c2, c3, c4⟩, f1, f2⟩ := hf
  obtain ⟨q1, q2, q3⟩ := zT_at ht (by simp only; omega)
  have he := zl_get (G := G) (h := h) q1 q2
  rw [q3, zent_o] at he
  have hts := hX.2.2.2.2.2.2.1
  have hK := hX.2.2.2.2.2.2.2.2.1.1
  have hown := hX.2.2.2.2.2.1
  have hap := va_apart (own := M.1.cls) hts c2 (zty c) c3 c4 hK c1
  obtain ⟨r, g1, cell, w1, w2, w3, w4⟩ := hH.1.1 (a - 1) _ he
  have hr : r = (C, T, zN c) := Option.some.inj (g1.symm.trans c1)
  subst hr
  obtain ⟨hS, hfc, kC, hkC, hkind⟩ := hK.1 c _ c1
  obtain ⟨cf, kf, fi, f, hi, hsl⟩ := hS j f1
  have hlay := hts _ (c2 _ (u_in_lay f1))
  have hst := (u_facts hfc hkC (u_lays hts c2 f1) hi).1
  have fin : ∀ H1 : Heap, H1[G.2.1 + a]? = some (cell.setSlot f.slot (zv G.2.1 v)) → H1.size = H.size → (∀ q : Nat, q ≠ G.2.1 + a → H1[q]? = H[q]?) → W p G.1 e R s m args below meth c9 H1 (locs ++ [⟨G.2.1 + a, f.slot⟩]) (n - n0) (zSL n - zSL n0) (Z below args s) (F0 m (pc + 3) lr (st.map (zv G.2.1))) := by
    intro H1 e1 e2 e3
    refine k p e s m args below meth c9 H1 _ lr hX (zH_put hH q1 q2 ?_ e2 e3 ho (hrg (zhd h2) hH.1.2.2.2)) hl hn h1 (ztl (ztl h2))
    rw [q3, zent_o]
    refine ⟨_, c1, ?_⟩
    rw [hsl] at e1
    refine t_OB.to (V := updV (vp_V (zfl G.2.1 h a c)) j (zv G.2.1 v)) ⟨_, e1, w2, w3, t_set w4 hap f1 (zv G.2.1 v)⟩ (fun i _ => ?_)
    rw [vp_updV_set (by simp [zfl]; exact f1), ← hv, zfl_set f1 ho2]
  rcases hfin with hfin | ⟨hfin, hin, hdecl⟩
  · unfold u_lay at hlay
    rw [if_neg (by rw [hfin]; decide)] at hlay
    have h6 := u_store hfc hkC hkind hlay hi (c3 j f1) hna hfi
    exact W.putK hX.1 hX.2.1 (f := f) ⟨hown, hts _ f2, ⟨_, _, _, hi⟩, hst⟩ (by rw [w2]; exact h6) w1 w3 (by rw [hsl]; exact k2_hasslot (w4 j f1)) rfl rfl d fin
  · unfold u_lay at hlay
    rw [if_pos hfin] at hlay
    have hcf : m.cls = cf := by
      obtain ⟨_, _, c', _, _, _, -, -, hf', -, -, -, hown2, -⟩ := Cond.laysFinal_spec hlay
      have e1 : c' = cf := by have := hi.symm.trans hf'; simp at this; exact this.1.symm
      rw [hdecl] at hown2
      rw [← e1]; exact Option.some.inj (hown.symm.trans hown2)
    have h6 := u_fits hfc hkC hkind (Or.inr hlay) hi (c3 j f1) hna hfi
    exact W.putFinK hX.1 hX.2.1 hown (hts _ f2) hi hst hcf (hX.2.2.2.2.2.2.2.1.trans hin) (by rw [w2]; exact h6) w1 w3 (by rw [hsl]; exact k2_hasslot (w4 j f1)) rfl rfl d fin
/-- an int field that isn't final -/
theorem wq_putI {a c j idx : Nat} {C : String} {T : u_T} {z : Int} (hf : zFd M.1.cls idx c j C T) (ht : zT n a = (100 + c, zN c)) (hfin : (T j).2.2.2 = false) (hk : zty c j = .int) (d : decode M.2.1 pc = .ok (.putfield idx, 3)) (k : wq G R Z X M n0 n (pc + 3) ls st (sI h a j z)) : wq G R Z X M n0 n pc ls (vI z :: vR a :: st) h := by
  refine wq_putv hf ht (Or.inl hfin) ?_ (by rw [hk]; rfl) (by rw [hk]; rfl) (fun b hb => sI_row hb) (fun i hi => sI_fv _ hi) (fun hz hr => zRg_sI hr hz) d k
  rw [hk]
  show Value.int (Int32.ofInt (if a = a ∧ j = j then z else h.1 a j)) = _
  rw [if_pos ⟨rfl, rfl⟩]
  rfl
/-- a boolean field that isn't final -/
theorem wq_putZ {a c j idx : Nat} {C : String} {T : u_T} {z : Int} (hz01 : z = 0 ∨ z = 1) (hf : zFd M.1.cls idx c j C T) (ht : zT n a = (100 + c, zN c)) (hfin : (T j).2.2.2 = false) (hk : zty c j = .boolean) (d : decode M.2.1 pc = .ok (.putfield idx, 3)) (k : wq G R Z X M n0 n (pc + 3) ls st (sI h a j z)) : wq G R Z X M n0 n pc ls (vI z :: vR a :: st) h := by
  refine wq_putv hf ht (Or.inl hfin) ?_ (by rw [hk]; rcases hz01 with rfl | rfl <;> rfl) (by rw [hk]; rcases hz01 with rfl | rfl <;> rfl) (fun b hb => sI_row hb) (fun i hi => sI_fv _ hi) (fun hz hr => zRg_sI hr hz) d k
  rw [hk]
  show Value.int (Int32.ofInt (if a = a ∧ j = j then z else h.1 a j)) = _
  rw [if_pos ⟨rfl, rfl⟩]
  rfl
theorem wq_putL {a c j idx : Nat} {C : String} {T : u_T} {z : Int} (hf : zFd M.1.cls idx c j C T) (ht : zT n a = (100 + c, zN c)) (hfin : (T j).2.2.2 = false) (hk : zty c j = .long) (d : decode M.2.1 pc = .ok (.putfield idx, 3)) (k : wq G R Z X M n0 n (pc + 3) ls st (sL h a j z)) : wq G R Z X M n0 n pc ls (vL z :: vR a :: st) h := by
  refine wq_putv hf ht (Or.inl hfin) ?_ (by rw [hk]; rfl) (by rw [hk]; rfl) (fun b hb => sL_row hb) (fun i hi => sL_fv _ hi) (fun hz hr => zRg_sL hr hz) d k
  rw [hk]
  show Value.long (Int64.ofInt (if a = a ∧ j = j then z else h.2.1 a j)) = _
  rw [if_pos ⟨rfl, rfl⟩]
  rfl
theorem wq_putR {a c j idx r : Nat} {C : String} {T : u_T} (h0 : r ≠ 0) (hf : zFd M.1.cls idx c j C T) (ht : zT n a = (100 + c, zN c)) (hfin : (T j).2.2.2 = false ∨ ((T j).2.2.2 = true ∧ M.1.name = "<init>" ∧ (T j).1 = M.1.cls)) (hk : ∀ (B : Nat) (h : zHp) (a : Nat), zfv B h a (zty c j) j = va_rf (zrO B (h.2.2 a j))) (hna : ∀ q, narrow (zty c j) (.ref q) = .ref q) (hfi : ∀ q, fits (zty c j) (.ref q) = true) (d : decode M.2.1 pc = .ok (.putfield idx, 3)) (k : wq G R Z X M n0 n (pc + 3) ls st (sR h a j r)) : wq G R Z X M n0 n pc ls (vR r :: vR a :: st) h := by
  refine wq_putv hf ht hfin ?_ (hna _) (hfi _) (fun b hb => sR_row hb) (fun i hi => sR_fv _ hi) (fun _ hr => zRg_sR hr) d k
  rw [hk]
  show va_rf (zrO _ (if a = a ∧ j = j then r else h.2.2 a j)) = _
  rw [if_pos ⟨rfl, rfl⟩, zrO, if_neg h0]
  rfl
end HEAP
end
section
theorem zi_ofNat (k : Nat) : Int32.ofInt (k : Int) = Int32.ofNat k := by
  show (⟨⟨BitVec.ofInt 32 (k : Int)⟩⟩ : Int32) = ⟨⟨BitVec.ofNat 32 k⟩⟩
  rw [BitVec.ofInt_natCast]
theorem zZ_up {n : Nat} {h : zHp} (hz : zZ n h) : zZ (n + 1) h := fun a ha i => hz a (by omega) i
section ARR
variable {G : zG} {R : Room} {Z : List Frame → Array Value → State → State → Prop} {X : Array Value → State → Prop} {M : zM} {n0 n pc : Nat} {ls : zLs} {st : List zV} {h : zHp}
theorem wq_iald {a len : Nat} {i : Int} (ht : zT n a = (0, len)) (i0 : 0 ≤ i) (i1 : i < len) (d : decode M.2.1 pc = .ok (.iaload, 1)) (k : wq G R Z X M n0 n (pc + 1) ls (vI (gI h a i.toNat) :: st) h) : wq G R Z X M n0 n pc ls (vI i :: vR a :: st) h := by
  intro p e s m args below meth c H locs lr hX hH hl hn h1 h2
  obtain ⟨q1, q2, q3⟩ := zT_at ht (by simp)
  have he := zl_get (G := G) (h := h) q1 q2
  rw [q3, zent_0] at he
  refine va_iald hX.1 hX.2.1 hX.2.2.2.2.2.2.2.2.1.1 hH.1.1 (a - 1) 0 he rfl (zi_in (zhd h2) i0 i1) d ?_
  simp only [zi_nat (show zII i from zhd h2)]
  exact k p e s m args below meth c H locs lr hX hH hl hn h1 (zcons (hH.1.2.2.2 a i.toNat).1 (ztl (ztl h2)))
theorem wq_lald {a len : Nat} {i : Int} (ht : zT n a = (1, len)) (i0 : 0 ≤ i) (i1 : i < len) (d : decode M.2.1 pc = .ok (.laload, 1)) (k : wq G R Z X M n0 n (pc + 1) ls (vL (gL h a i.toNat) :: st) h) : wq G R Z X M n0 n pc ls (vI i :: vR a :: st) h := by
  intro p e s m args below meth c H locs lr hX hH hl hn h1 h2
  obtain ⟨q1, q2, q3⟩ := zT_at ht (by simp)
  have he := zl_get (G := G) (h := h) q1 q2
  rw [q3, zent_1] at he
  refine va_lald hX.1 hX.2.1 hX.2.2.2.2.2.2.2.2.1.1 hH.1.1 (a - 1) 1 he rfl (zi_in (zhd h2) i0 i1) d ?_
  simp only [zi_nat (show zII i from zhd h2)]
  exact k p e s m args below meth c H locs lr hX hH hl hn h1 (zcons (hH.1.2.2.2 a i.toNat).2 (ztl (ztl h2)))
theorem wq_aald {a t len r : Nat} {C : String} {i : Int} (ht : zT n a = (t, len)) (t1 : 2 ≤ t) (t2 : t < 99) (hC : (ztys G)[t]? = some (G.2.2.2 t, .object C)) (i0 : 0 ≤ i) (i1 : i < len) (hr : gR h a i.toNat = r) (r0 : r ≠ 0) (d : decode M.2.1 pc = .ok (.aaload, 1)) (k : wq G R Z X M n0 n (pc + 1) ls (vR r :: st) h) : wq G R Z X M n0 n pc ls (vI i :: vR a :: st) h := by
  intro p e s m args below meth c H locs lr hX hH hl hn h1 h2
  obtain ⟨q1, q2, q3⟩ := zT_at ht (by simp only; omega)
  have he := zl_get (G := G) (h := h) q1 q2
  rw [q3, zent_a t1 (by omega)] at he
  refine va_aldq hX.1 hX.2.1 hX.2.2.2.2.2.2.2.2.1.1 hH.1.1 (a - 1) t he hC (zi_in (zhd h2) i0 i1) d ?_
  simp only [zi_nat (show zII i from zhd h2)]
  rw [show h.2.2 a i.toNat = r from hr, zrO, if_neg r0]
  exact k p e s m args below meth c H locs lr hX hH hl hn h1 (zcons trivial (ztl (ztl h2)))
theorem wq_alen {a t len : Nat} (ht : zT n a = (t, len)) (ht9 : t ≤ 5) (hl9 : len ≤ 2147483647) (d : decode M.2.1 pc = .ok (.arraylength, 1)) (k : wq G R Z X M n0 n (pc + 1) ls (vI (len : Int) :: st) h) : wq G R Z X M n0 n pc ls (vR a :: st) h := by
  intro p e s m args below meth c H locs lr hX hH hl hn h1 h2
  obtain ⟨q1, q2, q3⟩ := zT_at ht (by simp only; omega)
  have he := zl_get (G := G) (h := h) q1 q2
  rw [q3] at he
  have kk := k p e s m args below meth c H locs lr hX hH hl hn h1 (zcons ⟨by omega, by omega⟩ (ztl h2))
  have hv : ∀ {x : vp_A}, x.1 = len → Int32.ofNat x.1 = Int32.ofInt (len : Int) := fun e => by rw [e, zi_ofNat]
  rcases (show t = 0 ∨ t = 1 ∨ t = 2 ∨ t = 3 ∨ t = 4 ∨ t = 5 by omega) with rfl | rfl | rfl | rfl | rfl | rfl
  · rw [zent_0] at he
    exact va_alen hX.1 hX.2.1 hX.2.2.2.2.2.2.2.2.1.1 hH.1.1 (a - 1) 0 he rfl (hv rfl) d kk
  · rw [zent_1] at he
    exact va_alen hX.1 hX.2.1 hX.2.2.2.2.2.2.2.2.1.1 hH.1.1 (a - 1) 1 he rfl (hv rfl) d kk
  · rw [zent_a (by omega) (by omega)] at he
    exact va_alen hX.1 hX.2.1 hX.2.2.2.2.2.2.2.2.1.1 hH.1.1 (a - 1) 2 he rfl (hv rfl) d kk
  · rw [zent_a (by omega) (by omega)] at he
    exact va_alen hX.1 hX.2.1 hX.2.2.2.2.2.2.2.2.1.1 hH.1.1 (a - 1) 3 he rfl (hv rfl) d kk
  · rw [zent_a (by omega) (by omega)] at he
    exact va_alen hX.1 hX.2.1 hX.2.2.2.2.2.2.2.2.1.1 hH.1.1 (a - 1) 4 he rfl (hv rfl) d kk
  · rw [zent_a (by omega) (by omega)] at he
    exact va_alen hX.1 hX.2.1 hX.2.2.2.2.2.2.2.2.1.1 hH.1.1 (a - 1) 5 he rfl (hv rfl) d kk
theorem wq_iast {a len : Nat} {i z : Int} (ht : zT n a = (0, len)) (i0 : 0 ≤ i) (i1 : i < len) (d : decode M.2.1 pc = .ok (.iastore, 1)) (k : wq G R Z X M n0 n (pc + 1) ls st (sI h a i.toNat z)) : wq G R Z X M n0 n pc ls (vI z :: vI i :: vR a :: st) h := by
  intro p e s m args below meth c H locs lr hX hH hl hn h1 h2
  obtain ⟨q1, q2, q3⟩ := zT_at ht (by simp)
  have he := zl_get (G := G) (h := h) q1 q2
  rw [q3, zent_0] at he
  have hi : zII i := zhd (ztl h2)
  refine W.iast hX.1 hX.2.1 (hH.1.1 (a - 1) _ he) ((hX.2.2.2.2.2.2.2.2.1.1.2 0 _ rfl).1 len (fun j => .int (Int32.ofInt (h.1 a j)))) (fun q => by cases q) (by show ¬ (_ < 0 ∨ (arrV _ _ _).slots.size ≤ _); rw [arrV_size]; exact zi_in hi i0 i1) rfl rfl d fun H1 e1 e2 e3 => ?_
  refine k p e s m args below meth c H1 _ lr hX (zH_put hH q1 q2 ?_ e2 e3 (fun b hb => sI_row hb) (zRg_sI hH.1.2.2.2 (zhd h2))) hl hn h1 (ztl (ztl (ztl h2)))
  rw [q3, zent_0]
  show H1[_]? = some (vp_cell _ _)
  rw [e1]
  show some ((vp_cell _ _).setSlot _ _) = _
  rw [vp_cell_i, vp_cell_i, arrV_store, zi_nat hi]
  congr 2
  funext q
  show _ = Value.int (Int32.ofInt (if a = a ∧ q = i.toNat then z else h.1 a q))
  by_cases hq : q = i.toNat
  · rw [if_pos ⟨rfl, hq⟩]
    simp [updV, hq]
  · rw [if_neg (fun x => hq x.2)]
    simp [updV, hq]
theorem wq_last {a len : Nat} {i z : Int} (ht : zT n a = (1, len)) (i0 : 0 ≤ i) (i1 : i < len) (d : decode M.2.1 pc = .ok (.lastore, 1)) (k : wq G R Z X M n0 n (pc + 1) ls st (sL h a i.toNat z)) : wq G R Z X M n0 n pc ls (vL z :: vI i :: vR a :: st) h := by
  intro p e s m args below meth c H locs lr hX hH hl hn h1 h2
  obtain ⟨q1, q2, q3⟩ := zT_at ht (by simp)
  have he := zl_get (G := G) (h := h) q1 q2
  rw [q3, zent_1] at he
  have hi : zII i := zhd (ztl h2)
  refine W.last hX.1 hX.2.1 (hH.1.1 (a - 1) _ he) ((hX.2.2.2.2.2.2.2.2.1.1.2 1 _ rfl).1 len (fun j => .long (Int64.ofInt (h.2.1 a j)))) (fun q => by cases q) (by show ¬ (_ < 0 ∨ (arrV _ _ _).slots.size ≤ _); rw [arrV_size]; exact zi_in hi i0 i1) rfl rfl d fun H1 e1 e2 e3 => ?_
  refine k p e s m args below meth c H1 _ lr hX (zH_put hH q1 q2 ?_ e2 e3 (fun b hb => sL_row hb) (zRg_sL hH.1.2.2.2 (zhd h2))) hl hn h1 (ztl (ztl (ztl h2)))
  rw [q3, zent_1]
  show H1[_]? = some (vp_cell _ _)
  rw [e1]
  show some ((vp_cell _ _).setSlot _ _) = _
  rw [vp_cell_l, vp_cell_l, arrV_store, zi_nat hi]
  congr 2
  funext q
  show _ = Value.long (Int64.ofInt (if a = a ∧ q = i.toNat then z else h.2.1 a q))
  by_cases hq : q = i.toNat
  · rw [if_pos ⟨rfl, hq⟩]
    simp [updV, hq]
  · rw [if_neg (fun x => hq x.2)]
    simp [updV, hq]
theorem wq_aast {a t len r cc : Nat} {C : String} {T : u_T} {i : Int} (ht : zT n a = (t, len)) (t1 : 2 ≤ t) (t2 : t < 99) (hC : (ztys G)[t]? = some (G.2.2.2 t, .object C)) (hr : zT n r = (100 + cc, zN cc)) (r0 : r ≠ 0) (hcl : zcl[cc]? = some (C, T, zN cc)) (i0 : 0 ≤ i) (i1 : i < len) (d : decode M.2.1 pc = .ok (.aastore, 1)) (k : wq G R Z X M n0 n (pc + 1) ls st (sR h a i.toNat r)) : wq G R Z X M n0 n pc ls (vR r :: vI i :: vR a :: st) h := by
  intro p e s m args below meth c H locs lr hX hH hl hn h1 h2
  obtain ⟨q1, q2, q3⟩ := zT_at ht (by simp only; omega)
  have he := zl_get (G := G) (h := h) q1 q2
  rw [q3, zent_a t1 (by omega)] at he
  obtain ⟨w1, w2, w3⟩ := zT_at hr (by simp only; omega)
  have hv := zl_get (G := G) (h := h) w1 w2
  rw [w3, zent_o] at hv
  have hi : zII i := zhd (ztl h2)
  have hK := hX.2.2.2.2.2.2.2.2.1.1
  have hlt : (Int32.ofInt i).toNatClampNeg < len := by rw [zi_nat hi]; omega
  obtain ⟨r', hr', cellV, g1, g2, g3, -⟩ := hH.1.1 (r - 1) _ hv
  have hcls := (hK.1 cc _ hcl).2
  obtain ⟨kA, comp, k1, k2, k3, -⟩ := (hK.2 t _ hC).2
  have hcomp : comp = G.2.2.1.1 cc := Option.some.inj (k3.symm.trans hcls.1)
  subst hcomp
  obtain ⟨kC, hkC, -⟩ := hcls.2
  refine W.aast hX.1 hX.2.1 (hH.1.1 (a - 1) _ he) (fun q h => by cases h) (fun h => by cases h) k1 k2 rfl hkC ⟨fun q => by have := (zi_lt0 hi).mp q; omega, by show _ < (arrV _ _ _).slots.size; rw [arrV_size]; exact hlt⟩ g1 (fun q h => by rw [g3] at h; cases h) (by rw [g2]; exact hkC) (by rw [g2]; exact va_assign hcls) rfl rfl d fun H1 e1 e2 e3 => ?_
  refine k p e s m args below meth c H1 _ lr hX (zH_put hH q1 q2 ?_ e2 e3 (fun b hb => sR_row hb) (zRg_sR hH.1.2.2.2)) hl hn h1 (ztl (ztl (ztl h2)))
  rw [q3, zent_a t1 (by omega)]
  show H1[_]? = some (vp_cell _ _)
  rw [e1]
  show some ((vp_cell _ _).setSlot _ _) = _
  rw [vp_cell_q, vp_cell_q, arrV_store, zi_nat hi]
  congr 2
  funext q
  show _ = va_rf (zrO _ (if a = a ∧ q = i.toNat then r else h.2.2 a q))
  by_cases hq : q = i.toNat
  · rw [if_pos ⟨rfl, hq⟩, zrO, if_neg r0]
    simp [updV, hq, va_rf]
  · rw [if_neg (fun x => hq x.2)]
    simp [updV, hq]
end ARR
end
section
theorem zKx.moved {G : zG} {u U : State} (hW : u.WarmedH U.vm) (h : zKx G u) : zKx G U :=
  ⟨va_K.moved hW.alike h.1, ⟨h.2.1.1.moved hW.alike, h.2.1.2.1.moved hW.alike, h.2.1.2.2.1.moved hW.alike, h.2.1.2.2.2.moved hW.alike⟩, va_Nw.warmM hW h.2.2⟩
theorem zKx.calling {G : zG} {U : State} {g : JFrame} {mk : MethodId} {a : Array Value} (h : zKx G U) : zKx G (U.calling g mk a) :=
  ⟨va_K.moved (u := U) (U := U.calling g mk a) (Vm.Alike.refl U.vm) h.1, ⟨h.2.1.1.moved (u := U) (U := U.calling g mk a) (Vm.Alike.refl U.vm), h.2.1.2.1.moved (u := U) (U := U.calling g mk a) (Vm.Alike.refl U.vm), h.2.1.2.2.1.moved (u := U) (U := U.calling g mk a) (Vm.Alike.refl U.vm), h.2.1.2.2.2.moved (u := U) (U := U.calling g mk a) (Vm.Alike.refl U.vm)⟩, va_Nw.same rfl (u := U) (U := U.calling g mk a) rfl h.2.2⟩
def zar : Nat → List zV → zLs
  | _, [] => []
  | k, v :: vs => (k, v) :: zar (k + zcat v) vs
def zsz (As : List zV) : Nat := (As.map zcat).sum
theorem zar_ok {As : List zV} (h : ∀ v ∈ As, zok v) : ∀ (k : Nat), ∀ q ∈ zar k As, zok q.2 := by
  induction As with
  | nil => intro k q hq; cases hq
  | cons v vs ih =>
    intro k q hq
    rcases List.mem_cons.mp hq with rfl | hq
    · exact zhd h
    · exact ih (ztl h) _ q hq
theorem zar_args {B : Nat} : ∀ (As : List zV) (k : Nat), lv_args k (As.map (zv B)) = zlm B (zar k As)
  | [], _ => rfl
  | v :: vs, k => by
    have ih := zar_args (B := B) vs
    rcases v with z | z | a <;> simp [lv_args, zar, zlm, zcat, zv, Value.category, ih]
theorem zsz_len {B : Nat} : ∀ (As : List zV), (lg_sl (As.map (zv B))).length = zsz As
  | [] => rfl
  | v :: vs => by
    have ih := zsz_len (B := B) vs
    rcases v with z | z | a <;> simp_all [lg_sl, zsz, zcat, zv, Value.category] <;> omega
def zPc (G : zG) (n : Nat) (h : zHp) (As : List zV) : Array Value → State → Prop := fun a U => a = (As.map (zv G.2.1)).toArray ∧ zHe G n h U.heap ∧ zKx G U
theorem zPc_blind {G : zG} {n : Nat} {h : zHp} {As : List zV} : FrameBlind (zPc G n h As) := fun _ _ _ _ q => ⟨q.1, q.2.1, q.2.2.calling⟩
theorem zofW {l : Launch} {y : MethodName} {ws ws' : List Cond} {rm : Room} {Pc : Array Value → State → Prop} {Qc : Array Value → State → Outcome → State → Prop} {mc ms : Nat} {free : Addr → Prop} {cc : ByteArray} {maxL : Nat} {ret : Option FieldType}
    (hy : plainFor y = true) (hw : ws = Cond.code y cc maxL ret :: ws')
    (body : ∀ p e s m args below meth c s₁, BodyLoose p l y (headSpec ws rm) cc maxL ret e s m args below meth c s₁ → c.maxLocals = maxL → Pc args s →
      W p l e (headSpec ws rm).room s m args below meth c s.heap [] 0 0 (MQ below Qc args s mc ms free) (entryFrame m args maxL)) : Met l y ws rm Pc Qc mc ms free := by
  refine MetFree.of_bodySF (code := cc) (maxLocals := maxL) (ret := ret) hy ?_ ?_
  · intro args s m h hn
    obtain ⟨meth, c, h1, h2, h3, h4, h5, h6, -, -⟩ := Cond.code_spec hn (atoms_spec (ws := ws) h _ (by rw [hw]; exact List.mem_cons_self))
    exact ⟨meth, c, h1, h2, h3, h4, h5, h6⟩
  · intro p e s m args below meth c s₁ B hml hP _
    have hh0 : s₁.heap = s.heap := by rw [B.state]; rfl
    obtain ⟨t, a1, o, b1, b2, b3⟩ := body p e s m args below meth c s₁ B hml hP s₁ hh0 (Stand.of_body B)
    exact ⟨t, o, a1, b1, b2, ⟨b3.1, b3.2⟩⟩
theorem zMet {G : zG} {d nE n : Nat} {M' : zM} {As : List zV} {h : zHp} {Q : Option zV → zHp → Prop} (hw : wp G d n nE M' n 0 (zar 0 As) [] h Q) (hok : ∀ v ∈ As, zok v) (hy : plainFor M'.1 = true) (hsz : zsz As ≤ M'.2.2.1) :
    Met G.1 M'.1 (Cond.code M'.1 M'.2.1 M'.2.2.1 M'.2.2.2 :: zgw) (zRm d n nE) (zPc G n h As) (zQc G nE Q) (nE - n) (zSL nE - zSL n) (zA G) := by
  refine zofW (cc := M'.2.1) (maxL := M'.2.2.1) (ret := M'.2.2.2) hy rfl ?_
  intro p e s m args below meth c s₁ B hml hP
  obtain ⟨rfl, hHe, hK⟩ := hP
  have hts := atoms_spec (ws := Cond.code M'.1 M'.2.1 M'.2.2.1 M'.2.2.2 :: zgw) B.pre
  have hown : s.vm.findClass M'.1.cls = some m.cls := findClass_of_methodNamed B.named
  have hin : meth.name = M'.1.name := (name_of_methodNamed B.named B.method).1
  rw [lg_entry_eq]
  have hl := lv_entry (As.map (zv G.2.1)) (n := M'.2.2.1) (by rw [zsz_len]; exact hsz)
  rw [zar_args] at hl
  have k := hw p e s m ((As.map (zv G.2.1)).toArray) below meth c s.heap [] _ ⟨B.exec, B.bytes, B.returns, B.notSynchronized, hml, hown, fun w hw => hts w (List.mem_cons_of_mem _ hw), hin, hK, trivial⟩ ⟨hHe, va_S.rf, hHe.2.1⟩ hl (Nat.le_refl n) (zar_ok hok 0) (fun v hv => by cases hv)
  rw [Nat.sub_self, Nat.sub_self] at k
  exact k
def zFit (R : Room) (n0 nE d : Nat) : Prop := d + 1 ≤ R.frames ∧ 100 * d + 99 ≤ R.locals ∧ nE - n0 ≤ R.cells ∧ zSL nE - zSL n0 ≤ R.slots
theorem zFit_rm {d d' n0 n' nE : Nat} (h1 : d + 1 ≤ d') (h2 : n' ≤ nE) : zFit (zRm d' n0 nE) n0 n' d := by
  have := zSL_le h2
  refine ⟨h1, ?_, ?_, ?_⟩
  · show 100 * d + 99 ≤ 100 * d'
    omega
  · show n' - n0 ≤ nE - n0
    omega
  · show zSL n' - zSL n0 ≤ zSL nE - zSL n0
    omega
section CALLS
variable {G : zG} {R : Room} {Z : List Frame → Array Value → State → State → Prop} {X : Array Value → State → Prop} {M : zM} {n0 n pc : Nat} {ls : zLs} {st : List zV} {h : zHp}
theorem zcall_go {d' nE' : Nat} {Q' : Option zV → zHp → Prop} {p : Program} {e : Env} {s : State} {m : MethodId} {args : Array Value} {below : List Frame} {meth : Method} {c : Code} {H : Heap} {locs : List Loc} {lr : Array Slot} {stk : List Value} {a9 : Array Value}
    (hn' : n ≤ nE') (hX : zX G X M p s m args meth c) (hH : zH G n0 n h s H locs) (hl : lv_has lr M.2.2.1 (zlm G.2.1 ls)) (hn : n0 ≤ n) (h1 : ∀ q ∈ ls, zok q.2) (h2 : ∀ v ∈ st, zok v)
    (run : va_Run p G.1 e R s m args below meth c H locs (n - n0) (zSL n - zSL n0) (nE' - n) (zSL nE' - zSL n) (F0 m pc lr stk) (st.map (zv G.2.1)) (zQc G nE' Q' a9) (zA G))
    (k : ∀ (v : Option zV) (h' : zHp), Q' v h' → (∀ x ∈ v.toList, zok x) → wq G R Z X M n0 nE' (pc + 3) ls (v.toList ++ st) h') :
    W p G.1 e R s m args below meth c H locs (n - n0) (zSL n - zSL n0) (Z below args s) (F0 m pc lr stk) := by
  intro T hT X'
  obtain ⟨v, st₀, t, T', L, g0, X'', hL, e1, e2, ⟨v', h', hv, hq, hok, hHe, hF⟩, st'⟩ := run T hT X'
  cases hv
  have z1 := zSL_le hn
  have z2 := zSL_le hn'
  rw [show n - n0 + (nE' - n) = nE' - n0 by omega, show zSL n - zSL n0 + (zSL nE' - zSL n) = zSL nE' - zSL n0 by omega] at X''
  have hS := hH.2.1
  have kk := k v' h' hq hok p e s m args below meth c T'.heap (locs ++ L) lr hX ⟨by rw [e1]; exact hHe, ⟨Nat.le_trans hS.1 (by rw [e1]; rw [← g0]; exact hF.1), fun q w1 w2 => by
      rw [e1, hF.2 q (by rw [g0]; exact Nat.lt_of_lt_of_le w1 hS.1) w2, g0]
      exact hS.2.1 q w1 w2, fun q hq => by
      rcases List.mem_append.mp hq with w | w
      · exact hS.2.2 q w
      · exact hL q w⟩, hH.2.2⟩ hl (by omega) h1 (fun x hx => by
      rcases List.mem_append.mp hx with w | w
      · exact hok x w
      · exact h2 x w) T' rfl X''
  obtain ⟨t2, a1, b1⟩ := kk
  refine ⟨t2, st' t2 ?_, b1⟩
  have ef : ({ F0 m pc lr stk with pc := (F0 m pc lr stk).pc + 3, stack := (v'.map (zv G.2.1)).toList ++ st.map (zv G.2.1) } : JFrame) = F0 m (pc + 3) lr ((v'.toList ++ st).map (zv G.2.1)) := by
    cases v' <;> rfl
  rw [ef]
  exact a1
theorem zcB {d' nE' idx k : Nat} {M' : zM} {s : State} {args : Array Value} (hts : ∀ w ∈ zgw, w.before args s = true) (hm : zMd M' k) (hlk : Cond.methodLink M.1.cls idx M'.1 ∈ zgw) (hR : zFit R n0 nE' d') :
    CallB R s args M.1.cls idx M'.1 M'.2.1 M'.2.2.1 M'.2.2.2 (Cond.code M'.1 M'.2.1 M'.2.2.1 M'.2.2.2 :: zgw) (zRm d' n nE') (nE' - n) (zSL nE' - zSL n) k := by
  obtain ⟨m1, m2, m3, m4, m5, m6⟩ := hm
  refine ⟨rfl, rfl, hR.1, ?_, ?_, List.mem_cons_self, hts _ m2, hts _ m3, m4, ?_, hts _ hlk⟩
  · show 8 + (M'.2.2.1 + 11) + 100 * d' ≤ R.locals
    have := hR.2.1
    omega
  · exact pay_in hts (fun w hw => by
      rcases List.mem_cons.mp hw with rfl | hw
      · exact zgw_good _ m2
      · exact zgw_good _ hw)
  · intro sig hs
    rw [hs] at m5
    exact (Option.some.inj m5).symm
theorem zfit_cells {n nE' d' : Nat} (hR : zFit R n0 nE' d') (hn : n0 ≤ n) (hn' : n ≤ nE') : n - n0 + (nE' - n) ≤ R.cells ∧ zSL n - zSL n0 + (zSL nE' - zSL n) ≤ R.slots := by
  have z1 := zSL_le hn
  have z2 := zSL_le hn'
  have := hR.2.2.1
  have := hR.2.2.2
  constructor <;> omega
theorem wq_callV {idx nE' d' a c : Nat} {M' : zM} {T9 : u_T} {As stk : List zV} {Q' : Option zV → zHp → Prop} (kP : Nat) (hm : zMd M' kP) (hi : Cond.instanceMethod M'.1 ∈ zgw) (hse : Cond.selects M'.1.cls M'.1 M'.1 ∈ zgw) (hlk : Cond.methodLink M.1.cls idx M'.1 ∈ zgw) (hc : zcl[c]? = some (M'.1.cls, T9, zN c)) (ht : zT n a = (100 + c, zN c)) (hst : stk = As.reverse ++ vR a :: st) (hk : As.length = kP) (hsz : zsz (vR a :: As) ≤ M'.2.2.1) (hcat : (st.map zcat).sum ≤ 8) (hn' : n ≤ nE') (hR : zFit R n0 nE' d') (d : decode M.2.1 pc = .ok (.invokevirtual idx, 3))
    (hw : wp G d' n nE' M' n 0 (zar 0 (vR a :: As)) [] h Q') (k : ∀ (v : Option zV) (h' : zHp), Q' v h' → (∀ x ∈ v.toList, zok x) → wq G R Z X M n0 nE' (pc + 3) ls (v.toList ++ st) h') : wq G R Z X M n0 n pc ls stk h := by
  intro p e s m args below meth c9 H locs lr hX hH hl hn h1 h2
  subst hst
  have hok : ∀ v ∈ vR a :: As, zok v := zcons trivial (fun w hw => h2 w (List.mem_append_left _ (List.mem_reverse.mpr hw)))
  have hst : ∀ v ∈ st, zok v := fun w hw => h2 w (List.mem_append_right _ (List.mem_cons_of_mem _ hw))
  have hM := zMet hw hok hm.1 hsz
  obtain ⟨q1, q2, q3⟩ := zT_at ht (by simp only; omega)
  have he := zl_get (G := G) (h := h) q1 q2
  rw [q3, zent_o] at he
  have hK := hX.2.2.2.2.2.2.2.2.1
  refine zcall_go (d' := d') (a9 := ((vR a :: As).map (zv G.2.1)).toArray) hn' hX hH hl hn h1 hst ?_ k
  exact va_runV (C := M'.1.cls) (b := G.2.1 + a) (As := As.map (zv G.2.1)) (rest := st.map (zv G.2.1)) (g := F0 m pc lr ((As.reverse ++ vR a :: st).map (zv G.2.1))) ⟨hX.1, hX.2.1, hX.2.2.2.2.1, hX.2.2.2.2.2.1, hX.2.2.2.2.2.2.1⟩ hM ⟨zcB hX.2.2.2.2.2.2.1 hm hlk hR, hX.2.2.2.2.2.2.1 _ hi, hX.2.2.2.2.2.2.1 _ hse⟩
    ⟨zPc_blind, va_recv hK.1 hH.1.1 hc he, fun U hU hW => ⟨rfl, by rw [hU]; exact hH.1, hK.moved hW⟩⟩ rfl (by rw [List.length_map]; exact hk) hl.1 (by simp [zv]) (lv_room (by
      have e : ((st.map (zv G.2.1)).map fun v => v.category) = st.map zcat := by rw [List.map_map]; exact List.map_congr_left (fun v _ => zcat_v _ v)
      rw [e]; exact hcat)) d (zfit_cells hR hn hn')
theorem wq_callS {idx nE' d' : Nat} {M' : zM} {As stk : List zV} {Q' : Option zV → zHp → Prop} (kP : Nat) (hm : zMd M' kP) (hs : Cond.static M'.1 ∈ zgw) (hlk : Cond.methodLink M.1.cls idx M'.1 ∈ zgw) (hst : stk = As.reverse ++ st) (hk : As.length = kP) (hsz : zsz As ≤ M'.2.2.1) (hcat : (st.map zcat).sum ≤ 8) (hn' : n ≤ nE') (hR : zFit R n0 nE' d') (d : decode M.2.1 pc = .ok (.invokestatic idx, 3))
    (hw : wp G d' n nE' M' n 0 (zar 0 As) [] h Q') (k : ∀ (v : Option zV) (h' : zHp), Q' v h' → (∀ x ∈ v.toList, zok x) → wq G R Z X M n0 nE' (pc + 3) ls (v.toList ++ st) h') : wq G R Z X M n0 n pc ls stk h := by
  intro p e s m args below meth c9 H locs lr hX hH hl hn h1 h2
  subst hst
  have hok : ∀ v ∈ As, zok v := fun w hw => h2 w (List.mem_append_left _ (List.mem_reverse.mpr hw))
  have hst : ∀ v ∈ st, zok v := fun w hw => h2 w (List.mem_append_right _ hw)
  have hM := zMet hw hok hm.1 hsz
  have hK := hX.2.2.2.2.2.2.2.2.1
  refine zcall_go (d' := d') (a9 := (As.map (zv G.2.1)).toArray) hn' hX hH hl hn h1 hst ?_ k
  exact va_runS (As := As.map (zv G.2.1)) (rest := st.map (zv G.2.1)) (g := F0 m pc lr ((As.reverse ++ st).map (zv G.2.1))) ⟨hX.1, hX.2.1, hX.2.2.2.2.1, hX.2.2.2.2.2.1, hX.2.2.2.2.2.2.1⟩ hM ⟨zcB hX.2.2.2.2.2.2.1 hm hlk hR, hX.2.2.2.2.2.2.1 _ hs⟩
    ⟨zPc_blind, fun U hU hW => ⟨rfl, by rw [hU]; exact hH.1, hK.moved hW⟩⟩ rfl (by rw [List.length_map]; exact hk) hl.1 (by simp) (lv_room (by
      have e : ((st.map (zv G.2.1)).map fun v => v.category) = st.map zcat := by rw [List.map_map]; exact List.map_congr_left (fun v _ => zcat_v _ v)
      rw [e]; exact hcat)) d (zfit_cells hR hn hn')
theorem wq_callI {idx nE' d' a : Nat} {M' : zM} {As stk : List zV} {Q' : Option zV → zHp → Prop} (kP : Nat) (hm : zMd M' kP) (hret : M'.2.2.2 = none) (hnm : M'.1.name = "<init>") (hi : Cond.instanceMethod M'.1 ∈ zgw) (hlk : Cond.methodLink M.1.cls idx M'.1 ∈ zgw) (hst : stk = As.reverse ++ vR a :: st) (hk : As.length = kP) (hsz : zsz (vR a :: As) ≤ M'.2.2.1) (hcat : (st.map zcat).sum ≤ 8) (hn' : n ≤ nE') (hR : zFit R n0 nE' d') (d : decode M.2.1 pc = .ok (.invokespecial idx, 3))
    (hw : wp G d' n nE' M' n 0 (zar 0 (vR a :: As)) [] h Q') (k : ∀ (v : Option zV) (h' : zHp), Q' v h' → (∀ x ∈ v.toList, zok x) → wq G R Z X M n0 nE' (pc + 3) ls (v.toList ++ st) h') : wq G R Z X M n0 n pc ls stk h := by
  intro p e s m args below meth c9 H locs lr hX hH hl hn h1 h2
  subst hst
  have hok : ∀ v ∈ vR a :: As, zok v := zcons trivial (fun w hw => h2 w (List.mem_append_left _ (List.mem_reverse.mpr hw)))
  have hst : ∀ v ∈ st, zok v := fun w hw => h2 w (List.mem_append_right _ (List.mem_cons_of_mem _ hw))
  have hM := zMet hw hok hm.1 hsz
  have hK := hX.2.2.2.2.2.2.2.2.1
  have cb := zcB (R := R) (n := n) hX.2.2.2.2.2.2.1 hm hlk hR
  rw [hret] at hM cb
  refine zcall_go (d' := d') (a9 := ((vR a :: As).map (zv G.2.1)).toArray) hn' hX hH hl hn h1 hst ?_ k
  exact va_runI (b := G.2.1 + a) (As := As.map (zv G.2.1)) (rest := st.map (zv G.2.1)) (g := F0 m pc lr ((As.reverse ++ vR a :: st).map (zv G.2.1))) ⟨hX.1, hX.2.1, hX.2.2.2.2.1, hX.2.2.2.2.2.1, hX.2.2.2.2.2.2.1⟩ hM ⟨cb, hnm, hX.2.2.2.2.2.2.1 _ hi⟩
    ⟨zPc_blind, fun U hU hW => ⟨rfl, by rw [hU]; exact hH.1, hK.moved hW⟩⟩ rfl (by rw [List.length_map]; exact hk) hl.1 (by simp [zv]) (lv_room (by
      have e : ((st.map (zv G.2.1)).map fun v => v.category) = st.map zcat := by rw [List.map_map]; exact List.map_congr_left (fun v _ => zcat_v _ v)
      rw [e]; exact hcat)) d (zfit_cells hR hn hn')
theorem wq_objInit {idx a : Nat} (hlk : Cond.methodLink M.1.cls idx Lib.objectInit ∈ zgw) (hi : Cond.instanceMethod Lib.objectInit ∈ zgw) (hcd : Cond.code Lib.objectInit ⟨#[0xb1]⟩ 1 none ∈ zgw) (hcat : (st.map zcat).sum ≤ 8) (hf : 1 ≤ R.frames) (hlo : 20 ≤ R.locals) (d : decode M.2.1 pc = .ok (.invokespecial idx, 3)) (k : wq G R Z X M n0 n (pc + 3) ls st h) : wq G R Z X M n0 n pc ls (vR a :: st) h := by
  intro p e s m args below meth c9 H locs lr hX hH hl hn h1 h2
  have hts := hX.2.2.2.2.2.2.1
  refine W.objInit hX.1 hX.2.1 hX.2.2.2.2.2.1 (hts _ hlk) (hts _ hi) (hts _ hcd) rfl (by rw [hX.2.2.2.2.1]; exact hl.1) rfl d hf ?_ (k p e s m args below meth c9 H locs lr hX hH hl hn h1 (ztl h2))
  have e : ((st.map (zv G.2.1)).map fun v => v.category) = st.map zcat := by rw [List.map_map]; exact List.map_congr_left (fun v _ => zcat_v _ v)
  show 2 * 0 + ((st.map (zv G.2.1)).map fun v => v.category).sum + 12 ≤ R.locals
  rw [e]
  omega
end CALLS
section RETS
variable {G : zG} {d n0 nE : Nat} {M : zM} {pc : Nat} {ls : zLs} {h : zHp} {Q : Option zV → zHp → Prop}
theorem zret_q {v : Option zV} {p : Program} {s : State} {m : MethodId} {args : Array Value} {meth : Method} {c : Code} {H : Heap} {locs : List Loc} (hH : zH G n0 nE h s H locs) (hv : ∀ x ∈ v.toList, zok x) (hq : Q v h) : ∀ t : State, t.heap = H → s.WarmedH t.vm → zQc G nE Q args s (.returned (v.map (zv G.2.1))) t :=
  fun t ht hW => ⟨v, h, rfl, hq, hv, by rw [ht]; exact hH.1, hH.2.1.F ht⟩
theorem wp_iret {z : Int} (hr : M.2.2.2 = some .int) (dd : decode M.2.1 pc = .ok (.ireturn, 1)) (k : Q (some (vI z)) h) : wp G d n0 nE M nE pc ls [vI z] h Q := by
  intro p e s m args below meth c H locs lr hX hH hl hn h1 h2
  have hlocks : meth.locks = false := hX.2.2.2.1
  exact W.iret (v := Int32.ofInt z) hX.1 hX.2.1 (hX.2.2.1.trans hr) (zret_q (v := some (vI z)) (p := p) (m := m) (meth := meth) (c := c) hH (fun x hx => h2 x hx) k) hH.2.1.2.2 dd
theorem wp_zret {z : Int} (hz : z = 0 ∨ z = 1) (hr : M.2.2.2 = some .boolean) (dd : decode M.2.1 pc = .ok (.ireturn, 1)) (k : Q (some (vI z)) h) : wp G d n0 nE M nE pc ls [vI z] h Q := by
  intro p e s m args below meth c H locs lr hX hH hl hn h1 h2
  have hlocks : meth.locks = false := hX.2.2.2.1
  exact W.zret (v := Int32.ofInt z) hX.1 hX.2.1 (hX.2.2.1.trans hr) (by rcases hz with rfl | rfl <;> rfl) (zret_q (v := some (vI z)) (p := p) (m := m) (meth := meth) (c := c) hH (fun x hx => h2 x hx) k) hH.2.1.2.2 dd
theorem wp_lret {z : Int} (hr : M.2.2.2 = some .long) (dd : decode M.2.1 pc = .ok (.lreturn, 1)) (k : Q (some (vL z)) h) : wp G d n0 nE M nE pc ls [vL z] h Q := by
  intro p e s m args below meth c H locs lr hX hH hl hn h1 h2
  have hlocks : meth.locks = false := hX.2.2.2.1
  exact W.lret (v := Int64.ofInt z) hX.1 hX.2.1 (hX.2.2.1.trans hr) (zret_q (v := some (vL z)) (p := p) (m := m) (meth := meth) (c := c) hH (fun x hx => h2 x hx) k) hH.2.1.2.2 dd
theorem wp_vret (hr : M.2.2.2 = none) (dd : decode M.2.1 pc = .ok (.return_, 1)) (k : Q none h) : wp G d n0 nE M nE pc ls [] h Q := by
  intro p e s m args below meth c H locs lr hX hH hl hn h1 h2
  have hlocks : meth.locks = false := hX.2.2.2.1
  exact W.vret hX.1 hX.2.1 (hX.2.2.1.trans hr) (zret_q (v := none) (p := p) (m := m) (meth := meth) (c := c) hH (fun x hx => by cases hx) k) hH.2.1.2.2 dd
end RETS
end
section
theorem zd_zero {B : Nat} {h : zHp} {n a : Nat} (hz : zZ n h) (ha : n < a) {t : FieldType} (j : Nat) (ht : t = .int ∨ t = .boolean ∨ t = .long ∨ (∃ c, t = .object c) ∨ ∃ c, t = .array c) : defaultValue t = zfv B h a t j := by
  obtain ⟨q1, q2, q3⟩ := hz a ha j
  rcases ht with rfl | rfl | rfl | ⟨c, rfl⟩ | ⟨c, rfl⟩
  · simp only [zfv, q1]; rfl
  · simp only [zfv, q1]; rfl
  · simp only [zfv, q2]; rfl
  · simp only [zfv, q3]; rfl
  · simp only [zfv, q3]; rfl
theorem zTyb_of {t : FieldType} (h : zTyb t = true) : t = .int ∨ t = .boolean ∨ t = .long ∨ (∃ c, t = .object c) ∨ ∃ c, t = .array c := by
  cases t <;> first | exact Or.inl rfl | exact Or.inr (Or.inl rfl) | exact Or.inr (Or.inr (Or.inl rfl)) | exact Or.inr (Or.inr (Or.inr (Or.inl ⟨_, rfl⟩))) | exact Or.inr (Or.inr (Or.inr (Or.inr ⟨_, rfl⟩))) | exact absurd h (by decide)
section ALLOC
variable {G : zG} {R : Room} {Z : List Frame → Array Value → State → State → Prop} {X : Array Value → State → Prop} {M : zM} {n0 n pc : Nat} {ls : zLs} {st : List zV} {h : zHp}
theorem zH_push {s : State} {H H1 : Heap} {locs : List Loc} (hH : zH G n0 n h s H locs) (hn : n0 ≤ n) (e1 : va_at G.2.2.1 zcl (G.2.1 + (n + 1), zent G h (n + 1) (zTAU (n + 1))) H1) (z1 : H1.size = H.size + 1) (o1 : ∀ q : Nat, q < H.size → H1[q]? = H[q]?) : zH G n0 (n + 1) h s H1 locs := by
  obtain ⟨⟨hP, hz, hZ, hr⟩, hS, hB⟩ := hH
  refine ⟨⟨?_, by omega, zZ_up hZ, hr⟩, ⟨by have := hS.1; omega, fun q g1 g2 => ?_, hS.2.2⟩, hB⟩
  · rw [zl_push]
    refine (hP.kept (fun k x hx => o1 x.1 ((hP k x hx).lt))).app (fun k x hx => ?_)
    have hz' : k < 1 := (List.getElem?_eq_some_iff.mp hx).1
    rw [show k = 0 by omega] at hx
    cases hx
    exact e1
  · rw [o1 q (Nat.lt_of_lt_of_le g1 hS.1)]
    exact hS.2.1 q g1 g2
theorem wq_new {c idx : Nat} {C : String} {T : u_T} (hcl : zCl c C T) (hty : ∀ j, j < zN c → zTyb (zty c j) = true) (hlk : Cond.classLink M.1.cls idx C ∈ zgw) (hins : Cond.instantiable C (zN c) ∈ zgw) (hini : Cond.initialized C ∈ zgw) (ht : zTAU (n + 1) = (100 + c, zN c)) (hR1 : n + 1 - n0 ≤ R.cells) (hR2 : zSL (n + 1) - zSL n0 ≤ R.slots) (d : decode M.2.1 pc = .ok (.new idx, 3)) (k : wq G R Z X M n0 (n + 1) (pc + 3) ls (vR (n + 1) :: st) h) : wq G R Z X M n0 n pc ls st h := by
  intro p e s m args below meth c9 H locs lr hX hH hl hn h1 h2
  have hts := hX.2.2.2.2.2.2.1
  have hK := hX.2.2.2.2.2.2.2.2.1.1
  have hKn := hK.1 c _ hcl.1
  have z0 := zSL_le hn
  have z1 : zSL (n + 1) = zSL n + zN c := by show zSL n + (zTAU (n + 1)).2 = _; rw [ht]
  refine W.newcK hX.1 hX.2.1 hX.2.2.2.2.2.1 (hts _ hlk) (hts _ hins) (hts _ hini) rfl d (by omega) (by omega) hKn.2.1 rfl fun H1 kC hkC e1 z2 o1 => ?_
  rw [show n - n0 + 1 = n + 1 - n0 by omega, show zSL n - zSL n0 + zN c = zSL (n + 1) - zSL n0 by omega]
  have hz : H.size = G.2.1 + (n + 1) := by have := hH.1.2.1; omega
  have kk := k p e s m args below meth c9 H1 locs lr hX (zH_push hH hn (by
      rw [ht, zent_o]
      rw [hz] at e1
      refine ⟨_, hcl.1, (u_born (zty c) hts hcl.2.1 hKn hkC e1 hcl.2.2.1).to (fun j hj => ?_)⟩
      rw [zd_zero (B := G.2.1) (a := n + 1) hH.1.2.2.1 (by omega) j (zTyb_of (hty j hj))]
      simp [vp_V, List.getD_eq_getElem?_getD, zfl_get hj]) z2 o1) hl (by omega) h1 (zcons trivial h2)
  rw [hz]
  exact kk
theorem wq_newI {z : Int} {len : Nat} (hz9 : z = len) (hb : len * 4 ≤ 536870912) (hac : Cond.arrayClass .int ∈ zgw) (ht : zTAU (n + 1) = (0, len)) (hR1 : n + 1 - n0 ≤ R.cells) (hR2 : zSL (n + 1) - zSL n0 ≤ R.slots) (d : decode M.2.1 pc = .ok (.newarray .int, 2)) (k : wq G R Z X M n0 (n + 1) (pc + 2) ls (vR (n + 1) :: st) h) : wq G R Z X M n0 n pc ls (vI z :: st) h := by
  intro p e s m args below meth c9 H locs lr hX hH hl hn h1 h2
  have hts := hX.2.2.2.2.2.2.1
  have hK := hX.2.2.2.2.2.2.2.2.1.1
  have z0 := zSL_le hn
  have z1 : zSL (n + 1) = zSL n + len := by show zSL n + (zTAU (n + 1)).2 = _; rw [ht]
  have hzi : zII z := zhd h2
  refine va_newaK (atype := .int) (N := len) hX.1 hX.2.1 (hts _ hac) rfl d rfl (fun q => by have := (zi_lt0 hzi).mp q; omega) (by rw [zi_nat hzi]; omega) hb (by omega) (by omega) rfl fun H1 cA e1 z2 o1 hAr hNm => ?_
  rw [show n - n0 + 1 = n + 1 - n0 by omega, show zSL n - zSL n0 + len = zSL (n + 1) - zSL n0 by omega]
  have hz : H.size = G.2.1 + (n + 1) := by have := hH.1.2.1; omega
  have hcA : cA = G.2.2.2 0 := Option.some.inj (hNm.symm.trans (hK.2 0 _ rfl).2)
  have kk := k p e s m args below meth c9 H1 locs lr hX (zH_push hH hn (by
      rw [ht, zent_0]
      rw [hz, hcA] at e1
      show H1[_]? = some (vp_cell _ _)
      rw [vp_cell_i, e1]
      congr 2
      funext j
      rw [(hH.1.2.2.1 (n + 1) (by omega) j).1]
      rfl) z2 o1) hl (by omega) h1 (zcons trivial (ztl h2))
  rw [hz]
  exact kk
theorem wq_newL {z : Int} {len : Nat} (hz9 : z = len) (hb : len * 8 ≤ 536870912) (hac : Cond.arrayClass .long ∈ zgw) (ht : zTAU (n + 1) = (1, len)) (hR1 : n + 1 - n0 ≤ R.cells) (hR2 : zSL (n + 1) - zSL n0 ≤ R.slots) (d : decode M.2.1 pc = .ok (.newarray .long, 2)) (k : wq G R Z X M n0 (n + 1) (pc + 2) ls (vR (n + 1) :: st) h) : wq G R Z X M n0 n pc ls (vI z :: st) h := by
  intro p e s m args below meth c9 H locs lr hX hH hl hn h1 h2
  have hts := hX.2.2.2.2.2.2.1
  have hK := hX.2.2.2.2.2.2.2.2.1.1
  have z0 := zSL_le hn
  have z1 : zSL (n + 1) = zSL n + len := by show zSL n + (zTAU (n + 1)).2 = _; rw [ht]
  have hzi : zII z := zhd h2
  refine va_newaK (atype := .long) (N := len) hX.1 hX.2.1 (hts _ hac) rfl d rfl (fun q => by have := (zi_lt0 hzi).mp q; omega) (by rw [zi_nat hzi]; omega) hb (by omega) (by omega) rfl fun H1 cA e1 z2 o1 hAr hNm => ?_
  rw [show n - n0 + 1 = n + 1 - n0 by omega, show zSL n - zSL n0 + len = zSL (n + 1) - zSL n0 by omega]
  have hz : H.size = G.2.1 + (n + 1) := by have := hH.1.2.1; omega
  have hcA : cA = G.2.2.2 1 := Option.some.inj (hNm.symm.trans (hK.2 1 _ rfl).2)
  have kk := k p e s m args below meth c9 H1 locs lr hX (zH_push hH hn (by
      rw [ht, zent_1]
      rw [hz, hcA] at e1
      show H1[_]? = some (vp_cell _ _)
      rw [vp_cell_l, e1]
      congr 2
      funext j
      rw [(hH.1.2.2.1 (n + 1) (by omega) j).2.1]
      rfl) z2 o1) hl (by omega) h1 (zcons trivial (ztl h2))
  rw [hz]
  exact kk
theorem wq_newA {z : Int} {len t idx : Nat} {C : String} (hz9 : z = len) (hb : len * 4 ≤ 536870912) (t1 : 2 ≤ t) (t2 : t < 99) (hC : (ztys G)[t]? = some (G.2.2.2 t, .object C)) (hao : ∀ s, zKx G s → va_AO C s) (hlk : Cond.classLink M.1.cls idx C ∈ zgw) (ht : zTAU (n + 1) = (t, len)) (hR1 : n + 1 - n0 ≤ R.cells) (hR2 : zSL (n + 1) - zSL n0 ≤ R.slots) (d : decode M.2.1 pc = .ok (.anewarray idx, 3)) (k : wq G R Z X M n0 (n + 1) (pc + 3) ls (vR (n + 1) :: st) h) : wq G R Z X M n0 n pc ls (vI z :: st) h := by
  intro p e s m args below meth c9 H locs lr hX hH hl hn h1 h2
  have hts := hX.2.2.2.2.2.2.1
  have hK := hX.2.2.2.2.2.2.2.2.1.1
  have z0 := zSL_le hn
  have z1 : zSL (n + 1) = zSL n + len := by show zSL n + (zTAU (n + 1)).2 = _; rw [ht]
  have hzi : zII z := zhd h2
  have hzn : (Int32.ofInt z).toNatClampNeg = len := by rw [zi_nat hzi]; omega
  refine W.anew hX.1 hX.2.1 hX.2.2.2.2.2.1 (hts _ hlk) ((hao s hX.2.2.2.2.2.2.2.2.1).use) rfl d rfl (fun q => by have := (zi_lt0 hzi).mp q; omega) (by rw [hzn]; exact hb) (by omega) (by rw [hzn]; omega) fun cA kA comp f1 f2 f3 f4 => ?_
  rw [hzn]
  rw [show n - n0 + 1 = n + 1 - n0 by omega, show zSL n - zSL n0 + len = zSL (n + 1) - zSL n0 by omega]
  have hz : H.size = G.2.1 + (n + 1) := by have := hH.1.2.1; omega
  obtain ⟨_, _, _, _, _, k4⟩ := (hK.2 t _ hC).2
  have hcA : cA = G.2.2.2 t := Option.some.inj (f1.symm.trans k4)
  generalize hH1 : H.push ({ cls := cA, slots := Array.replicate len .null, vm := .none } : Cell) = H1
  have z2 : H1.size = H.size + 1 := by rw [← hH1, Array.size_push]
  have e1 : H1[H.size]? = some (arrV cA len (fun _ => .null)) := by rw [← hH1, Array.getElem?_push_size, ← arrV_new]
  have o1 : ∀ q : Nat, q < H.size → H1[q]? = H[q]? := fun q hq => by rw [← hH1, Array.getElem?_push, if_neg (Nat.ne_of_lt hq)]
  have kk := k p e s m args below meth c9 H1 locs lr hX (zH_push hH hn (by
      rw [ht, zent_a t1 (by omega)]
      rw [hz, hcA] at e1
      show H1[_]? = some (vp_cell _ _)
      rw [vp_cell_q, e1]
      congr 2
      funext j
      rw [(hH.1.2.2.1 (n + 1) (by omega) j).2.2]
      rfl) z2 o1) hl (by omega) h1 (zcons trivial (ztl h2))
  rw [hz]
  exact kk
theorem zW_size {p : Program} {e : Env} {s : State} {m : MethodId} {args : Array Value} {below : List Frame} {meth : Method} {c : Code} {H : Heap} {locs : List Loc} {Q : State → Prop} {g : JFrame} (hs : s.heap.size = G.2.1 + n0 + 1) (hn : n0 ≤ n) (hP : va_P G.2.2.1 zcl (zl G n h) H) (hS : va_S (zA G) s.heap H locs)
    (k : H.size = G.2.1 + n + 1 → W p G.1 e R s m args below meth c H locs (n - n0) (zSL n - zSL n0) Q g) : W p G.1 e R s m args below meth c H locs (n - n0) (zSL n - zSL n0) Q g := by
  intro T hT X'
  refine k ?_ T hT X'
  have g1 := X'.heapSize
  rw [hT, hs] at g1
  by_cases h0 : n = 0
  · have := hS.1
    omega
  · have g2 := (hP (n - 1) _ (zl_get (a := n) (by omega) (Nat.le_refl n))).lt
    simp only at g2
    omega
def cpI (h : zHp) (a0 sp a dp k : Nat) : zHp := (fun b j => if b = a ∧ dp ≤ j ∧ j < dp + k then h.1 a0 (sp + (j - dp)) else h.1 b j, h.2.1, h.2.2)
theorem wq_copyI {idx a0 a l0 l1 : Nat} {sp dp k9 : Int} (hlk : Cond.methodLink M.1.cls idx arraycopyName ∈ zgw) (hna : Cond.native arraycopyName ∈ zgw) (hst : Cond.static arraycopyName ∈ zgw) (hin : Cond.initialized "java/lang/System" ∈ zgw) (ht0 : zT n a0 = (0, l0)) (ht1 : zT n a = (0, l1)) (g1 : 0 ≤ sp) (g2 : 0 ≤ dp) (g3 : 0 ≤ k9) (g4 : sp + k9 ≤ l0) (g5 : dp + k9 ≤ l1) (hf : 1 ≤ R.frames) (hlo : 99 ≤ R.locals) (hcat : (st.map zcat).sum ≤ 8) (d : decode M.2.1 pc = .ok (.invokestatic idx, 3))
    (k : wq G R Z X M n0 n (pc + 3) ls st (cpI h a0 sp.toNat a dp.toNat k9.toNat)) : wq G R Z X M n0 n pc ls (vI k9 :: vI dp :: vR a :: vI sp :: vR a0 :: st) h := by
  intro p e s m args below meth c9 H locs lr hX hH hl hn h1 h2
  have hts := hX.2.2.2.2.2.2.1
  have hK := hX.2.2.2.2.2.2.2.2.1.1
  obtain ⟨q1, q2, q3⟩ := zT_at ht0 (by simp)
  have he0 := zl_get (G := G) (h := h) q1 q2
  rw [q3, zent_0] at he0
  obtain ⟨w1, w2, w3⟩ := zT_at ht1 (by simp)
  have he1 := zl_get (G := G) (h := h) w1 w2
  rw [w3, zent_0] at he1
  have i1 : zII k9 := zhd h2
  have i2 : zII dp := zhd (ztl h2)
  have i3 : zII sp := zhd (ztl (ztl (ztl h2)))
  refine va_copyi hX.1 hX.2.1 (by rw [hX.2.2.2.2.1]; exact hl.1.symm) hX.2.2.2.2.2.1 (hts _ hlk) (hts _ hna) (hts _ hst) (hts _ hin) hK hH.1.1 (zD G n h) hH.2.1 (a0 - 1) (a - 1) 0 0 he0 he1 rfl rfl rfl (fun q => by have := (zi_lt0 i3).mp q; omega) (fun q => by have := (zi_lt0 i2).mp q; omega) (fun q => by have := (zi_lt0 i1).mp q; omega) (by rw [zi_nat i3, zi_nat i1]; omega) (by rw [zi_nat i2, zi_nat i1]; omega) (fun i _ => rfl) hf ?_ d (fun H1 locs1 hP1 hD1 hS1 => ?_)
  · have e : ((st.map (zv G.2.1)).map fun v => v.category) = st.map zcat := by rw [List.map_map]; exact List.map_congr_left (fun v _ => zcat_v _ v)
    rw [e]
    have : nativeFrameWords "java/lang/System" "arraycopy" 5 ≤ 80 := by decide +kernel
    omega
  · have hrow : (cpI h a0 sp.toNat a dp.toNat k9.toNat).2 = h.2 := rfl
    have ho : ∀ b, b ≠ a → (cpI h a0 sp.toNat a dp.toNat k9.toNat).1 b = h.1 b ∧ (cpI h a0 sp.toNat a dp.toNat k9.toNat).2.1 b = h.2.1 b ∧ (cpI h a0 sp.toNat a dp.toNat k9.toNat).2.2 b = h.2.2 b := by
      intro b hb
      refine ⟨?_, rfl, rfl⟩
      funext j
      show (if b = a ∧ _ then _ else h.1 b j) = _
      rw [if_neg (fun q => hb q.1)]
    have ee : (G.2.1 + a, (.inl (G.2.2.2 0, l1, .inl (va_cpy (fun j => Int32.ofInt (h.1 a0 j)) (fun j => Int32.ofInt (h.1 a j)) (Int32.ofInt sp).toNatClampNeg (Int32.ofInt dp).toNatClampNeg (Int32.ofInt k9).toNatClampNeg)) : va_E)) = (G.2.1 + a, zent G (cpI h a0 sp.toNat a dp.toNat k9.toNat) a (zTAU a)) := by
      rw [w3, zent_0, zi_nat i1, zi_nat i2, zi_nat i3]
      congr 5
      funext j
      unfold va_cpy
      show _ = Int32.ofInt (if a = a ∧ dp.toNat ≤ j ∧ j < dp.toNat + k9.toNat then h.1 a0 (sp.toNat + (j - dp.toNat)) else h.1 a j)
      by_cases hj : dp.toNat ≤ j ∧ j < dp.toNat + k9.toNat
      · rw [if_pos hj, if_pos ⟨rfl, hj⟩]
      · rw [if_neg hj, if_neg (fun q => hj q.2)]
    rw [ee, zl_set w1 w2 (fun b hb => zent_row _ (ho b hb))] at hP1
    refine zW_size hH.2.2 hn hP1 hS1 (fun hz1 => ?_)
    refine k p e s m args below meth c9 H1 locs1 lr hX ⟨⟨hP1, hz1, fun b hb i => ?_, fun b i => ⟨?_, (hH.1.2.2.2 b i).2⟩⟩, hS1, hH.2.2⟩ hl hn h1 (ztl (ztl (ztl (ztl (ztl h2)))))
    · obtain ⟨o1, o2, o3⟩ := ho b (by omega)
      rw [o1, o2, o3]
      exact hH.1.2.2.1 b hb i
    · show zII (if b = a ∧ _ then _ else h.1 b i)
      split
      · exact (hH.1.2.2.2 _ _).1
      · exact (hH.1.2.2.2 b i).1
theorem wq_callIN {idx nE' d' a : Nat} {M' : zM} {host : String} {As stk : List zV} {Q' : Option zV → zHp → Prop} (kP : Nat) (hm : zMd M' kP) (hret : M'.2.2.2 = none) (hnm : M'.1.name = "<init>") (hi : Cond.instanceMethod M'.1 ∈ zgw) (hlk : ∀ s, zKx G s → va_Nw (.methodLinkNest M.1.cls idx M'.1 host) s) (hst : stk = As.reverse ++ vR a :: st) (hk : As.length = kP) (hsz : zsz (vR a :: As) ≤ M'.2.2.1) (hcat : (st.map zcat).sum ≤ 8) (hn' : n ≤ nE') (hR : zFit R n0 nE' d') (d : decode M.2.1 pc = .ok (.invokespecial idx, 3))
    (hw : wp G d' n nE' M' n 0 (zar 0 (vR a :: As)) [] h Q') (k : ∀ (v : Option zV) (h' : zHp), Q' v h' → (∀ x ∈ v.toList, zok x) → wq G R Z X M n0 nE' (pc + 3) ls (v.toList ++ st) h') : wq G R Z X M n0 n pc ls stk h := by
  intro p e s m args below meth c9 H locs lr hX hH hl hn h1 h2
  subst hst
  have hok : ∀ v ∈ vR a :: As, zok v := zcons trivial (fun w hw => h2 w (List.mem_append_left _ (List.mem_reverse.mpr hw)))
  have hst : ∀ v ∈ st, zok v := fun w hw => h2 w (List.mem_append_right _ (List.mem_cons_of_mem _ hw))
  have hM := zMet hw hok hm.1 hsz
  have hK := hX.2.2.2.2.2.2.2.2.1
  have hts := hX.2.2.2.2.2.2.1
  rw [hret] at hM
  refine zcall_go (d' := d') (a9 := ((vR a :: As).map (zv G.2.1)).toArray) hn' hX hH hl hn h1 hst ?_ k
  have hGo : GoodIn zgw (Cond.code M'.1 M'.2.1 M'.2.2.1 none :: zgw) := fun w hw => by
    rcases List.mem_cons.mp hw with rfl | hw
    · rw [← hret]; exact zgw_good _ hm.2.1
    · exact zgw_good _ hw
  exact va_runIN (b := G.2.1 + a) (As := As.map (zv G.2.1)) (rest := st.map (zv G.2.1)) (g := F0 m pc lr ((As.reverse ++ vR a :: st).map (zv G.2.1))) (host := host) ⟨hX.1, hX.2.1, hX.2.2.2.2.1, hX.2.2.2.2.2.1, hX.2.2.2.2.2.2.1⟩ hM
    ⟨va_cnB (Ts := zgw) kP hts hGo rfl rfl rfl (hlk s hK) (hts _ hm.2.2.1) ⟨hm.2.2.2.1.1, hm.2.2.2.1.2, hm.2.2.2.2.1⟩ ⟨hR.1, by have := hR.2.1; have := hm.2.2.2.2.2; show 8 + (M'.2.2.1 + 11) + 100 * d' ≤ R.locals; omega⟩, hnm, hts _ hi⟩
    ⟨zPc_blind, fun U hU hW => ⟨rfl, by rw [hU]; exact hH.1, hK.moved hW⟩⟩ rfl (by rw [List.length_map]; exact hk) hl.1 (by simp [zv]) (lv_room (by
      have e : ((st.map (zv G.2.1)).map fun v => v.category) = st.map zcat := by rw [List.map_map]; exact List.map_congr_left (fun v _ => zcat_v _ v)
      rw [e]; exact hcat)) d (zfit_cells hR hn hn')
end ALLOC
end
section
/-- where the references that never change lead -/
def zshp (a j : Nat) : Nat :=
  if (zTAU a).1 = 100 then (if j = 0 then a + 1 else 0)
  else if (zTAU a).1 = 102 then (match j with | 0 => a + 1 | 1 => a + 3 | 2 => a + 4 | _ => 0)
  else if (zTAU a).1 = 103 then (if j = 7 then a + 1 else 0)
  else if (zTAU a).1 = 108 then (if j = 0 then a + 1 else 0)
  else if (zTAU a).1 = 4 then (if j < 24 then a + 1 + j else 0)
  else if (zTAU a).1 = 5 then (if j < 60 then 217 + 2 * j else 0)
  else if (zTAU a).1 = 104 then (match j with | 0 => 8 | 1 => 14 | _ => 0)
  else if (zTAU a).1 = 106 then (match j with | 0 => 216 | 4 => 9 | 8 => 337 | 9 => 338 | 10 => 339 | 11 => 340 | 12 => 341 | _ => 0)
  else if (zTAU a).1 = 107 then (match j with | 0 => 213 | 1 => 214 | _ => 0)
  else if (zTAU a).1 = 109 then (match j with | 0 => 2 | _ => 0)
  else if (zTAU a).1 = 110 then (match j with | 0 => 2 | 1 => 4 | 2 => 6 | 3 => 8 | 4 => 13 | 5 => 80 | 6 => 211 | 7 => 212 | 8 => 215 | 9 => 342 | _ => 0)
  else if (zTAU a).1 = 111 then (match j with | 0 => 344 | 1 => 345 | 3 => 346 | 5 => 347 | 7 => 348 | 9 => 349 | 11 => 350 | 13 => 351 | 14 => 352 | 21 => 353 | 23 => 354 | 24 => 355 | 25 => 356 | 26 => 357 | 27 => 358 | 28 => 359 | 29 => 360 | 30 => 361 | 35 => 362 | 36 => 363 | 37 => 364 | 38 => 365 | 39 => 366 | 40 => 367 | 42 => 368 | 43 => 369 | _ => 0)
  else 0
def zSh (h : zHp) : Prop := ∀ a j, zshp a j ≠ 0 → gR h a j = zshp a j
def zlen (a : Nat) : Nat := (zTAU a).2
theorem zTAU_out {a : Nat} (h : 369 < a) : zTAU a = (99, 0) := by
  obtain ⟨k, rfl⟩ : ∃ k, a = k + 1 := ⟨a - 1, by omega⟩
  show zTL.getD k (99, 0) = _
  have hl : zTL.length = 369 := by decide +kernel
  rw [List.getD_eq_getElem?_getD, List.getElem?_eq_none (by omega)]
  rfl
theorem zT_of {a : Nat} {t : Nat × Nat} (h : zTAU a = t) (h9 : t.1 ≠ 99) : zT 369 a = t := by
  unfold zT
  by_cases h1 : 369 < a
  · rw [zTAU_out h1] at h
    exact absurd (by rw [← h]) h9
  · by_cases h0 : a = 0
    · subst h0
      exact absurd (by rw [← h]; rfl) h9
    · rw [if_pos ⟨by omega, by omega⟩]
      exact h
theorem zT_le {a : Nat} {t : Nat × Nat} (h : zT 369 a = t) (h9 : t.1 ≠ 99) : 1 ≤ a ∧ a ≤ 369 ∧ zTAU a = t := zT_at h h9
theorem zT_up {a : Nat} (k : Nat) {t t' : Nat × Nat} (hall : ∀ a, a < 370 → zTAU a = t → zTAU (a + k) = t') (h9 : t'.1 ≠ 99) (g9 : t.1 ≠ 99) (h : zT 369 a = t) : zT 369 (a + k) = t' := by
  obtain ⟨q1, q2, q3⟩ := zT_at h g9
  exact zT_of (hall a (by omega) q3) h9
theorem zrow_all : ∀ a, a < 370 → zTAU a = (100, 2) → (zTAU (a + 1)).1 = 0 := by decide +kernel
theorem zrow1 {a : Nat} (h : zT 369 a = (100, 2)) : zT 369 (a + 1) = (0, zlen (a + 1)) := by
  obtain ⟨q1, q2, q3⟩ := zT_at h (by decide)
  refine zT_of ?_ (by simp)
  have := zrow_all a (by omega) q3
  unfold zlen
  rw [← this]
theorem zdoc0 {a : Nat} (h : zT 369 a = (102, 3)) : zT 369 (a + 1) = (100, 2) := zT_up 1 (by decide +kernel) (by decide) (by decide) h
theorem zdoc1 {a : Nat} (h : zT 369 a = (102, 3)) : zT 369 (a + 3) = (0, 4) := zT_up 3 (by decide +kernel) (by decide) (by decide) h
theorem zdoc2 {a : Nat} (h : zT 369 a = (102, 3)) : zT 369 (a + 4) = (0, 4) := zT_up 4 (by decide +kernel) (by decide) (by decide) h
theorem zdocB {a : Nat} (h : zT 369 a = (102, 3)) : zT 369 (a + 2) = (0, 200) := zT_up 2 (by decide +kernel) (by decide) (by decide) h
theorem zfld7 {a : Nat} (h : zT 369 a = (103, 8)) : zT 369 (a + 1) = (0, 4) := zT_up 1 (by decide +kernel) (by decide) (by decide) h
theorem ztm0 {a : Nat} (h : zT 369 a = (108, 2)) : zT 369 (a + 1) = (4, 24) := zT_up 1 (by decide +kernel) (by decide) (by decide) h
theorem zitm_all : ∀ a, a < 370 → zTAU a = (108, 2) → ∀ k, k < 24 → zTAU (a + 2 + k) = (105, 13) := by decide +kernel
theorem zitm {a : Nat} (h : zT 369 a = (108, 2)) {k : Nat} (hk : k < 24) : zT 369 (a + 2 + k) = (105, 13) := by
  obtain ⟨q1, q2, q3⟩ := zT_at h (by decide)
  exact zT_of (zitm_all a (by omega) q3 k hk) (by decide)
theorem zfds_all : ∀ k, k < 60 → zTAU (217 + 2 * k) = (103, 8) := by decide +kernel
theorem zfds {k : Nat} (hk : k < 60) : zT 369 (217 + 2 * k) = (103, 8) := zT_of (zfds_all k hk) (by decide)
theorem sh_0_0 {h : zHp} {a : Nat} (hS : zSh h) (hT : zT 369 a = (100, 2)) : gR h a 0 = a + 1 := by
  have q : zshp a 0 = a + 1 := by unfold zshp; rw [(zT_at hT (by decide)).2.2]; rfl
  rw [hS a 0 (by rw [q]; omega), q]
theorem sh_2_0 {h : zHp} {a : Nat} (hS : zSh h) (hT : zT 369 a = (102, 3)) : gR h a 0 = a + 1 := by
  have q : zshp a 0 = a + 1 := by unfold zshp; rw [(zT_at hT (by decide)).2.2]; rfl
  rw [hS a 0 (by rw [q]; omega), q]
theorem sh_2_1 {h : zHp} {a : Nat} (hS : zSh h) (hT : zT 369 a = (102, 3)) : gR h a 1 = a + 3 := by
  have q : zshp a 1 = a + 3 := by unfold zshp; rw [(zT_at hT (by decide)).2.2]; rfl
  rw [hS a 1 (by rw [q]; omega), q]
theorem sh_2_2 {h : zHp} {a : Nat} (hS : zSh h) (hT : zT 369 a = (102, 3)) : gR h a 2 = a + 4 := by
  have q : zshp a 2 = a + 4 := by unfold zshp; rw [(zT_at hT (by decide)).2.2]; rfl
  rw [hS a 2 (by rw [q]; omega), q]
theorem sh_3_7 {h : zHp} {a : Nat} (hS : zSh h) (hT : zT 369 a = (103, 8)) : gR h a 7 = a + 1 := by
  have q : zshp a 7 = a + 1 := by unfold zshp; rw [(zT_at hT (by decide)).2.2]; rfl
  rw [hS a 7 (by rw [q]; omega), q]
theorem sh_8_0 {h : zHp} {a : Nat} (hS : zSh h) (hT : zT 369 a = (108, 2)) : gR h a 0 = a + 1 := by
  have q : zshp a 0 = a + 1 := by unfold zshp; rw [(zT_at hT (by decide)).2.2]; rfl
  rw [hS a 0 (by rw [q]; omega), q]
theorem sh_itm {h : zHp} {a k : Nat} (hS : zSh h) (hT : zT 369 a = (108, 2)) (hk : k < 24) : gR h (a + 1) k = a + 2 + k := by
  have q : zshp (a + 1) k = a + 2 + k := by
    unfold zshp
    rw [(zT_at (ztm0 hT) (by decide)).2.2]
    show (if k < 24 then a + 1 + 1 + k else 0) = _
    rw [if_pos hk]
  rw [hS (a + 1) k (by rw [q]; omega), q]
theorem sh_fds {h : zHp} {k : Nat} (hS : zSh h) (hk : k < 60) : gR h 216 k = 217 + 2 * k := by
  have q : zshp 216 k = 217 + 2 * k := by
    show (if k < 60 then 217 + 2 * k else 0) = _
    rw [if_pos hk]
  rw [hS 216 k (by rw [q]; omega), q]
theorem sh_4_0 {h : zHp} (hS : zSh h) : gR h 13 0 = 8 := hS 13 0 (by decide +kernel)
theorem sh_4_1 {h : zHp} (hS : zSh h) : gR h 13 1 = 14 := hS 13 1 (by decide +kernel)
theorem sh_6_0 {h : zHp} (hS : zSh h) : gR h 215 0 = 216 := hS 215 0 (by decide +kernel)
theorem sh_6_4 {h : zHp} (hS : zSh h) : gR h 215 4 = 9 := hS 215 4 (by decide +kernel)
theorem sh_6_8 {h : zHp} (hS : zSh h) : gR h 215 8 = 337 := hS 215 8 (by decide +kernel)
theorem sh_6_9 {h : zHp} (hS : zSh h) : gR h 215 9 = 338 := hS 215 9 (by decide +kernel)
theorem sh_6_10 {h : zHp} (hS : zSh h) : gR h 215 10 = 339 := hS 215 10 (by decide +kernel)
theorem sh_6_11 {h : zHp} (hS : zSh h) : gR h 215 11 = 340 := hS 215 11 (by decide +kernel)
theorem sh_6_12 {h : zHp} (hS : zSh h) : gR h 215 12 = 341 := hS 215 12 (by decide +kernel)
theorem sh_7_0 {h : zHp} (hS : zSh h) : gR h 212 0 = 213 := hS 212 0 (by decide +kernel)
theorem sh_7_1 {h : zHp} (hS : zSh h) : gR h 212 1 = 214 := hS 212 1 (by decide +kernel)
theorem sh_9_0 {h : zHp} (hS : zSh h) : gR h 211 0 = 2 := hS 211 0 (by decide +kernel)
theorem sh_10_0 {h : zHp} (hS : zSh h) : gR h 1 0 = 2 := hS 1 0 (by decide +kernel)
theorem sh_10_1 {h : zHp} (hS : zSh h) : gR h 1 1 = 4 := hS 1 1 (by decide +kernel)
theorem sh_10_2 {h : zHp} (hS : zSh h) : gR h 1 2 = 6 := hS 1 2 (by decide +kernel)
theorem sh_10_3 {h : zHp} (hS : zSh h) : gR h 1 3 = 8 := hS 1 3 (by decide +kernel)
theorem sh_10_4 {h : zHp} (hS : zSh h) : gR h 1 4 = 13 := hS 1 4 (by decide +kernel)
theorem sh_10_5 {h : zHp} (hS : zSh h) : gR h 1 5 = 80 := hS 1 5 (by decide +kernel)
theorem sh_10_6 {h : zHp} (hS : zSh h) : gR h 1 6 = 211 := hS 1 6 (by decide +kernel)
theorem sh_10_7 {h : zHp} (hS : zSh h) : gR h 1 7 = 212 := hS 1 7 (by decide +kernel)
theorem sh_10_8 {h : zHp} (hS : zSh h) : gR h 1 8 = 215 := hS 1 8 (by decide +kernel)
theorem sh_10_9 {h : zHp} (hS : zSh h) : gR h 1 9 = 342 := hS 1 9 (by decide +kernel)
theorem sh_11_0 {h : zHp} (hS : zSh h) : gR h 343 0 = 344 := hS 343 0 (by decide +kernel)
theorem sh_11_1 {h : zHp} (hS : zSh h) : gR h 343 1 = 345 := hS 343 1 (by decide +kernel)
theorem sh_11_3 {h : zHp} (hS : zSh h) : gR h 343 3 = 346 := hS 343 3 (by decide +kernel)
theorem sh_11_5 {h : zHp} (hS : zSh h) : gR h 343 5 = 347 := hS 343 5 (by decide +kernel)
theorem sh_11_7 {h : zHp} (hS : zSh h) : gR h 343 7 = 348 := hS 343 7 (by decide +kernel)
theorem sh_11_9 {h : zHp} (hS : zSh h) : gR h 343 9 = 349 := hS 343 9 (by decide +kernel)
theorem sh_11_11 {h : zHp} (hS : zSh h) : gR h 343 11 = 350 := hS 343 11 (by decide +kernel)
theorem sh_11_13 {h : zHp} (hS : zSh h) : gR h 343 13 = 351 := hS 343 13 (by decide +kernel)
theorem sh_11_14 {h : zHp} (hS : zSh h) : gR h 343 14 = 352 := hS 343 14 (by decide +kernel)
theorem sh_11_21 {h : zHp} (hS : zSh h) : gR h 343 21 = 353 := hS 343 21 (by decide +kernel)
theorem sh_11_23 {h : zHp} (hS : zSh h) : gR h 343 23 = 354 := hS 343 23 (by decide +kernel)
theorem sh_11_24 {h : zHp} (hS : zSh h) : gR h 343 24 = 355 := hS 343 24 (by decide +kernel)
theorem sh_11_25 {h : zHp} (hS : zSh h) : gR h 343 25 = 356 := hS 343 25 (by decide +kernel)
theorem sh_11_26 {h : zHp} (hS : zSh h) : gR h 343 26 = 357 := hS 343 26 (by decide +kernel)
theorem sh_11_27 {h : zHp} (hS : zSh h) : gR h 343 27 = 358 := hS 343 27 (by decide +kernel)
theorem sh_11_28 {h : zHp} (hS : zSh h) : gR h 343 28 = 359 := hS 343 28 (by decide +kernel)
theorem sh_11_29 {h : zHp} (hS : zSh h) : gR h 343 29 = 360 := hS 343 29 (by decide +kernel)
theorem sh_11_30 {h : zHp} (hS : zSh h) : gR h 343 30 = 361 := hS 343 30 (by decide +kernel)
theorem sh_11_35 {h : zHp} (hS : zSh h) : gR h 343 35 = 362 := hS 343 35 (by decide +kernel)
theorem sh_11_36 {h : zHp} (hS : zSh h) : gR h 343 36 = 363 := hS 343 36 (by decide +kernel)
theorem sh_11_37 {h : zHp} (hS : zSh h) : gR h 343 37 = 364 := hS 343 37 (by decide +kernel)
theorem sh_11_38 {h : zHp} (hS : zSh h) : gR h 343 38 = 365 := hS 343 38 (by decide +kernel)
theorem sh_11_39 {h : zHp} (hS : zSh h) : gR h 343 39 = 366 := hS 343 39 (by decide +kernel)
theorem sh_11_40 {h : zHp} (hS : zSh h) : gR h 343 40 = 367 := hS 343 40 (by decide +kernel)
theorem sh_11_42 {h : zHp} (hS : zSh h) : gR h 343 42 = 368 := hS 343 42 (by decide +kernel)
theorem sh_11_43 {h : zHp} (hS : zSh h) : gR h 343 43 = 369 := hS 343 43 (by decide +kernel)
theorem tT_1 : zT 369 1 = (110, 12) := by decide +kernel
theorem tT_2 : zT 369 2 = (100, 2) := by decide +kernel
theorem tT_3 : zT 369 3 = (0, 120) := by decide +kernel
theorem tT_4 : zT 369 4 = (100, 2) := by decide +kernel
theorem tT_5 : zT 369 5 = (0, 32) := by decide +kernel
theorem tT_6 : zT 369 6 = (100, 2) := by decide +kernel
theorem tT_7 : zT 369 7 = (0, 200) := by decide +kernel
theorem tT_8 : zT 369 8 = (102, 3) := by decide +kernel
theorem tT_9 : zT 369 9 = (100, 2) := by decide +kernel
theorem tT_10 : zT 369 10 = (0, 200) := by decide +kernel
theorem tT_11 : zT 369 11 = (0, 4) := by decide +kernel
theorem tT_12 : zT 369 12 = (0, 4) := by decide +kernel
theorem tT_13 : zT 369 13 = (104, 4) := by decide +kernel
theorem tT_14 : zT 369 14 = (2, 13) := by decide +kernel
theorem tT_80 : zT 369 80 = (3, 4) := by decide +kernel
theorem tT_211 : zT 369 211 = (109, 5) := by decide +kernel
theorem tT_212 : zT 369 212 = (107, 3) := by decide +kernel
theorem tT_213 : zT 369 213 = (0, 16) := by decide +kernel
theorem tT_214 : zT 369 214 = (0, 16) := by decide +kernel
theorem tT_215 : zT 369 215 = (106, 14) := by decide +kernel
theorem tT_216 : zT 369 216 = (5, 60) := by decide +kernel
theorem tT_337 : zT 369 337 = (0, 4) := by decide +kernel
theorem tT_338 : zT 369 338 = (1, 24) := by decide +kernel
theorem tT_339 : zT 369 339 = (0, 24) := by decide +kernel
theorem tT_340 : zT 369 340 = (0, 24) := by decide +kernel
theorem tT_341 : zT 369 341 = (0, 4) := by decide +kernel
theorem tT_342 : zT 369 342 = (0, 201) := by decide +kernel
theorem tT_343 : zT 369 343 = (111, 45) := by decide +kernel
theorem tT_344 : zT 369 344 = (0, 213) := by decide +kernel
theorem tT_345 : zT 369 345 = (0, 2556) := by decide +kernel
theorem tT_346 : zT 369 346 = (0, 2556) := by decide +kernel
theorem tT_347 : zT 369 347 = (0, 213) := by decide +kernel
theorem tT_348 : zT 369 348 = (0, 32) := by decide +kernel
theorem tT_349 : zT 369 349 = (0, 200) := by decide +kernel
theorem tT_350 : zT 369 350 = (0, 120) := by decide +kernel
theorem tT_351 : zT 369 351 = (0, 1680) := by decide +kernel
theorem tT_352 : zT 369 352 = (0, 5) := by decide +kernel
theorem tT_353 : zT 369 353 = (0, 32) := by decide +kernel
theorem tT_354 : zT 369 354 = (0, 60) := by decide +kernel
theorem tT_355 : zT 369 355 = (0, 60) := by decide +kernel
theorem tT_356 : zT 369 356 = (0, 60) := by decide +kernel
theorem tT_357 : zT 369 357 = (0, 60) := by decide +kernel
theorem tT_358 : zT 369 358 = (0, 60) := by decide +kernel
theorem tT_359 : zT 369 359 = (0, 60) := by decide +kernel
theorem tT_360 : zT 369 360 = (0, 60) := by decide +kernel
theorem tT_361 : zT 369 361 = (0, 240) := by decide +kernel
theorem tT_362 : zT 369 362 = (1, 24) := by decide +kernel
theorem tT_363 : zT 369 363 = (0, 24) := by decide +kernel
theorem tT_364 : zT 369 364 = (0, 24) := by decide +kernel
theorem tT_365 : zT 369 365 = (0, 4) := by decide +kernel
theorem tT_366 : zT 369 366 = (0, 4) := by decide +kernel
theorem tT_367 : zT 369 367 = (0, 4) := by decide +kernel
theorem tT_368 : zT 369 368 = (0, 4) := by decide +kernel
theorem tT_369 : zT 369 369 = (0, 201) := by decide +kernel
theorem zlit {z : Int} (h : (decide (-2147483648 ≤ z) && decide (z ≤ 2147483647)) = true) : zII z := by
  rw [Bool.and_eq_true, decide_eq_true_eq, decide_eq_true_eq] at h
  exact h
theorem zlitL {z : Int} (h : (decide (-9223372036854775808 ≤ z) && decide (z ≤ 9223372036854775807)) = true) : zIL z := by
  rw [Bool.and_eq_true, decide_eq_true_eq, decide_eq_true_eq] at h
  exact h
abbrev wpN (G : zG) (d : Nat) (M : zM) (pc : Nat) (ls : zLs) (st : List zV) (h : zHp) (Q : Option zV → zHp → Prop) : Prop := wp G d 369 369 M 369 pc ls st h Q
/-- a call's end by the sort of its answer -/
def qI (P : Int → zHp → Prop) : Option zV → zHp → Prop := fun v h => ∃ z : Int, v = some (vI z) ∧ P z h
def qL (P : Int → zHp → Prop) : Option zV → zHp → Prop := fun v h => ∃ z : Int, v = some (vL z) ∧ P z h
def qV (P : zHp → Prop) : Option zV → zHp → Prop := fun v h => v = none ∧ P h
theorem qI_i {P : Int → zHp → Prop} {z : Int} {h : zHp} (k : P z h) : qI P (some (vI z)) h := ⟨z, rfl, k⟩
theorem qL_i {P : Int → zHp → Prop} {z : Int} {h : zHp} (k : P z h) : qL P (some (vL z)) h := ⟨z, rfl, k⟩
theorem qV_i {P : zHp → Prop} {h : zHp} (k : P h) : qV P none h := ⟨rfl, k⟩
def zVm (M : zM) (k c : Nat) : Prop := zMd M k ∧ Cond.instanceMethod M.1 ∈ zgw ∧ Cond.selects M.1.cls M.1 M.1 ∈ zgw ∧ ∃ T : u_T, zcl[c]? = some (M.1.cls, T, zN c)
section CALLN
variable {G : zG} {d : Nat} {M : zM} {pc : Nat} {ls : zLs} {st : List zV} {h : zHp} {Q : Option zV → zHp → Prop}
theorem wq_pick {R : Room} {Z : List Frame → Array Value → State → State → Prop} {X : Array Value → State → Prop} {n0 n : Nat} {ls' : zLs} (ks : List Nat) (e : ks.filterMap (fun k => ls[k]?) = ls') (k : wq G R Z X M n0 n pc ls' st h) : wq G R Z X M n0 n pc ls st h := by
  refine wq_sub (fun q hq => ?_) k
  rw [← e] at hq
  obtain ⟨i, -, hi⟩ := List.mem_filterMap.mp hq
  exact List.mem_of_getElem? hi
theorem wq_pc {R : Room} {Z : List Frame → Array Value → State → State → Prop} {X : Array Value → State → Prop} {n0 n pc' : Nat} (e : pc = pc') (k : wq G R Z X M n0 n pc' ls st h) : wq G R Z X M n0 n pc ls st h := e ▸ k
theorem wN_V {idx d' a c kP : Nat} {M' : zM} {As stk : List zV} {Q' : Option zV → zHp → Prop} (vm : zVm M' kP c) (hlk : Cond.methodLink M.1.cls idx M'.1 ∈ zgw) (ht : zT 369 a = (100 + c, zN c)) (hst : stk = As.reverse ++ vR a :: st) (hk : As.length = kP) (hsz : zsz (vR a :: As) ≤ M'.2.2.1) (hcat : (st.map zcat).sum ≤ 8) (hd : d' + 1 ≤ d) (dd : decode M.2.1 pc = .ok (.invokevirtual idx, 3))
    (hw : wpN G d' M' 0 (zar 0 (vR a :: As)) [] h Q') (k : ∀ (v : Option zV) (h' : zHp), Q' v h' → wpN G d M (pc + 3) ls (v.toList ++ st) h' Q) : wpN G d M pc ls stk h Q := by
  obtain ⟨hm, hi, hse, T, hc⟩ := vm
  exact wq_callV kP hm hi hse hlk hc ht hst hk hsz hcat (Nat.le_refl _) (zFit_rm hd (Nat.le_refl _)) dd hw (fun v h' q _ => k v h' q)
theorem wN_S {idx d' kP : Nat} {M' : zM} {As stk : List zV} {Q' : Option zV → zHp → Prop} (hm : zMd M' kP) (hs : Cond.static M'.1 ∈ zgw) (hlk : Cond.methodLink M.1.cls idx M'.1 ∈ zgw) (hst : stk = As.reverse ++ st) (hk : As.length = kP) (hsz : zsz As ≤ M'.2.2.1) (hcat : (st.map zcat).sum ≤ 8) (hd : d' + 1 ≤ d) (dd : decode M.2.1 pc = .ok (.invokestatic idx, 3))
    (hw : wpN G d' M' 0 (zar 0 As) [] h Q') (k : ∀ (v : Option zV) (h' : zHp), Q' v h' → wpN G d M (pc + 3) ls (v.toList ++ st) h' Q) : wpN G d M pc ls stk h Q :=
  wq_callS kP hm hs hlk hst hk hsz hcat (Nat.le_refl _) (zFit_rm hd (Nat.le_refl _)) dd hw (fun v h' q _ => k v h' q)
end CALLN
theorem vm_X0_has : zVm M_X0_has 1 0 := ⟨md_X0_has, mi_X0_has, mv_X0_has, TX0, rfl⟩
theorem vm_X0_get : zVm M_X0_get 1 0 := ⟨md_X0_get, mi_X0_get, mv_X0_get, TX0, rfl⟩
theorem vm_X0_put : zVm M_X0_put 2 0 := ⟨md_X0_put, mi_X0_put, mv_X0_put, TX0, rfl⟩
theorem vm_X0_putAll : zVm M_X0_putAll 2 0 := ⟨md_X0_putAll, mi_X0_putAll, mv_X0_putAll, TX0, rfl⟩
theorem vm_X0_append : zVm M_X0_append 1 0 := ⟨md_X0_append, mi_X0_append, mv_X0_append, TX0, rfl⟩
theorem vm_X0_become : zVm M_X0_become 3 0 := ⟨md_X0_become, mi_X0_become, mv_X0_become, TX0, rfl⟩
theorem vm_X0_openGap : zVm M_X0_openGap 2 0 := ⟨md_X0_openGap, mi_X0_openGap, mv_X0_openGap, TX0, rfl⟩
theorem vm_X0_closeGap : zVm M_X0_closeGap 2 0 := ⟨md_X0_closeGap, mi_X0_closeGap, mv_X0_closeGap, TX0, rfl⟩
theorem vm_X0_read : zVm M_X0_read 1 0 := ⟨md_X0_read, mi_X0_read, mv_X0_read, TX0, rfl⟩
theorem vm_X0_write : zVm M_X0_write 2 0 := ⟨md_X0_write, mi_X0_write, mv_X0_write, TX0, rfl⟩
theorem vm_X2_isPresent : zVm M_X2_isPresent 1 2 := ⟨md_X2_isPresent, mi_X2_isPresent, mv_X2_isPresent, TX2, rfl⟩
theorem vm_X2_drop : zVm M_X2_drop 1 2 := ⟨md_X2_drop, mi_X2_drop, mv_X2_drop, TX2, rfl⟩
theorem vm_X2_presentOverlays : zVm M_X2_presentOverlays 0 2 := ⟨md_X2_presentOverlays, mi_X2_presentOverlays, mv_X2_presentOverlays, TX2, rfl⟩
theorem vm_X2_uses : zVm M_X2_uses 1 2 := ⟨md_X2_uses, mi_X2_uses, mv_X2_uses, TX2, rfl⟩
theorem vm_X2_become : zVm M_X2_become 1 2 := ⟨md_X2_become, mi_X2_become, mv_X2_become, TX2, rfl⟩
theorem vm_X2_openGap : zVm M_X2_openGap 2 2 := ⟨md_X2_openGap, mi_X2_openGap, mv_X2_openGap, TX2, rfl⟩
theorem vm_X2_closeGap : zVm M_X2_closeGap 2 2 := ⟨md_X2_closeGap, mi_X2_closeGap, mv_X2_closeGap, TX2, rfl⟩
theorem vm_X3_isCheck : zVm M_X3_isCheck 0 3 := ⟨md_X3_isCheck, mi_X3_isCheck, mv_X3_isCheck, TX3, rfl⟩
theorem vm_X3_contains : zVm M_X3_contains 1 3 := ⟨md_X3_contains, mi_X3_contains, mv_X3_contains, TX3, rfl⟩
theorem vm_X3_takes : zVm M_X3_takes 1 3 := ⟨md_X3_takes, mi_X3_takes, mv_X3_takes, TX3, rfl⟩
theorem vm_X3_pathName : zVm M_X3_pathName 1 3 := ⟨md_X3_pathName, mi_X3_pathName, mv_X3_pathName, TX3, rfl⟩
theorem vm_X3_property : zVm M_X3_property 1 3 := ⟨md_X3_property, mi_X3_property, mv_X3_property, TX3, rfl⟩
theorem vm_X4_keep : zVm M_X4_keep 0 4 := ⟨md_X4_keep, mi_X4_keep, mv_X4_keep, TX4, rfl⟩
theorem vm_X4_takeBack : zVm M_X4_takeBack 0 4 := ⟨md_X4_takeBack, mi_X4_takeBack, mv_X4_takeBack, TX4, rfl⟩
theorem vm_X4_commit : zVm M_X4_commit 0 4 := ⟨md_X4_commit, mi_X4_commit, mv_X4_commit, TX4, rfl⟩
theorem vm_X4_back : zVm M_X4_back 0 4 := ⟨md_X4_back, mi_X4_back, mv_X4_back, TX4, rfl⟩
theorem vm_X4_forward : zVm M_X4_forward 0 4 := ⟨md_X4_forward, mi_X4_forward, mv_X4_forward, TX4, rfl⟩
theorem vm_X4_dropOldest : zVm M_X4_dropOldest 0 4 := ⟨md_X4_dropOldest, mi_X4_dropOldest, mv_X4_dropOldest, TX4, rfl⟩
theorem vm_X5_reset : zVm M_X5_reset 1 5 := ⟨md_X5_reset, mi_X5_reset, mv_X5_reset, TX5, rfl⟩
theorem vm_X5_isPlainInteger : zVm M_X5_isPlainInteger 0 5 := ⟨md_X5_isPlainInteger, mi_X5_isPlainInteger, mv_X5_isPlainInteger, TX5, rfl⟩
theorem vm_X6_compute : zVm M_X6_compute 2 6 := ⟨md_X6_compute, mi_X6_compute, mv_X6_compute, TX6, rfl⟩
theorem vm_X6_makeStep : zVm M_X6_makeStep 0 6 := ⟨md_X6_makeStep, mi_X6_makeStep, mv_X6_makeStep, TX6, rfl⟩
theorem vm_X6_goThrough : zVm M_X6_goThrough 2 6 := ⟨md_X6_goThrough, mi_X6_goThrough, mv_X6_goThrough, TX6, rfl⟩
theorem vm_X6_repeatStructure : zVm M_X6_repeatStructure 2 6 := ⟨md_X6_repeatStructure, mi_X6_repeatStructure, mv_X6_repeatStructure, TX6, rfl⟩
theorem vm_X6_repetitionsOf : zVm M_X6_repetitionsOf 1 6 := ⟨md_X6_repetitionsOf, mi_X6_repetitionsOf, mv_X6_repetitionsOf, TX6, rfl⟩
theorem vm_X6_align : zVm M_X6_align 1 6 := ⟨md_X6_align, mi_X6_align, mv_X6_align, TX6, rfl⟩
theorem vm_X6_layFields : zVm M_X6_layFields 2 6 := ⟨md_X6_layFields, mi_X6_layFields, mv_X6_layFields, TX6, rfl⟩
theorem vm_X6_layField : zVm M_X6_layField 2 6 := ⟨md_X6_layField, mi_X6_layField, mv_X6_layField, TX6, rfl⟩
theorem vm_X6_seek : zVm M_X6_seek 1 6 := ⟨md_X6_seek, mi_X6_seek, mv_X6_seek, TX6, rfl⟩
theorem vm_X6_firstSought : zVm M_X6_firstSought 0 6 := ⟨md_X6_firstSought, mi_X6_firstSought, mv_X6_firstSought, TX6, rfl⟩
theorem vm_X6_isSought : zVm M_X6_isSought 1 6 := ⟨md_X6_isSought, mi_X6_isSought, mv_X6_isSought, TX6, rfl⟩
theorem vm_X7_faultOf : zVm M_X7_faultOf 1 7 := ⟨md_X7_faultOf, mi_X7_faultOf, mv_X7_faultOf, TX7, rfl⟩
theorem vm_X7_fits : zVm M_X7_fits 2 7 := ⟨md_X7_fits, mi_X7_fits, mv_X7_fits, TX7, rfl⟩
theorem vm_X8_append : zVm M_X8_append 1 8 := ⟨md_X8_append, mi_X8_append, mv_X8_append, TX8, rfl⟩
theorem vm_X8_sibling : zVm M_X8_sibling 2 8 := ⟨md_X8_sibling, mi_X8_sibling, mv_X8_sibling, TX8, rfl⟩
theorem vm_X8_lookUp : zVm M_X8_lookUp 2 8 := ⟨md_X8_lookUp, mi_X8_lookUp, mv_X8_lookUp, TX8, rfl⟩
theorem vm_X9_faultOf : zVm M_X9_faultOf 1 9 := ⟨md_X9_faultOf, mi_X9_faultOf, mv_X9_faultOf, TX9, rfl⟩
theorem vm_X9_moveTo : zVm M_X9_moveTo 1 9 := ⟨md_X9_moveTo, mi_X9_moveTo, mv_X9_moveTo, TX9, rfl⟩
theorem vm_X9_refuse : zVm M_X9_refuse 1 9 := ⟨md_X9_refuse, mi_X9_refuse, mv_X9_refuse, TX9, rfl⟩
theorem vm_X9_parseSign : zVm M_X9_parseSign 1 9 := ⟨md_X9_parseSign, mi_X9_parseSign, mv_X9_parseSign, TX9, rfl⟩
theorem vm_X9_parseBlock : zVm M_X9_parseBlock 2 9 := ⟨md_X9_parseBlock, mi_X9_parseBlock, mv_X9_parseBlock, TX9, rfl⟩
theorem vm_X9_parseItem : zVm M_X9_parseItem 2 9 := ⟨md_X9_parseItem, mi_X9_parseItem, mv_X9_parseItem, TX9, rfl⟩
theorem vm_X9_parseCondition : zVm M_X9_parseCondition 1 9 := ⟨md_X9_parseCondition, mi_X9_parseCondition, mv_X9_parseCondition, TX9, rfl⟩
theorem vm_X9_parseGap : zVm M_X9_parseGap 1 9 := ⟨md_X9_parseGap, mi_X9_parseGap, mv_X9_parseGap, TX9, rfl⟩
theorem vm_X9_parseName : zVm M_X9_parseName 1 9 := ⟨md_X9_parseName, mi_X9_parseName, mv_X9_parseName, TX9, rfl⟩
theorem vm_X9_parseType : zVm M_X9_parseType 2 9 := ⟨md_X9_parseType, mi_X9_parseType, mv_X9_parseType, TX9, rfl⟩
theorem vm_X9_parseInteger : zVm M_X9_parseInteger 1 9 := ⟨md_X9_parseInteger, mi_X9_parseInteger, mv_X9_parseInteger, TX9, rfl⟩
theorem vm_X9_parseStructure : zVm M_X9_parseStructure 2 9 := ⟨md_X9_parseStructure, mi_X9_parseStructure, mv_X9_parseStructure, TX9, rfl⟩
theorem vm_X9_parseCheck : zVm M_X9_parseCheck 3 9 := ⟨md_X9_parseCheck, mi_X9_parseCheck, mv_X9_parseCheck, TX9, rfl⟩
theorem vm_X9_parseSibling : zVm M_X9_parseSibling 2 9 := ⟨md_X9_parseSibling, mi_X9_parseSibling, mv_X9_parseSibling, TX9, rfl⟩
theorem vm_X9_parseCount : zVm M_X9_parseCount 1 9 := ⟨md_X9_parseCount, mi_X9_parseCount, mv_X9_parseCount, TX9, rfl⟩
theorem vm_X9_parseReference : zVm M_X9_parseReference 1 9 := ⟨md_X9_parseReference, mi_X9_parseReference, mv_X9_parseReference, TX9, rfl⟩
theorem vm_X9_parseNumber : zVm M_X9_parseNumber 0 9 := ⟨md_X9_parseNumber, mi_X9_parseNumber, mv_X9_parseNumber, TX9, rfl⟩
theorem vm_X10_type : zVm M_X10_type 1 10 := ⟨md_X10_type, mi_X10_type, mv_X10_type, TX10, rfl⟩
theorem vm_X10_clearText : zVm M_X10_clearText 0 10 := ⟨md_X10_clearText, mi_X10_clearText, mv_X10_clearText, TX10, rfl⟩
theorem vm_X10_templateFault : zVm M_X10_templateFault 0 10 := ⟨md_X10_templateFault, mi_X10_templateFault, mv_X10_templateFault, TX10, rfl⟩
theorem vm_X10_define : zVm M_X10_define 1 10 := ⟨md_X10_define, mi_X10_define, mv_X10_define, TX10, rfl⟩
theorem vm_X10_items : zVm M_X10_items 1 10 := ⟨md_X10_items, mi_X10_items, mv_X10_items, TX10, rfl⟩
theorem vm_X10_patternFault : zVm M_X10_patternFault 0 10 := ⟨md_X10_patternFault, mi_X10_patternFault, mv_X10_patternFault, TX10, rfl⟩
theorem vm_X10_find : zVm M_X10_find 1 10 := ⟨md_X10_find, mi_X10_find, mv_X10_find, TX10, rfl⟩
theorem vm_X10_matches : zVm M_X10_matches 0 10 := ⟨md_X10_matches, mi_X10_matches, mv_X10_matches, TX10, rfl⟩
theorem vm_X10_length : zVm M_X10_length 0 10 := ⟨md_X10_length, mi_X10_length, mv_X10_length, TX10, rfl⟩
theorem vm_X10_byteAt : zVm M_X10_byteAt 1 10 := ⟨md_X10_byteAt, mi_X10_byteAt, mv_X10_byteAt, TX10, rfl⟩
theorem vm_X10_insert : zVm M_X10_insert 3 10 := ⟨md_X10_insert, mi_X10_insert, mv_X10_insert, TX10, rfl⟩
theorem vm_X10_delete : zVm M_X10_delete 2 10 := ⟨md_X10_delete, mi_X10_delete, mv_X10_delete, TX10, rfl⟩
theorem vm_X10_overwrite : zVm M_X10_overwrite 2 10 := ⟨md_X10_overwrite, mi_X10_overwrite, mv_X10_overwrite, TX10, rfl⟩
theorem vm_X10_copy : zVm M_X10_copy 2 10 := ⟨md_X10_copy, mi_X10_copy, mv_X10_copy, TX10, rfl⟩
theorem vm_X10_paste : zVm M_X10_paste 1 10 := ⟨md_X10_paste, mi_X10_paste, mv_X10_paste, TX10, rfl⟩
theorem vm_X10_pasteOver : zVm M_X10_pasteOver 1 10 := ⟨md_X10_pasteOver, mi_X10_pasteOver, mv_X10_pasteOver, TX10, rfl⟩
theorem vm_X10_lay : zVm M_X10_lay 3 10 := ⟨md_X10_lay, mi_X10_lay, mv_X10_lay, TX10, rfl⟩
theorem vm_X10_remove : zVm M_X10_remove 1 10 := ⟨md_X10_remove, mi_X10_remove, mv_X10_remove, TX10, rfl⟩
theorem vm_X10_overlay : zVm M_X10_overlay 2 10 := ⟨md_X10_overlay, mi_X10_overlay, mv_X10_overlay, TX10, rfl⟩
theorem vm_X10_field : zVm M_X10_field 3 10 := ⟨md_X10_field, mi_X10_field, mv_X10_field, TX10, rfl⟩
theorem vm_X10_value : zVm M_X10_value 2 10 := ⟨md_X10_value, mi_X10_value, mv_X10_value, TX10, rfl⟩
theorem vm_X10_path : zVm M_X10_path 3 10 := ⟨md_X10_path, mi_X10_path, mv_X10_path, TX10, rfl⟩
theorem vm_X10_fieldAt : zVm M_X10_fieldAt 2 10 := ⟨md_X10_fieldAt, mi_X10_fieldAt, mv_X10_fieldAt, TX10, rfl⟩
theorem vm_X10_counterpart : zVm M_X10_counterpart 3 10 := ⟨md_X10_counterpart, mi_X10_counterpart, mv_X10_counterpart, TX10, rfl⟩
theorem vm_X10_setField : zVm M_X10_setField 3 10 := ⟨md_X10_setField, mi_X10_setField, mv_X10_setField, TX10, rfl⟩
theorem vm_X10_follow : zVm M_X10_follow 1 10 := ⟨md_X10_follow, mi_X10_follow, mv_X10_follow, TX10, rfl⟩
theorem vm_X10_refresh : zVm M_X10_refresh 0 10 := ⟨md_X10_refresh, mi_X10_refresh, mv_X10_refresh, TX10, rfl⟩
theorem vm_X10_expected : zVm M_X10_expected 2 10 := ⟨md_X10_expected, mi_X10_expected, mv_X10_expected, TX10, rfl⟩
theorem vm_X10_repair : zVm M_X10_repair 2 10 := ⟨md_X10_repair, mi_X10_repair, mv_X10_repair, TX10, rfl⟩
theorem vm_X10_undo : zVm M_X10_undo 0 10 := ⟨md_X10_undo, mi_X10_undo, mv_X10_undo, TX10, rfl⟩
theorem vm_X10_redo : zVm M_X10_redo 0 10 := ⟨md_X10_redo, mi_X10_redo, mv_X10_redo, TX10, rfl⟩
theorem vm_X10_mark : zVm M_X10_mark 0 10 := ⟨md_X10_mark, mi_X10_mark, mv_X10_mark, TX10, rfl⟩
theorem vm_X10_difference : zVm M_X10_difference 1 10 := ⟨md_X10_difference, mi_X10_difference, mv_X10_difference, TX10, rfl⟩
theorem vm_X10_distance : zVm M_X10_distance 0 10 := ⟨md_X10_distance, mi_X10_distance, mv_X10_distance, TX10, rfl⟩
theorem vm_X10_count : zVm M_X10_count 1 10 := ⟨md_X10_count, mi_X10_count, mv_X10_count, TX10, rfl⟩
theorem vm_X10_digest : zVm M_X10_digest 0 10 := ⟨md_X10_digest, mi_X10_digest, mv_X10_digest, TX10, rfl⟩
theorem vm_X10_endChange : zVm M_X10_endChange 1 10 := ⟨md_X10_endChange, mi_X10_endChange, mv_X10_endChange, TX10, rfl⟩
theorem vm_X10_updateRound : zVm M_X10_updateRound 0 10 := ⟨md_X10_updateRound, mi_X10_updateRound, mv_X10_updateRound, TX10, rfl⟩
theorem vm_X10_updateWrongFields : zVm M_X10_updateWrongFields 0 10 := ⟨md_X10_updateWrongFields, mi_X10_updateWrongFields, mv_X10_updateWrongFields, TX10, rfl⟩
theorem vm_X10_layOut : zVm M_X10_layOut 1 10 := ⟨md_X10_layOut, mi_X10_layOut, mv_X10_layOut, TX10, rfl⟩
theorem vm_X10_layOutField : zVm M_X10_layOutField 2 10 := ⟨md_X10_layOutField, mi_X10_layOutField, mv_X10_layOutField, TX10, rfl⟩
theorem vm_X10_fieldsOf : zVm M_X10_fieldsOf 1 10 := ⟨md_X10_fieldsOf, mi_X10_fieldsOf, mv_X10_fieldsOf, TX10, rfl⟩
theorem vm_X10_overlayProperty : zVm M_X10_overlayProperty 2 10 := ⟨md_X10_overlayProperty, mi_X10_overlayProperty, mv_X10_overlayProperty, TX10, rfl⟩
theorem vm_X10_wrongFields : zVm M_X10_wrongFields 0 10 := ⟨md_X10_wrongFields, mi_X10_wrongFields, mv_X10_wrongFields, TX10, rfl⟩
theorem vm_X10_wrongFieldsOfAll : zVm M_X10_wrongFieldsOfAll 0 10 := ⟨md_X10_wrongFieldsOfAll, mi_X10_wrongFieldsOfAll, mv_X10_wrongFieldsOfAll, TX10, rfl⟩
theorem vm_X10_numberOf : zVm M_X10_numberOf 1 10 := ⟨md_X10_numberOf, mi_X10_numberOf, mv_X10_numberOf, TX10, rfl⟩
theorem vm_X10_nextDistances : zVm M_X10_nextDistances 2 10 := ⟨md_X10_nextDistances, mi_X10_nextDistances, mv_X10_nextDistances, TX10, rfl⟩
theorem vm_X10_mixOverlay : zVm M_X10_mixOverlay 2 10 := ⟨md_X10_mixOverlay, mi_X10_mixOverlay, mv_X10_mixOverlay, TX10, rfl⟩
theorem vm_X10_mixField : zVm M_X10_mixField 2 10 := ⟨md_X10_mixField, mi_X10_mixField, mv_X10_mixField, TX10, rfl⟩
theorem vm_X11_size : zVm M_X11_size 0 11 := ⟨md_X11_size, mi_X11_size, mv_X11_size, TX11, rfl⟩
theorem vm_X11_isPresent : zVm M_X11_isPresent 1 11 := ⟨md_X11_isPresent, mi_X11_isPresent, mv_X11_isPresent, TX11, rfl⟩
theorem vm_X11_templateOf : zVm M_X11_templateOf 1 11 := ⟨md_X11_templateOf, mi_X11_templateOf, mv_X11_templateOf, TX11, rfl⟩
theorem vm_X11_offsetOf : zVm M_X11_offsetOf 1 11 := ⟨md_X11_offsetOf, mi_X11_offsetOf, mv_X11_offsetOf, TX11, rfl⟩
theorem vm_X11_moves : zVm M_X11_moves 2 11 := ⟨md_X11_moves, mi_X11_moves, mv_X11_moves, TX11, rfl⟩
theorem vm_X11_type : zVm M_X11_type 1 11 := ⟨md_X11_type, mi_X11_type, mv_X11_type, TX11, rfl⟩
theorem vm_X11_clearText : zVm M_X11_clearText 0 11 := ⟨md_X11_clearText, mi_X11_clearText, mv_X11_clearText, TX11, rfl⟩
theorem vm_X11_next : zVm M_X11_next 0 11 := ⟨md_X11_next, mi_X11_next, mv_X11_next, TX11, rfl⟩
theorem vm_X11_blanks : zVm M_X11_blanks 0 11 := ⟨md_X11_blanks, mi_X11_blanks, mv_X11_blanks, TX11, rfl⟩
theorem vm_X11_faults : zVm M_X11_faults 1 11 := ⟨md_X11_faults, mi_X11_faults, mv_X11_faults, TX11, rfl⟩
theorem vm_X11_takes : zVm M_X11_takes 1 11 := ⟨md_X11_takes, mi_X11_takes, mv_X11_takes, TX11, rfl⟩
theorem vm_X11_expects : zVm M_X11_expects 1 11 := ⟨md_X11_expects, mi_X11_expects, mv_X11_expects, TX11, rfl⟩
theorem vm_X11_number : zVm M_X11_number 0 11 := ⟨md_X11_number, mi_X11_number, mv_X11_number, TX11, rfl⟩
theorem vm_X11_blanksBehindNumber : zVm M_X11_blanksBehindNumber 0 11 := ⟨md_X11_blanksBehindNumber, mi_X11_blanksBehindNumber, mv_X11_blanksBehindNumber, TX11, rfl⟩
theorem vm_X11_name : zVm M_X11_name 0 11 := ⟨md_X11_name, mi_X11_name, mv_X11_name, TX11, rfl⟩
theorem vm_X11_of : zVm M_X11_of 3 11 := ⟨md_X11_of, mi_X11_of, mv_X11_of, TX11, rfl⟩
theorem vm_X11_readOf : zVm M_X11_readOf 2 11 := ⟨md_X11_readOf, mi_X11_readOf, mv_X11_readOf, TX11, rfl⟩
theorem vm_X11_writes : zVm M_X11_writes 3 11 := ⟨md_X11_writes, mi_X11_writes, mv_X11_writes, TX11, rfl⟩
theorem vm_X11_inBlock : zVm M_X11_inBlock 3 11 := ⟨md_X11_inBlock, mi_X11_inBlock, mv_X11_inBlock, TX11, rfl⟩
theorem vm_X11_named : zVm M_X11_named 2 11 := ⟨md_X11_named, mi_X11_named, mv_X11_named, TX11, rfl⟩
theorem vm_X11_integerNamed : zVm M_X11_integerNamed 1 11 := ⟨md_X11_integerNamed, mi_X11_integerNamed, mv_X11_integerNamed, TX11, rfl⟩
theorem vm_X11_readsCount : zVm M_X11_readsCount 1 11 := ⟨md_X11_readsCount, mi_X11_readsCount, mv_X11_readsCount, TX11, rfl⟩
theorem vm_X11_siblingNamed : zVm M_X11_siblingNamed 1 11 := ⟨md_X11_siblingNamed, mi_X11_siblingNamed, mv_X11_siblingNamed, TX11, rfl⟩
theorem vm_X11_readsCheck : zVm M_X11_readsCheck 2 11 := ⟨md_X11_readsCheck, mi_X11_readsCheck, mv_X11_readsCheck, TX11, rfl⟩
theorem vm_X11_readsInteger : zVm M_X11_readsInteger 1 11 := ⟨md_X11_readsInteger, mi_X11_readsInteger, mv_X11_readsInteger, TX11, rfl⟩
theorem vm_X11_readsType : zVm M_X11_readsType 1 11 := ⟨md_X11_readsType, mi_X11_readsType, mv_X11_readsType, TX11, rfl⟩
theorem vm_X11_readsItem : zVm M_X11_readsItem 0 11 := ⟨md_X11_readsItem, mi_X11_readsItem, mv_X11_readsItem, TX11, rfl⟩
theorem vm_X11_readsNamed : zVm M_X11_readsNamed 1 11 := ⟨md_X11_readsNamed, mi_X11_readsNamed, mv_X11_readsNamed, TX11, rfl⟩
theorem vm_X11_closes : zVm M_X11_closes 0 11 := ⟨md_X11_closes, mi_X11_closes, mv_X11_closes, TX11, rfl⟩
theorem vm_X11_templateFault : zVm M_X11_templateFault 0 11 := ⟨md_X11_templateFault, mi_X11_templateFault, mv_X11_templateFault, TX11, rfl⟩
theorem vm_X11_define : zVm M_X11_define 1 11 := ⟨md_X11_define, mi_X11_define, mv_X11_define, TX11, rfl⟩
theorem vm_X11_items : zVm M_X11_items 1 11 := ⟨md_X11_items, mi_X11_items, mv_X11_items, TX11, rfl⟩
theorem vm_X11_patternFault : zVm M_X11_patternFault 0 11 := ⟨md_X11_patternFault, mi_X11_patternFault, mv_X11_patternFault, TX11, rfl⟩
theorem vm_X11_matchesAt : zVm M_X11_matchesAt 1 11 := ⟨md_X11_matchesAt, mi_X11_matchesAt, mv_X11_matchesAt, TX11, rfl⟩
theorem vm_X11_find : zVm M_X11_find 1 11 := ⟨md_X11_find, mi_X11_find, mv_X11_find, TX11, rfl⟩
theorem vm_X11_matches : zVm M_X11_matches 0 11 := ⟨md_X11_matches, mi_X11_matches, mv_X11_matches, TX11, rfl⟩
theorem vm_X11_read : zVm M_X11_read 4 11 := ⟨md_X11_read, mi_X11_read, mv_X11_read, TX11, rfl⟩
theorem vm_X11_valueOf : zVm M_X11_valueOf 1 11 := ⟨md_X11_valueOf, mi_X11_valueOf, mv_X11_valueOf, TX11, rfl⟩
theorem vm_X11_lays : zVm M_X11_lays 3 11 := ⟨md_X11_lays, mi_X11_lays, mv_X11_lays, TX11, rfl⟩
theorem vm_X11_countOf : zVm M_X11_countOf 2 11 := ⟨md_X11_countOf, mi_X11_countOf, mv_X11_countOf, TX11, rfl⟩
theorem vm_X11_laysAll : zVm M_X11_laysAll 2 11 := ⟨md_X11_laysAll, mi_X11_laysAll, mv_X11_laysAll, TX11, rfl⟩
theorem vm_X11_aligns : zVm M_X11_aligns 2 11 := ⟨md_X11_aligns, mi_X11_aligns, mv_X11_aligns, TX11, rfl⟩
theorem vm_X11_enters : zVm M_X11_enters 2 11 := ⟨md_X11_enters, mi_X11_enters, mv_X11_enters, TX11, rfl⟩
theorem vm_X11_goesIn : zVm M_X11_goesIn 0 11 := ⟨md_X11_goesIn, mi_X11_goesIn, mv_X11_goesIn, TX11, rfl⟩
theorem vm_X11_passes : zVm M_X11_passes 3 11 := ⟨md_X11_passes, mi_X11_passes, mv_X11_passes, TX11, rfl⟩
theorem vm_X11_laysOut : zVm M_X11_laysOut 1 11 := ⟨md_X11_laysOut, mi_X11_laysOut, mv_X11_laysOut, TX11, rfl⟩
theorem vm_X11_expectedOf : zVm M_X11_expectedOf 1 11 := ⟨md_X11_expectedOf, mi_X11_expectedOf, mv_X11_expectedOf, TX11, rfl⟩
theorem vm_X11_isWrong : zVm M_X11_isWrong 1 11 := ⟨md_X11_isWrong, mi_X11_isWrong, mv_X11_isWrong, TX11, rfl⟩
theorem vm_X11_wrongs : zVm M_X11_wrongs 0 11 := ⟨md_X11_wrongs, mi_X11_wrongs, mv_X11_wrongs, TX11, rfl⟩
theorem vm_X11_puts : zVm M_X11_puts 2 11 := ⟨md_X11_puts, mi_X11_puts, mv_X11_puts, TX11, rfl⟩
theorem vm_X11_rounds : zVm M_X11_rounds 0 11 := ⟨md_X11_rounds, mi_X11_rounds, mv_X11_rounds, TX11, rfl⟩
theorem vm_X11_updates : zVm M_X11_updates 0 11 := ⟨md_X11_updates, mi_X11_updates, mv_X11_updates, TX11, rfl⟩
theorem vm_X11_keeps : zVm M_X11_keeps 0 11 := ⟨md_X11_keeps, mi_X11_keeps, mv_X11_keeps, TX11, rfl⟩
theorem vm_X11_stays : zVm M_X11_stays 1 11 := ⟨md_X11_stays, mi_X11_stays, mv_X11_stays, TX11, rfl⟩
theorem vm_X11_length : zVm M_X11_length 0 11 := ⟨md_X11_length, mi_X11_length, mv_X11_length, TX11, rfl⟩
theorem vm_X11_byteAt : zVm M_X11_byteAt 1 11 := ⟨md_X11_byteAt, mi_X11_byteAt, mv_X11_byteAt, TX11, rfl⟩
theorem vm_X11_opens : zVm M_X11_opens 2 11 := ⟨md_X11_opens, mi_X11_opens, mv_X11_opens, TX11, rfl⟩
theorem vm_X11_insert : zVm M_X11_insert 3 11 := ⟨md_X11_insert, mi_X11_insert, mv_X11_insert, TX11, rfl⟩
theorem vm_X11_delete : zVm M_X11_delete 2 11 := ⟨md_X11_delete, mi_X11_delete, mv_X11_delete, TX11, rfl⟩
theorem vm_X11_overwrite : zVm M_X11_overwrite 2 11 := ⟨md_X11_overwrite, mi_X11_overwrite, mv_X11_overwrite, TX11, rfl⟩
theorem vm_X11_copy : zVm M_X11_copy 2 11 := ⟨md_X11_copy, mi_X11_copy, mv_X11_copy, TX11, rfl⟩
theorem vm_X11_paste : zVm M_X11_paste 1 11 := ⟨md_X11_paste, mi_X11_paste, mv_X11_paste, TX11, rfl⟩
theorem vm_X11_pasteOver : zVm M_X11_pasteOver 1 11 := ⟨md_X11_pasteOver, mi_X11_pasteOver, mv_X11_pasteOver, TX11, rfl⟩
theorem vm_X11_lay : zVm M_X11_lay 3 11 := ⟨md_X11_lay, mi_X11_lay, mv_X11_lay, TX11, rfl⟩
theorem vm_X11_remove : zVm M_X11_remove 1 11 := ⟨md_X11_remove, mi_X11_remove, mv_X11_remove, TX11, rfl⟩
theorem vm_X11_overlay : zVm M_X11_overlay 2 11 := ⟨md_X11_overlay, mi_X11_overlay, mv_X11_overlay, TX11, rfl⟩
theorem vm_X11_hasField : zVm M_X11_hasField 2 11 := ⟨md_X11_hasField, mi_X11_hasField, mv_X11_hasField, TX11, rfl⟩
theorem vm_X11_partOf : zVm M_X11_partOf 2 11 := ⟨md_X11_partOf, mi_X11_partOf, mv_X11_partOf, TX11, rfl⟩
theorem vm_X11_field : zVm M_X11_field 3 11 := ⟨md_X11_field, mi_X11_field, mv_X11_field, TX11, rfl⟩
theorem vm_X11_value : zVm M_X11_value 2 11 := ⟨md_X11_value, mi_X11_value, mv_X11_value, TX11, rfl⟩
theorem vm_X11_path : zVm M_X11_path 3 11 := ⟨md_X11_path, mi_X11_path, mv_X11_path, TX11, rfl⟩
theorem vm_X11_fieldAt : zVm M_X11_fieldAt 2 11 := ⟨md_X11_fieldAt, mi_X11_fieldAt, mv_X11_fieldAt, TX11, rfl⟩
theorem vm_X11_counterpart : zVm M_X11_counterpart 3 11 := ⟨md_X11_counterpart, mi_X11_counterpart, mv_X11_counterpart, TX11, rfl⟩
theorem vm_X11_fits : zVm M_X11_fits 2 11 := ⟨md_X11_fits, mi_X11_fits, mv_X11_fits, TX11, rfl⟩
theorem vm_X11_setField : zVm M_X11_setField 3 11 := ⟨md_X11_setField, mi_X11_setField, mv_X11_setField, TX11, rfl⟩
theorem vm_X11_follow : zVm M_X11_follow 1 11 := ⟨md_X11_follow, mi_X11_follow, mv_X11_follow, TX11, rfl⟩
theorem vm_X11_refresh : zVm M_X11_refresh 0 11 := ⟨md_X11_refresh, mi_X11_refresh, mv_X11_refresh, TX11, rfl⟩
theorem vm_X11_expected : zVm M_X11_expected 2 11 := ⟨md_X11_expected, mi_X11_expected, mv_X11_expected, TX11, rfl⟩
theorem vm_X11_repair : zVm M_X11_repair 2 11 := ⟨md_X11_repair, mi_X11_repair, mv_X11_repair, TX11, rfl⟩
theorem vm_X11_undo : zVm M_X11_undo 0 11 := ⟨md_X11_undo, mi_X11_undo, mv_X11_undo, TX11, rfl⟩
theorem vm_X11_redo : zVm M_X11_redo 0 11 := ⟨md_X11_redo, mi_X11_redo, mv_X11_redo, TX11, rfl⟩
theorem vm_X11_mark : zVm M_X11_mark 0 11 := ⟨md_X11_mark, mi_X11_mark, mv_X11_mark, TX11, rfl⟩
theorem vm_X11_difference : zVm M_X11_difference 1 11 := ⟨md_X11_difference, mi_X11_difference, mv_X11_difference, TX11, rfl⟩
theorem vm_X11_distance : zVm M_X11_distance 0 11 := ⟨md_X11_distance, mi_X11_distance, mv_X11_distance, TX11, rfl⟩
theorem vm_X11_present : zVm M_X11_present 0 11 := ⟨md_X11_present, mi_X11_present, mv_X11_present, TX11, rfl⟩
theorem vm_X11_allWrong : zVm M_X11_allWrong 0 11 := ⟨md_X11_allWrong, mi_X11_allWrong, mv_X11_allWrong, TX11, rfl⟩
theorem vm_X11_count : zVm M_X11_count 1 11 := ⟨md_X11_count, mi_X11_count, mv_X11_count, TX11, rfl⟩
theorem vm_X11_mixes : zVm M_X11_mixes 1 11 := ⟨md_X11_mixes, mi_X11_mixes, mv_X11_mixes, TX11, rfl⟩
theorem vm_X11_mixesOverlay : zVm M_X11_mixesOverlay 1 11 := ⟨md_X11_mixesOverlay, mi_X11_mixesOverlay, mv_X11_mixesOverlay, TX11, rfl⟩
theorem vm_X11_digest : zVm M_X11_digest 0 11 := ⟨md_X11_digest, mi_X11_digest, mv_X11_digest, TX11, rfl⟩
section NAMING
variable {G : zG} {R : Room} {Z : List Frame → Array Value → State → State → Prop} {X : Array Value → State → Prop} {M : zM} {n0 n pc : Nat} {ls : zLs} {st : List zV} {h : zHp}
theorem wq_topI {z : Int} (k : ∀ x : Int, x = z → wq G R Z X M n0 n pc ls (vI x :: st) h) : wq G R Z X M n0 n pc ls (vI z :: st) h := k z rfl
theorem wq_topL {z : Int} (k : ∀ x : Int, x = z → wq G R Z X M n0 n pc ls (vL x :: st) h) : wq G R Z X M n0 n pc ls (vL z :: st) h := k z rfl
theorem wq_topR {z : Nat} (k : ∀ x : Nat, x = z → wq G R Z X M n0 n pc ls (vR x :: st) h) : wq G R Z X M n0 n pc ls (vR z :: st) h := k z rfl
theorem wq_toph (k : ∀ h1 : zHp, h1 = h → wq G R Z X M n0 n pc ls st h1) : wq G R Z X M n0 n pc ls st h := k h rfl
theorem wq_st {st' : List zV} (e : st = st') (k : wq G R Z X M n0 n pc ls st' h) : wq G R Z X M n0 n pc ls st h := e ▸ k
theorem zSh_of {h h1 : zHp} (e : h1 = h) (hS : zSh h) : zSh h1 := e ▸ hS
theorem z_nm {P : Prop} (e : Int) (k : ∀ y : Int, y = e → P) : P := k e rfl
end NAMING
theorem zT_nz {a : Nat} {t : Nat × Nat} (h : zT 369 a = t) (h9 : t.1 ≠ 99) : a ≠ 0 := by have := (zT_at h h9).1; omega
theorem zlt_n {i : Int} {n : Nat} (h0 : 0 ≤ i) (h1 : i < n) : i.toNat < n := by omega
theorem zSh_put {h h1 : zHp} {a j r : Nat} (e : h1 = sR h a j r) (hS : zSh h) (h0 : zshp a j = 0) : zSh h1 := by
  subst e
  intro b k hb
  rw [gR_sR, if_neg, hS b k hb]
  rintro ⟨rfl, rfl⟩
  exact hb h0
theorem zshp_14 (k : Nat) : zshp 14 k = 0 := rfl
theorem zshp_80 (k : Nat) : zshp 80 k = 0 := rfl
theorem zSh_pu_14 {h h1 : zHp} {j r : Nat} (e : h1 = sR h 14 j r) (hS : zSh h) : zSh h1 := zSh_put e hS (zshp_14 j)
theorem zSh_pu_80 {h h1 : zHp} {j r : Nat} (e : h1 = sR h 80 j r) (hS : zSh h) : zSh h1 := zSh_put e hS (zshp_80 j)
theorem zlen_all : ∀ a, a < 370 → (zTAU a).2 ≤ 2556 := by decide +kernel
theorem zlen_le (a : Nat) : zlen a ≤ 2147483647 := by
  unfold zlen
  by_cases h : 369 < a
  · rw [zTAU_out h]; exact Nat.zero_le _
  · exact Nat.le_trans (zlen_all a (by omega)) (by omega)
theorem zrm_f {d : Nat} (h : 1 ≤ d) : 1 ≤ (zRm d 369 369).frames := h
theorem zrm_l {d : Nat} (h : 1 ≤ d) : 99 ≤ (zRm d 369 369).locals := by show 99 ≤ 100 * d; omega
end
section
theorem dX0_has_0 : decode cX0_has 0 = .ok (.iload_n 1, 1) := by decide +kernel
theorem dX0_has_1 : decode cX0_has 1 = .ok (.ifCond .lt 15, 3) := by decide +kernel
theorem dX0_has_4 : decode cX0_has 4 = .ok (.iload_n 1, 1) := by decide +kernel
theorem dX0_has_5 : decode cX0_has 5 = .ok (.aload_n 0, 1) := by decide +kernel
theorem dX0_has_6 : decode cX0_has 6 = .ok (.getfield 21, 3) := by decide +kernel
theorem dX0_has_9 : decode cX0_has 9 = .ok (.if_icmp .ge 7, 3) := by decide +kernel
theorem dX0_has_12 : decode cX0_has 12 = .ok (.iconst 1, 1) := by decide +kernel
theorem dX0_has_13 : decode cX0_has 13 = .ok (.goto 4, 3) := by decide +kernel
theorem dX0_has_16 : decode cX0_has 16 = .ok (.iconst 0, 1) := by decide +kernel
theorem dX0_has_17 : decode cX0_has 17 = .ok (.ireturn, 1) := by decide +kernel
theorem vc_X0_has_0 {G : zG} {d : Nat} {Q : Option zV → zHp → Prop} (a : Nat) (hT_a : zT 369 a = (100, 2)) (p1 : Int) (h : zHp) (hS : zSh h) (hd : 0 ≤ d)  
    (hv : ((p1 < 0 → Q (some (vI 0)) h) ∧ (0 ≤ p1 → (((gI h a 1) ≤ p1 → Q (some (vI 0)) h) ∧ (p1 < (gI h a 1) → Q (some (vI 1)) h))))) : wpN G d M_X0_has 0 [(0, vR a), (1, vI p1)] [] h Q := by
  refine wq_iload_n 1 rfl rfl dX0_has_0 ?_
  refine wq_if_lt 16 rfl dX0_has_1 (fun c1 => ?_) (fun c1 => ?_)
  · refine wq_iconst (z := 0) (zlit rfl) dX0_has_16 ?_
    exact wp_zret (Or.inl rfl) rfl dX0_has_17 (hv.1 c1)
  · refine wq_iload_n 1 rfl rfl dX0_has_4 ?_
    refine wq_aload_n 0 rfl rfl dX0_has_5 ?_
    refine wq_getI fk_X0_21 hT_a (fun _ _ _ => rfl) dX0_has_6 ?_
    refine wq_icmp_ge 16 rfl dX0_has_9 (fun c2 => ?_) (fun c2 => ?_)
    · refine wq_iconst (z := 0) (zlit rfl) dX0_has_16 ?_
      exact wp_zret (Or.inl rfl) rfl dX0_has_17 ((hv.2 c1).1 c2)
    · refine wq_iconst (z := 1) (zlit rfl) dX0_has_12 ?_
      refine wq_goto 17 rfl dX0_has_13 ?_
      exact wp_zret (Or.inr rfl) rfl dX0_has_17 ((hv.2 c1).2 c2)
theorem dX0_get_0 : decode cX0_get 0 = .ok (.iload_n 1, 1) := by decide +kernel
theorem dX0_get_1 : decode cX0_get 1 = .ok (.ifCond .lt 20, 3) := by decide +kernel
theorem dX0_get_4 : decode cX0_get 4 = .ok (.iload_n 1, 1) := by decide +kernel
theorem dX0_get_5 : decode cX0_get 5 = .ok (.aload_n 0, 1) := by decide +kernel
theorem dX0_get_6 : decode cX0_get 6 = .ok (.getfield 21, 3) := by decide +kernel
theorem dX0_get_9 : decode cX0_get 9 = .ok (.if_icmp .ge 12, 3) := by decide +kernel
theorem dX0_get_12 : decode cX0_get 12 = .ok (.aload_n 0, 1) := by decide +kernel
theorem dX0_get_13 : decode cX0_get 13 = .ok (.getfield 15, 3) := by decide +kernel
theorem dX0_get_16 : decode cX0_get 16 = .ok (.iload_n 1, 1) := by decide +kernel
theorem dX0_get_17 : decode cX0_get 17 = .ok (.iaload, 1) := by decide +kernel
theorem dX0_get_18 : decode cX0_get 18 = .ok (.goto 4, 3) := by decide +kernel
theorem dX0_get_21 : decode cX0_get 21 = .ok (.iconst (-1), 1) := by decide +kernel
theorem dX0_get_22 : decode cX0_get 22 = .ok (.ireturn, 1) := by decide +kernel
theorem vc_X0_get_0 {G : zG} {d : Nat} {Q : Option zV → zHp → Prop} (a : Nat) (hT_a : zT 369 a = (100, 2)) (p1 : Int) (h : zHp) (hS : zSh h) (hd : 0 ≤ d)  
    (hv : ((p1 < 0 → Q (some (vI (-1))) h) ∧ (0 ≤ p1 → (((gI h a 1) ≤ p1 → Q (some (vI (-1))) h) ∧ (p1 < (gI h a 1) → (((0 : Int) ≤ p1 ∧ p1 < (((zlen (a + 1)) : Nat) : Int)) ∧ Q (some (vI (gI h (a + 1) p1.toNat))) h)))))) : wpN G d M_X0_get 0 [(0, vR a), (1, vI p1)] [] h Q := by
  refine wq_iload_n 1 rfl rfl dX0_get_0 ?_
  refine wq_if_lt 21 rfl dX0_get_1 (fun c1 => ?_) (fun c1 => ?_)
  · refine wq_iconst (z := -1) (zlit rfl) dX0_get_21 ?_
    exact wp_iret rfl dX0_get_22 (hv.1 c1)
  · refine wq_iload_n 1 rfl rfl dX0_get_4 ?_
    refine wq_aload_n 0 rfl rfl dX0_get_5 ?_
    refine wq_getI fk_X0_21 hT_a (fun _ _ _ => rfl) dX0_get_6 ?_
    refine wq_icmp_ge 21 rfl dX0_get_9 (fun c2 => ?_) (fun c2 => ?_)
    · refine wq_iconst (z := -1) (zlit rfl) dX0_get_21 ?_
      exact wp_iret rfl dX0_get_22 ((hv.2 c1).1 c2)
    · refine wq_aload_n 0 rfl rfl dX0_get_12 ?_
      refine wq_getR (r := (a + 1)) fk_X0_15 hT_a (fun _ _ _ => rfl) (sh_0_0 hS hT_a) (by omega) dX0_get_13 ?_
      refine wq_iload_n 1 rfl rfl dX0_get_16 ?_
      refine wq_iald (zrow1 hT_a) ((hv.2 c1).2 c2).1.1 ((hv.2 c1).2 c2).1.2 dX0_get_17 ?_
      refine wq_goto 22 rfl dX0_get_18 ?_
      exact wp_iret rfl dX0_get_22 ((hv.2 c1).2 c2).2
theorem dX0_put_0 : decode cX0_put 0 = .ok (.iload_n 1, 1) := by decide +kernel
theorem dX0_put_1 : decode cX0_put 1 = .ok (.ifCond .lt 18, 3) := by decide +kernel
theorem dX0_put_4 : decode cX0_put 4 = .ok (.iload_n 1, 1) := by decide +kernel
theorem dX0_put_5 : decode cX0_put 5 = .ok (.aload_n 0, 1) := by decide +kernel
theorem dX0_put_6 : decode cX0_put 6 = .ok (.getfield 21, 3) := by decide +kernel
theorem dX0_put_9 : decode cX0_put 9 = .ok (.if_icmp .ge 10, 3) := by decide +kernel
theorem dX0_put_12 : decode cX0_put 12 = .ok (.aload_n 0, 1) := by decide +kernel
theorem dX0_put_13 : decode cX0_put 13 = .ok (.getfield 15, 3) := by decide +kernel
theorem dX0_put_16 : decode cX0_put 16 = .ok (.iload_n 1, 1) := by decide +kernel
theorem dX0_put_17 : decode cX0_put 17 = .ok (.iload_n 2, 1) := by decide +kernel
theorem dX0_put_18 : decode cX0_put 18 = .ok (.iastore, 1) := by decide +kernel
theorem dX0_put_19 : decode cX0_put 19 = .ok (.return_, 1) := by decide +kernel
theorem vc_X0_put_0 {G : zG} {d : Nat} {Q : Option zV → zHp → Prop} (a : Nat) (hT_a : zT 369 a = (100, 2)) (p1 : Int) (p2 : Int) (h : zHp) (hS : zSh h) (hd : 0 ≤ d)  
    (hv : ((p1 < 0 → Q none h) ∧ (0 ≤ p1 → (((gI h a 1) ≤ p1 → Q none h) ∧ (p1 < (gI h a 1) → (((0 : Int) ≤ p1 ∧ p1 < (((zlen (a + 1)) : Nat) : Int)) ∧ (∀ h3 : zHp, h3 = sI h (a + 1) p1.toNat p2 → Q none h3))))))) : wpN G d M_X0_put 0 [(0, vR a), (1, vI p1), (2, vI p2)] [] h Q := by
  refine wq_iload_n 1 rfl rfl dX0_put_0 ?_
  refine wq_if_lt 19 rfl dX0_put_1 (fun c1 => ?_) (fun c1 => ?_)
  · exact wp_vret rfl dX0_put_19 (hv.1 c1)
  · refine wq_iload_n 1 rfl rfl dX0_put_4 ?_
    refine wq_aload_n 0 rfl rfl dX0_put_5 ?_
    refine wq_getI fk_X0_21 hT_a (fun _ _ _ => rfl) dX0_put_6 ?_
    refine wq_icmp_ge 19 rfl dX0_put_9 (fun c2 => ?_) (fun c2 => ?_)
    · exact wp_vret rfl dX0_put_19 ((hv.2 c1).1 c2)
    · refine wq_aload_n 0 rfl rfl dX0_put_12 ?_
      refine wq_getR (r := (a + 1)) fk_X0_15 hT_a (fun _ _ _ => rfl) (sh_0_0 hS hT_a) (by omega) dX0_put_13 ?_
      refine wq_iload_n 1 rfl rfl dX0_put_16 ?_
      refine wq_iload_n 2 rfl rfl dX0_put_17 ?_
      refine wq_iast (zrow1 hT_a) ((hv.2 c1).2 c2).1.1 ((hv.2 c1).2 c2).1.2 dX0_put_18 ?_
      refine wq_toph (fun h3 e4 => ?_)
      exact wp_vret rfl dX0_put_19 (((hv.2 c1).2 c2).2 h3 e4)
theorem dX0_putAll_0 : decode cX0_putAll 0 = .ok (.iconst 0, 1) := by decide +kernel
theorem dX0_putAll_1 : decode cX0_putAll 1 = .ok (.istore_n 3, 1) := by decide +kernel
theorem dX0_putAll_2 : decode cX0_putAll 2 = .ok (.iload_n 3, 1) := by decide +kernel
theorem dX0_putAll_3 : decode cX0_putAll 3 = .ok (.aload_n 2, 1) := by decide +kernel
theorem dX0_putAll_4 : decode cX0_putAll 4 = .ok (.getfield 21, 3) := by decide +kernel
theorem dX0_putAll_7 : decode cX0_putAll 7 = .ok (.if_icmp .ge 21, 3) := by decide +kernel
theorem dX0_putAll_10 : decode cX0_putAll 10 = .ok (.aload_n 0, 1) := by decide +kernel
theorem dX0_putAll_11 : decode cX0_putAll 11 = .ok (.iload_n 1, 1) := by decide +kernel
theorem dX0_putAll_12 : decode cX0_putAll 12 = .ok (.iload_n 3, 1) := by decide +kernel
theorem dX0_putAll_13 : decode cX0_putAll 13 = .ok (.iadd, 1) := by decide +kernel
theorem dX0_putAll_14 : decode cX0_putAll 14 = .ok (.aload_n 2, 1) := by decide +kernel
theorem dX0_putAll_15 : decode cX0_putAll 15 = .ok (.iload_n 3, 1) := by decide +kernel
theorem dX0_putAll_16 : decode cX0_putAll 16 = .ok (.invokevirtual 25, 3) := by decide +kernel
theorem dX0_putAll_19 : decode cX0_putAll 19 = .ok (.invokevirtual 29, 3) := by decide +kernel
theorem dX0_putAll_22 : decode cX0_putAll 22 = .ok (.iinc 3 1, 3) := by decide +kernel
theorem dX0_putAll_25 : decode cX0_putAll 25 = .ok (.goto (-23), 3) := by decide +kernel
theorem dX0_putAll_28 : decode cX0_putAll 28 = .ok (.return_, 1) := by decide +kernel
theorem vc_X0_putAll_0 {G : zG} {d : Nat} {Q : Option zV → zHp → Prop} (a : Nat) (hT_a : zT 369 a = (100, 2)) (p1 : Int) (p2 : Nat) (hT_p2 : zT 369 p2 = (100, 2)) (h : zHp) (hS : zSh h) (hd : 1 ≤ d) (I_2 : Nat → Int → Nat → Int → zHp → Prop) (hI_2 : ∀ (y0 : Nat) (y1 : Int) (y2 : Nat) (y3 : Int) (h' : zHp), I_2 y0 y1 y2 y3 h' → wpN G d M_X0_putAll 2 [(0, vR y0), (1, vI y1), (2, vR y2), (3, vI y3)] [] h' Q) 
    (hv : (zSh h → I_2 a p1 p2 0 h)) : wpN G d M_X0_putAll 0 [(0, vR a), (1, vI p1), (2, vR p2)] [] h Q := by
  refine wq_iconst (z := 0) (zlit rfl) dX0_putAll_0 ?_
  refine wq_istore_n (ls' := [(0, vR a), (1, vI p1), (2, vR p2), (3, vI 0)]) rfl (by decide) rfl dX0_putAll_1 ?_
  exact wq_pick [0, 1, 2, 3] rfl (hI_2 a p1 p2 0 h (hv hS))
theorem vc_X0_putAll_2 {G : zG} {d : Nat} {Q : Option zV → zHp → Prop} (y0 : Nat) (hT_y0 : zT 369 y0 = (100, 2)) (y1 : Int) (y2 : Nat) (hT_y2 : zT 369 y2 = (100, 2)) (y3 : Int) (h : zHp) (hS : zSh h) (hd : 1 ≤ d) (I_2 : Nat → Int → Nat → Int → zHp → Prop) (hI_2 : ∀ (y0 : Nat) (y1 : Int) (y2 : Nat) (y3 : Int) (h' : zHp), I_2 y0 y1 y2 y3 h' → wpN G d M_X0_putAll 2 [(0, vR y0), (1, vI y1), (2, vR y2), (3, vI y3)] [] h' Q) 
    (hv : (((gI h y2 1) ≤ y3 → Q none h) ∧ (y3 < (gI h y2 1) → ((-2147483648 ≤ y1 + y3 ∧ y1 + y3 ≤ 2147483647) ∧ (wpN G (d - 1) M_X0_get 0 (zar 0 [vR y2, vI y3]) [] h (qI (fun z2 h3 => zSh h3 ∧ (wpN G (d - 1) M_X0_put 0 (zar 0 [vR y0, vI (y1 + y3), vI z2]) [] h3 (qV (fun h7 => zSh h7 ∧ ((-2147483648 ≤ y3 + 1 ∧ y3 + 1 ≤ 2147483647) ∧ ∀ x10 : Int, x10 = y3 + 1 → (zSh h7 → I_2 y0 y1 y2 x10 h7)))))))))))) : wpN G d M_X0_putAll 2 [(0, vR y0), (1, vI y1), (2, vR y2), (3, vI y3)] [] h Q := by
  refine wq_iload_n 3 rfl rfl dX0_putAll_2 ?_
  refine wq_aload_n 2 rfl rfl dX0_putAll_3 ?_
  refine wq_getI fk_X0_21 hT_y2 (fun _ _ _ => rfl) dX0_putAll_4 ?_
  refine wq_icmp_ge 28 rfl dX0_putAll_7 (fun c1 => ?_) (fun c1 => ?_)
  · exact wp_vret rfl dX0_putAll_28 (hv.1 c1)
  · refine wq_aload_n 0 rfl rfl dX0_putAll_10 ?_
    refine wq_iload_n 1 rfl rfl dX0_putAll_11 ?_
    refine wq_iload_n 3 rfl rfl dX0_putAll_12 ?_
    refine wq_iadd (hv.2 c1).1 dX0_putAll_13 ?_
    refine wq_aload_n 2 rfl rfl dX0_putAll_14 ?_
    refine wq_iload_n 3 rfl rfl dX0_putAll_15 ?_
    refine wN_V (As := [vI y3]) vm_X0_get lk_X0_25 hT_y2 rfl rfl (Nat.le_of_ble_eq_true rfl) (Nat.le_of_ble_eq_true rfl) (d' := d - 1) (by omega) dX0_putAll_16 (hv.2 c1).2 (fun v9 h3 q4 => ?_)
    obtain ⟨z2, rfl, hS5, q4⟩ := q4
    refine wq_st (st' := [vI z2, vI (y1 + y3), vR y0]) rfl ?_
    refine wN_V (As := [vI (y1 + y3), vI z2]) vm_X0_put lk_X0_29 hT_y0 rfl rfl (Nat.le_of_ble_eq_true rfl) (Nat.le_of_ble_eq_true rfl) (d' := d - 1) (by omega) dX0_putAll_19 q4 (fun v9 h7 q8 => ?_)
    obtain ⟨rfl, hS9, q8⟩ := q8
    refine wq_st (st' := []) rfl ?_
    refine z_nm (y3 + 1) (fun x10 e11 => ?_)
    refine wq_iinc (y := x10) (ls' := [(0, vR y0), (1, vI y1), (2, vR y2), (3, vI x10)]) 3 rfl e11.symm (by rw [e11]; exact q8.1) (by decide) rfl dX0_putAll_22 ?_
    refine wq_goto 2 rfl dX0_putAll_25 ?_
    exact wq_pick [0, 1, 2, 3] rfl (hI_2 y0 y1 y2 x10 h7 ((q8.2 x10 e11) hS9))
theorem dX0_append_0 : decode cX0_append 0 = .ok (.aload_n 0, 1) := by decide +kernel
theorem dX0_append_1 : decode cX0_append 1 = .ok (.getfield 21, 3) := by decide +kernel
theorem dX0_append_4 : decode cX0_append 4 = .ok (.aload_n 0, 1) := by decide +kernel
theorem dX0_append_5 : decode cX0_append 5 = .ok (.getfield 15, 3) := by decide +kernel
theorem dX0_append_8 : decode cX0_append 8 = .ok (.arraylength, 1) := by decide +kernel
theorem dX0_append_9 : decode cX0_append 9 = .ok (.if_icmp .lt 5, 3) := by decide +kernel
theorem dX0_append_12 : decode cX0_append 12 = .ok (.iconst 0, 1) := by decide +kernel
theorem dX0_append_13 : decode cX0_append 13 = .ok (.ireturn, 1) := by decide +kernel
theorem dX0_append_14 : decode cX0_append 14 = .ok (.aload_n 0, 1) := by decide +kernel
theorem dX0_append_15 : decode cX0_append 15 = .ok (.getfield 15, 3) := by decide +kernel
theorem dX0_append_18 : decode cX0_append 18 = .ok (.aload_n 0, 1) := by decide +kernel
theorem dX0_append_19 : decode cX0_append 19 = .ok (.getfield 21, 3) := by decide +kernel
theorem dX0_append_22 : decode cX0_append 22 = .ok (.iload_n 1, 1) := by decide +kernel
theorem dX0_append_23 : decode cX0_append 23 = .ok (.iastore, 1) := by decide +kernel
theorem dX0_append_24 : decode cX0_append 24 = .ok (.aload_n 0, 1) := by decide +kernel
theorem dX0_append_25 : decode cX0_append 25 = .ok (.dup, 1) := by decide +kernel
theorem dX0_append_26 : decode cX0_append 26 = .ok (.getfield 21, 3) := by decide +kernel
theorem dX0_append_29 : decode cX0_append 29 = .ok (.iconst 1, 1) := by decide +kernel
theorem dX0_append_30 : decode cX0_append 30 = .ok (.iadd, 1) := by decide +kernel
theorem dX0_append_31 : decode cX0_append 31 = .ok (.putfield 21, 3) := by decide +kernel
theorem dX0_append_34 : decode cX0_append 34 = .ok (.iconst 1, 1) := by decide +kernel
theorem dX0_append_35 : decode cX0_append 35 = .ok (.ireturn, 1) := by decide +kernel
theorem vc_X0_append_0 {G : zG} {d : Nat} {Q : Option zV → zHp → Prop} (a : Nat) (hT_a : zT 369 a = (100, 2)) (p1 : Int) (h : zHp) (hS : zSh h) (hd : 0 ≤ d)  
    (hv : (((gI h a 1) < (((zlen (a + 1)) : Nat) : Int) → (((0 : Int) ≤ (gI h a 1) ∧ (gI h a 1) < (((zlen (a + 1)) : Nat) : Int)) ∧ (∀ h2 : zHp, h2 = sI h (a + 1) (gI h a 1).toNat p1 → ((-2147483648 ≤ (gI h2 a 1) + 1 ∧ (gI h2 a 1) + 1 ≤ 2147483647) ∧ (∀ h4 : zHp, h4 = sI h2 a 1 ((gI h2 a 1) + 1) → Q (some (vI 1)) h4))))) ∧ ((((zlen (a + 1)) : Nat) : Int) ≤ (gI h a 1) → Q (some (vI 0)) h))) : wpN G d M_X0_append 0 [(0, vR a), (1, vI p1)] [] h Q := by
  refine wq_aload_n 0 rfl rfl dX0_append_0 ?_
  refine wq_getI fk_X0_21 hT_a (fun _ _ _ => rfl) dX0_append_1 ?_
  refine wq_aload_n 0 rfl rfl dX0_append_4 ?_
  refine wq_getR (r := (a + 1)) fk_X0_15 hT_a (fun _ _ _ => rfl) (sh_0_0 hS hT_a) (by omega) dX0_append_5 ?_
  refine wq_alen (zrow1 hT_a) (by decide) (zlen_le _) dX0_append_8 ?_
  refine wq_icmp_lt 14 rfl dX0_append_9 (fun c1 => ?_) (fun c1 => ?_)
  · refine wq_aload_n 0 rfl rfl dX0_append_14 ?_
    refine wq_getR (r := (a + 1)) fk_X0_15 hT_a (fun _ _ _ => rfl) (sh_0_0 hS hT_a) (by omega) dX0_append_15 ?_
    refine wq_aload_n 0 rfl rfl dX0_append_18 ?_
    refine wq_getI fk_X0_21 hT_a (fun _ _ _ => rfl) dX0_append_19 ?_
    refine wq_iload_n 1 rfl rfl dX0_append_22 ?_
    refine wq_iast (zrow1 hT_a) (hv.1 c1).1.1 (hv.1 c1).1.2 dX0_append_23 ?_
    refine wq_toph (fun h2 e3 => ?_)
    refine wq_aload_n 0 rfl rfl dX0_append_24 ?_
    refine wq_dup rfl dX0_append_25 ?_
    refine wq_getI fk_X0_21 hT_a (fun _ _ _ => rfl) dX0_append_26 ?_
    refine wq_iconst (z := 1) (zlit rfl) dX0_append_29 ?_
    refine wq_iadd ((hv.1 c1).2 h2 e3).1 dX0_append_30 ?_
    refine wq_putI fk_X0_21 hT_a rfl rfl dX0_append_31 ?_
    refine wq_toph (fun h4 e5 => ?_)
    refine wq_iconst (z := 1) (zlit rfl) dX0_append_34 ?_
    exact wp_zret (Or.inr rfl) rfl dX0_append_35 (((hv.1 c1).2 h2 e3).2 h4 e5)
  · refine wq_iconst (z := 0) (zlit rfl) dX0_append_12 ?_
    exact wp_zret (Or.inl rfl) rfl dX0_append_13 (hv.2 c1)
theorem dX0_become_0 : decode cX0_become 0 = .ok (.iload_n 2, 1) := by decide +kernel
theorem dX0_become_1 : decode cX0_become 1 = .ok (.ifCond .lt 26, 3) := by decide +kernel
theorem dX0_become_4 : decode cX0_become 4 = .ok (.iload_n 3, 1) := by decide +kernel
theorem dX0_become_5 : decode cX0_become 5 = .ok (.ifCond .lt 22, 3) := by decide +kernel
theorem dX0_become_8 : decode cX0_become 8 = .ok (.iload_n 3, 1) := by decide +kernel
theorem dX0_become_9 : decode cX0_become 9 = .ok (.aload_n 1, 1) := by decide +kernel
theorem dX0_become_10 : decode cX0_become 10 = .ok (.getfield 21, 3) := by decide +kernel
theorem dX0_become_13 : decode cX0_become 13 = .ok (.iload_n 2, 1) := by decide +kernel
theorem dX0_become_14 : decode cX0_become 14 = .ok (.isub, 1) := by decide +kernel
theorem dX0_become_15 : decode cX0_become 15 = .ok (.if_icmp .gt 12, 3) := by decide +kernel
theorem dX0_become_18 : decode cX0_become 18 = .ok (.iload_n 3, 1) := by decide +kernel
theorem dX0_become_19 : decode cX0_become 19 = .ok (.aload_n 0, 1) := by decide +kernel
theorem dX0_become_20 : decode cX0_become 20 = .ok (.getfield 15, 3) := by decide +kernel
theorem dX0_become_23 : decode cX0_become 23 = .ok (.arraylength, 1) := by decide +kernel
theorem dX0_become_24 : decode cX0_become 24 = .ok (.if_icmp .le 4, 3) := by decide +kernel
theorem dX0_become_27 : decode cX0_become 27 = .ok (.return_, 1) := by decide +kernel
theorem dX0_become_28 : decode cX0_become 28 = .ok (.aload_n 1, 1) := by decide +kernel
theorem dX0_become_29 : decode cX0_become 29 = .ok (.getfield 15, 3) := by decide +kernel
theorem dX0_become_32 : decode cX0_become 32 = .ok (.iload_n 2, 1) := by decide +kernel
theorem dX0_become_33 : decode cX0_become 33 = .ok (.aload_n 0, 1) := by decide +kernel
theorem dX0_become_34 : decode cX0_become 34 = .ok (.getfield 15, 3) := by decide +kernel
theorem dX0_become_37 : decode cX0_become 37 = .ok (.iconst 0, 1) := by decide +kernel
theorem dX0_become_38 : decode cX0_become 38 = .ok (.iload_n 3, 1) := by decide +kernel
theorem dX0_become_39 : decode cX0_become 39 = .ok (.invokestatic 33, 3) := by decide +kernel
theorem dX0_become_42 : decode cX0_become 42 = .ok (.aload_n 0, 1) := by decide +kernel
theorem dX0_become_43 : decode cX0_become 43 = .ok (.iload_n 3, 1) := by decide +kernel
theorem dX0_become_44 : decode cX0_become 44 = .ok (.putfield 21, 3) := by decide +kernel
theorem dX0_become_47 : decode cX0_become 47 = .ok (.return_, 1) := by decide +kernel
theorem vc_X0_become_0 {G : zG} {d : Nat} {Q : Option zV → zHp → Prop} (a : Nat) (hT_a : zT 369 a = (100, 2)) (p1 : Nat) (hT_p1 : zT 369 p1 = (100, 2)) (p2 : Int) (p3 : Int) (h : zHp) (hS : zSh h) (hd : 1 ≤ d)  
    (hv : ((p2 < 0 → Q none h) ∧ (0 ≤ p2 → ((p3 < 0 → Q none h) ∧ (0 ≤ p3 → ((-2147483648 ≤ (gI h p1 1) - p2 ∧ (gI h p1 1) - p2 ≤ 2147483647) ∧ ((((gI h p1 1) - p2) < p3 → Q none h) ∧ (p3 ≤ ((gI h p1 1) - p2) → ((p3 ≤ (((zlen (a + 1)) : Nat) : Int) → (((0 : Int) ≤ p2 ∧ (0 : Int) ≤ 0 ∧ (0 : Int) ≤ p3 ∧ p2 + p3 ≤ (((zlen (p1 + 1)) : Nat) : Int) ∧ 0 + p3 ≤ (((zlen (a + 1)) : Nat) : Int)) ∧ ∀ h5 : zHp, h5 = cpI h (p1 + 1) p2.toNat (a + 1) 0 p3.toNat → (∀ h7 : zHp, h7 = sI h5 a 1 p3 → Q none h7))) ∧ ((((zlen (a + 1)) : Nat) : Int) < p3 → Q none h)))))))))) : wpN G d M_X0_become 0 [(0, vR a), (1, vR p1), (2, vI p2), (3, vI p3)] [] h Q := by
  refine wq_iload_n 2 rfl rfl dX0_become_0 ?_
  refine wq_if_lt 27 rfl dX0_become_1 (fun c1 => ?_) (fun c1 => ?_)
  · exact wp_vret rfl dX0_become_27 (hv.1 c1)
  · refine wq_iload_n 3 rfl rfl dX0_become_4 ?_
    refine wq_if_lt 27 rfl dX0_become_5 (fun c2 => ?_) (fun c2 => ?_)
    · exact wp_vret rfl dX0_become_27 ((hv.2 c1).1 c2)
    · refine wq_iload_n 3 rfl rfl dX0_become_8 ?_
      refine wq_aload_n 1 rfl rfl dX0_become_9 ?_
      refine wq_getI fk_X0_21 hT_p1 (fun _ _ _ => rfl) dX0_become_10 ?_
      refine wq_iload_n 2 rfl rfl dX0_become_13 ?_
      refine wq_isub ((hv.2 c1).2 c2).1 dX0_become_14 ?_
      refine wq_icmp_gt 27 rfl dX0_become_15 (fun c3 => ?_) (fun c3 => ?_)
      · exact wp_vret rfl dX0_become_27 (((hv.2 c1).2 c2).2.1 c3)
      · refine wq_iload_n 3 rfl rfl dX0_become_18 ?_
        refine wq_aload_n 0 rfl rfl dX0_become_19 ?_
        refine wq_getR (r := (a + 1)) fk_X0_15 hT_a (fun _ _ _ => rfl) (sh_0_0 hS hT_a) (by omega) dX0_become_20 ?_
        refine wq_alen (zrow1 hT_a) (by decide) (zlen_le _) dX0_become_23 ?_
        refine wq_icmp_le 28 rfl dX0_become_24 (fun c4 => ?_) (fun c4 => ?_)
        · refine wq_aload_n 1 rfl rfl dX0_become_28 ?_
          refine wq_getR (r := (p1 + 1)) fk_X0_15 hT_p1 (fun _ _ _ => rfl) (sh_0_0 hS hT_p1) (by omega) dX0_become_29 ?_
          refine wq_iload_n 2 rfl rfl dX0_become_32 ?_
          refine wq_aload_n 0 rfl rfl dX0_become_33 ?_
          refine wq_getR (r := (a + 1)) fk_X0_15 hT_a (fun _ _ _ => rfl) (sh_0_0 hS hT_a) (by omega) dX0_become_34 ?_
          refine wq_iconst (z := 0) (zlit rfl) dX0_become_37 ?_
          refine wq_iload_n 3 rfl rfl dX0_become_38 ?_
          refine wq_copyI lk_X0_33 ac_n ac_s ac_i (zrow1 hT_p1) (zrow1 hT_a) ((((hv.2 c1).2 c2).2.2 c3).1 c4).1.1 ((((hv.2 c1).2 c2).2.2 c3).1 c4).1.2.1 ((((hv.2 c1).2 c2).2.2 c3).1 c4).1.2.2.1 ((((hv.2 c1).2 c2).2.2 c3).1 c4).1.2.2.2.1 ((((hv.2 c1).2 c2).2.2 c3).1 c4).1.2.2.2.2 (zrm_f (by omega)) (zrm_l (by omega)) (Nat.le_of_ble_eq_true rfl) dX0_become_39 ?_
          refine wq_toph (fun h5 e6 => ?_)
          refine wq_aload_n 0 rfl rfl dX0_become_42 ?_
          refine wq_iload_n 3 rfl rfl dX0_become_43 ?_
          refine wq_putI fk_X0_21 hT_a rfl rfl dX0_become_44 ?_
          refine wq_toph (fun h7 e8 => ?_)
          exact wp_vret rfl dX0_become_47 ((((((hv.2 c1).2 c2).2.2 c3).1 c4).2 h5 e6) h7 e8)
        · exact wp_vret rfl dX0_become_27 ((((hv.2 c1).2 c2).2.2 c3).2 c4)
theorem dX0_openGap_0 : decode cX0_openGap 0 = .ok (.iload_n 1, 1) := by decide +kernel
theorem dX0_openGap_1 : decode cX0_openGap 1 = .ok (.ifCond .lt 29, 3) := by decide +kernel
theorem dX0_openGap_4 : decode cX0_openGap 4 = .ok (.iload_n 1, 1) := by decide +kernel
theorem dX0_openGap_5 : decode cX0_openGap 5 = .ok (.aload_n 0, 1) := by decide +kernel
theorem dX0_openGap_6 : decode cX0_openGap 6 = .ok (.getfield 21, 3) := by decide +kernel
theorem dX0_openGap_9 : decode cX0_openGap 9 = .ok (.if_icmp .gt 21, 3) := by decide +kernel
theorem dX0_openGap_12 : decode cX0_openGap 12 = .ok (.iload_n 2, 1) := by decide +kernel
theorem dX0_openGap_13 : decode cX0_openGap 13 = .ok (.ifCond .lt 17, 3) := by decide +kernel
theorem dX0_openGap_16 : decode cX0_openGap 16 = .ok (.iload_n 2, 1) := by decide +kernel
theorem dX0_openGap_17 : decode cX0_openGap 17 = .ok (.aload_n 0, 1) := by decide +kernel
theorem dX0_openGap_18 : decode cX0_openGap 18 = .ok (.getfield 15, 3) := by decide +kernel
theorem dX0_openGap_21 : decode cX0_openGap 21 = .ok (.arraylength, 1) := by decide +kernel
theorem dX0_openGap_22 : decode cX0_openGap 22 = .ok (.aload_n 0, 1) := by decide +kernel
theorem dX0_openGap_23 : decode cX0_openGap 23 = .ok (.getfield 21, 3) := by decide +kernel
theorem dX0_openGap_26 : decode cX0_openGap 26 = .ok (.isub, 1) := by decide +kernel
theorem dX0_openGap_27 : decode cX0_openGap 27 = .ok (.if_icmp .le 4, 3) := by decide +kernel
theorem dX0_openGap_30 : decode cX0_openGap 30 = .ok (.return_, 1) := by decide +kernel
theorem dX0_openGap_31 : decode cX0_openGap 31 = .ok (.aload_n 0, 1) := by decide +kernel
theorem dX0_openGap_32 : decode cX0_openGap 32 = .ok (.getfield 15, 3) := by decide +kernel
theorem dX0_openGap_35 : decode cX0_openGap 35 = .ok (.iload_n 1, 1) := by decide +kernel
theorem dX0_openGap_36 : decode cX0_openGap 36 = .ok (.aload_n 0, 1) := by decide +kernel
theorem dX0_openGap_37 : decode cX0_openGap 37 = .ok (.getfield 15, 3) := by decide +kernel
theorem dX0_openGap_40 : decode cX0_openGap 40 = .ok (.iload_n 1, 1) := by decide +kernel
theorem dX0_openGap_41 : decode cX0_openGap 41 = .ok (.iload_n 2, 1) := by decide +kernel
theorem dX0_openGap_42 : decode cX0_openGap 42 = .ok (.iadd, 1) := by decide +kernel
theorem dX0_openGap_43 : decode cX0_openGap 43 = .ok (.aload_n 0, 1) := by decide +kernel
theorem dX0_openGap_44 : decode cX0_openGap 44 = .ok (.getfield 21, 3) := by decide +kernel
theorem dX0_openGap_47 : decode cX0_openGap 47 = .ok (.iload_n 1, 1) := by decide +kernel
theorem dX0_openGap_48 : decode cX0_openGap 48 = .ok (.isub, 1) := by decide +kernel
theorem dX0_openGap_49 : decode cX0_openGap 49 = .ok (.invokestatic 33, 3) := by decide +kernel
theorem dX0_openGap_52 : decode cX0_openGap 52 = .ok (.aload_n 0, 1) := by decide +kernel
theorem dX0_openGap_53 : decode cX0_openGap 53 = .ok (.dup, 1) := by decide +kernel
theorem dX0_openGap_54 : decode cX0_openGap 54 = .ok (.getfield 21, 3) := by decide +kernel
theorem dX0_openGap_57 : decode cX0_openGap 57 = .ok (.iload_n 2, 1) := by decide +kernel
theorem dX0_openGap_58 : decode cX0_openGap 58 = .ok (.iadd, 1) := by decide +kernel
theorem dX0_openGap_59 : decode cX0_openGap 59 = .ok (.putfield 21, 3) := by decide +kernel
theorem dX0_openGap_62 : decode cX0_openGap 62 = .ok (.return_, 1) := by decide +kernel
theorem vc_X0_openGap_0 {G : zG} {d : Nat} {Q : Option zV → zHp → Prop} (a : Nat) (hT_a : zT 369 a = (100, 2)) (p1 : Int) (p2 : Int) (h : zHp) (hS : zSh h) (hd : 1 ≤ d)  
    (hv : ((p1 < 0 → Q none h) ∧ (0 ≤ p1 → (((gI h a 1) < p1 → Q none h) ∧ (p1 ≤ (gI h a 1) → ((p2 < 0 → Q none h) ∧ (0 ≤ p2 → ((-2147483648 ≤ (((zlen (a + 1)) : Nat) : Int) - (gI h a 1) ∧ (((zlen (a + 1)) : Nat) : Int) - (gI h a 1) ≤ 2147483647) ∧ ((p2 ≤ ((((zlen (a + 1)) : Nat) : Int) - (gI h a 1)) → ((-2147483648 ≤ p1 + p2 ∧ p1 + p2 ≤ 2147483647) ∧ ((-2147483648 ≤ (gI h a 1) - p1 ∧ (gI h a 1) - p1 ≤ 2147483647) ∧ (((0 : Int) ≤ p1 ∧ (0 : Int) ≤ (p1 + p2) ∧ (0 : Int) ≤ ((gI h a 1) - p1) ∧ p1 + ((gI h a 1) - p1) ≤ (((zlen (a + 1)) : Nat) : Int) ∧ (p1 + p2) + ((gI h a 1) - p1) ≤ (((zlen (a + 1)) : Nat) : Int)) ∧ ∀ h5 : zHp, h5 = cpI h (a + 1) p1.toNat (a + 1) (p1 + p2).toNat ((gI h a 1) - p1).toNat → ((-2147483648 ≤ (gI h5 a 1) + p2 ∧ (gI h5 a 1) + p2 ≤ 2147483647) ∧ (∀ h7 : zHp, h7 = sI h5 a 1 ((gI h5 a 1) + p2) → Q none h7)))))) ∧ (((((zlen (a + 1)) : Nat) : Int) - (gI h a 1)) < p2 → Q none h)))))))))) : wpN G d M_X0_openGap 0 [(0, vR a), (1, vI p1), (2, vI p2)] [] h Q := by
  refine wq_iload_n 1 rfl rfl dX0_openGap_0 ?_
  refine wq_if_lt 30 rfl dX0_openGap_1 (fun c1 => ?_) (fun c1 => ?_)
  · exact wp_vret rfl dX0_openGap_30 (hv.1 c1)
  · refine wq_iload_n 1 rfl rfl dX0_openGap_4 ?_
    refine wq_aload_n 0 rfl rfl dX0_openGap_5 ?_
    refine wq_getI fk_X0_21 hT_a (fun _ _ _ => rfl) dX0_openGap_6 ?_
    refine wq_icmp_gt 30 rfl dX0_openGap_9 (fun c2 => ?_) (fun c2 => ?_)
    · exact wp_vret rfl dX0_openGap_30 ((hv.2 c1).1 c2)
    · refine wq_iload_n 2 rfl rfl dX0_openGap_12 ?_
      refine wq_if_lt 30 rfl dX0_openGap_13 (fun c3 => ?_) (fun c3 => ?_)
      · exact wp_vret rfl dX0_openGap_30 (((hv.2 c1).2 c2).1 c3)
      · refine wq_iload_n 2 rfl rfl dX0_openGap_16 ?_
        refine wq_aload_n 0 rfl rfl dX0_openGap_17 ?_
        refine wq_getR (r := (a + 1)) fk_X0_15 hT_a (fun _ _ _ => rfl) (sh_0_0 hS hT_a) (by omega) dX0_openGap_18 ?_
        refine wq_alen (zrow1 hT_a) (by decide) (zlen_le _) dX0_openGap_21 ?_
        refine wq_aload_n 0 rfl rfl dX0_openGap_22 ?_
        refine wq_getI fk_X0_21 hT_a (fun _ _ _ => rfl) dX0_openGap_23 ?_
        refine wq_isub (((hv.2 c1).2 c2).2 c3).1 dX0_openGap_26 ?_
        refine wq_icmp_le 31 rfl dX0_openGap_27 (fun c4 => ?_) (fun c4 => ?_)
        · refine wq_aload_n 0 rfl rfl dX0_openGap_31 ?_
          refine wq_getR (r := (a + 1)) fk_X0_15 hT_a (fun _ _ _ => rfl) (sh_0_0 hS hT_a) (by omega) dX0_openGap_32 ?_
          refine wq_iload_n 1 rfl rfl dX0_openGap_35 ?_
          refine wq_aload_n 0 rfl rfl dX0_openGap_36 ?_
          refine wq_getR (r := (a + 1)) fk_X0_15 hT_a (fun _ _ _ => rfl) (sh_0_0 hS hT_a) (by omega) dX0_openGap_37 ?_
          refine wq_iload_n 1 rfl rfl dX0_openGap_40 ?_
          refine wq_iload_n 2 rfl rfl dX0_openGap_41 ?_
          refine wq_iadd ((((hv.2 c1).2 c2).2 c3).2.1 c4).1 dX0_openGap_42 ?_
          refine wq_aload_n 0 rfl rfl dX0_openGap_43 ?_
          refine wq_getI fk_X0_21 hT_a (fun _ _ _ => rfl) dX0_openGap_44 ?_
          refine wq_iload_n 1 rfl rfl dX0_openGap_47 ?_
          refine wq_isub ((((hv.2 c1).2 c2).2 c3).2.1 c4).2.1 dX0_openGap_48 ?_
          refine wq_copyI lk_X0_33 ac_n ac_s ac_i (zrow1 hT_a) (zrow1 hT_a) ((((hv.2 c1).2 c2).2 c3).2.1 c4).2.2.1.1 ((((hv.2 c1).2 c2).2 c3).2.1 c4).2.2.1.2.1 ((((hv.2 c1).2 c2).2 c3).2.1 c4).2.2.1.2.2.1 ((((hv.2 c1).2 c2).2 c3).2.1 c4).2.2.1.2.2.2.1 ((((hv.2 c1).2 c2).2 c3).2.1 c4).2.2.1.2.2.2.2 (zrm_f (by omega)) (zrm_l (by omega)) (Nat.le_of_ble_eq_true rfl) dX0_openGap_49 ?_
          refine wq_toph (fun h5 e6 => ?_)
          refine wq_aload_n 0 rfl rfl dX0_openGap_52 ?_
          refine wq_dup rfl dX0_openGap_53 ?_
          refine wq_getI fk_X0_21 hT_a (fun _ _ _ => rfl) dX0_openGap_54 ?_
          refine wq_iload_n 2 rfl rfl dX0_openGap_57 ?_
          refine wq_iadd (((((hv.2 c1).2 c2).2 c3).2.1 c4).2.2.2 h5 e6).1 dX0_openGap_58 ?_
          refine wq_putI fk_X0_21 hT_a rfl rfl dX0_openGap_59 ?_
          refine wq_toph (fun h7 e8 => ?_)
          exact wp_vret rfl dX0_openGap_62 ((((((hv.2 c1).2 c2).2 c3).2.1 c4).2.2.2 h5 e6).2 h7 e8)
        · exact wp_vret rfl dX0_openGap_30 ((((hv.2 c1).2 c2).2 c3).2.2 c4)
theorem dX0_closeGap_0 : decode cX0_closeGap 0 = .ok (.iload_n 1, 1) := by decide +kernel
theorem dX0_closeGap_1 : decode cX0_closeGap 1 = .ok (.ifCond .lt 25, 3) := by decide +kernel
theorem dX0_closeGap_4 : decode cX0_closeGap 4 = .ok (.iload_n 1, 1) := by decide +kernel
theorem dX0_closeGap_5 : decode cX0_closeGap 5 = .ok (.aload_n 0, 1) := by decide +kernel
theorem dX0_closeGap_6 : decode cX0_closeGap 6 = .ok (.getfield 21, 3) := by decide +kernel
theorem dX0_closeGap_9 : decode cX0_closeGap 9 = .ok (.if_icmp .gt 17, 3) := by decide +kernel
theorem dX0_closeGap_12 : decode cX0_closeGap 12 = .ok (.iload_n 2, 1) := by decide +kernel
theorem dX0_closeGap_13 : decode cX0_closeGap 13 = .ok (.ifCond .lt 13, 3) := by decide +kernel
theorem dX0_closeGap_16 : decode cX0_closeGap 16 = .ok (.iload_n 2, 1) := by decide +kernel
theorem dX0_closeGap_17 : decode cX0_closeGap 17 = .ok (.aload_n 0, 1) := by decide +kernel
theorem dX0_closeGap_18 : decode cX0_closeGap 18 = .ok (.getfield 21, 3) := by decide +kernel
theorem dX0_closeGap_21 : decode cX0_closeGap 21 = .ok (.iload_n 1, 1) := by decide +kernel
theorem dX0_closeGap_22 : decode cX0_closeGap 22 = .ok (.isub, 1) := by decide +kernel
theorem dX0_closeGap_23 : decode cX0_closeGap 23 = .ok (.if_icmp .le 4, 3) := by decide +kernel
theorem dX0_closeGap_26 : decode cX0_closeGap 26 = .ok (.return_, 1) := by decide +kernel
theorem dX0_closeGap_27 : decode cX0_closeGap 27 = .ok (.aload_n 0, 1) := by decide +kernel
theorem dX0_closeGap_28 : decode cX0_closeGap 28 = .ok (.getfield 15, 3) := by decide +kernel
theorem dX0_closeGap_31 : decode cX0_closeGap 31 = .ok (.iload_n 1, 1) := by decide +kernel
theorem dX0_closeGap_32 : decode cX0_closeGap 32 = .ok (.iload_n 2, 1) := by decide +kernel
theorem dX0_closeGap_33 : decode cX0_closeGap 33 = .ok (.iadd, 1) := by decide +kernel
theorem dX0_closeGap_34 : decode cX0_closeGap 34 = .ok (.aload_n 0, 1) := by decide +kernel
theorem dX0_closeGap_35 : decode cX0_closeGap 35 = .ok (.getfield 15, 3) := by decide +kernel
theorem dX0_closeGap_38 : decode cX0_closeGap 38 = .ok (.iload_n 1, 1) := by decide +kernel
theorem dX0_closeGap_39 : decode cX0_closeGap 39 = .ok (.aload_n 0, 1) := by decide +kernel
theorem dX0_closeGap_40 : decode cX0_closeGap 40 = .ok (.getfield 21, 3) := by decide +kernel
theorem dX0_closeGap_43 : decode cX0_closeGap 43 = .ok (.iload_n 1, 1) := by decide +kernel
theorem dX0_closeGap_44 : decode cX0_closeGap 44 = .ok (.isub, 1) := by decide +kernel
theorem dX0_closeGap_45 : decode cX0_closeGap 45 = .ok (.iload_n 2, 1) := by decide +kernel
theorem dX0_closeGap_46 : decode cX0_closeGap 46 = .ok (.isub, 1) := by decide +kernel
theorem dX0_closeGap_47 : decode cX0_closeGap 47 = .ok (.invokestatic 33, 3) := by decide +kernel
theorem dX0_closeGap_50 : decode cX0_closeGap 50 = .ok (.aload_n 0, 1) := by decide +kernel
theorem dX0_closeGap_51 : decode cX0_closeGap 51 = .ok (.dup, 1) := by decide +kernel
theorem dX0_closeGap_52 : decode cX0_closeGap 52 = .ok (.getfield 21, 3) := by decide +kernel
theorem dX0_closeGap_55 : decode cX0_closeGap 55 = .ok (.iload_n 2, 1) := by decide +kernel
theorem dX0_closeGap_56 : decode cX0_closeGap 56 = .ok (.isub, 1) := by decide +kernel
theorem dX0_closeGap_57 : decode cX0_closeGap 57 = .ok (.putfield 21, 3) := by decide +kernel
theorem dX0_closeGap_60 : decode cX0_closeGap 60 = .ok (.return_, 1) := by decide +kernel
theorem vc_X0_closeGap_0 {G : zG} {d : Nat} {Q : Option zV → zHp → Prop} (a : Nat) (hT_a : zT 369 a = (100, 2)) (p1 : Int) (p2 : Int) (h : zHp) (hS : zSh h) (hd : 1 ≤ d)  
    (hv : ((p1 < 0 → Q none h) ∧ (0 ≤ p1 → (((gI h a 1) < p1 → Q none h) ∧ (p1 ≤ (gI h a 1) → ((p2 < 0 → Q none h) ∧ (0 ≤ p2 → ((-2147483648 ≤ (gI h a 1) - p1 ∧ (gI h a 1) - p1 ≤ 2147483647) ∧ ((p2 ≤ ((gI h a 1) - p1) → ((-2147483648 ≤ p1 + p2 ∧ p1 + p2 ≤ 2147483647) ∧ ((-2147483648 ≤ (gI h a 1) - p1 ∧ (gI h a 1) - p1 ≤ 2147483647) ∧ ((-2147483648 ≤ ((gI h a 1) - p1) - p2 ∧ ((gI h a 1) - p1) - p2 ≤ 2147483647) ∧ (((0 : Int) ≤ (p1 + p2) ∧ (0 : Int) ≤ p1 ∧ (0 : Int) ≤ (((gI h a 1) - p1) - p2) ∧ (p1 + p2) + (((gI h a 1) - p1) - p2) ≤ (((zlen (a + 1)) : Nat) : Int) ∧ p1 + (((gI h a 1) - p1) - p2) ≤ (((zlen (a + 1)) : Nat) : Int)) ∧ ∀ h5 : zHp, h5 = cpI h (a + 1) (p1 + p2).toNat (a + 1) p1.toNat (((gI h a 1) - p1) - p2).toNat → ((-2147483648 ≤ (gI h5 a 1) - p2 ∧ (gI h5 a 1) - p2 ≤ 2147483647) ∧ (∀ h7 : zHp, h7 = sI h5 a 1 ((gI h5 a 1) - p2) → Q none h7))))))) ∧ (((gI h a 1) - p1) < p2 → Q none h)))))))))) : wpN G d M_X0_closeGap 0 [(0, vR a), (1, vI p1), (2, vI p2)] [] h Q := by
  refine wq_iload_n 1 rfl rfl dX0_closeGap_0 ?_
  refine wq_if_lt 26 rfl dX0_closeGap_1 (fun c1 => ?_) (fun c1 => ?_)
  · exact wp_vret rfl dX0_closeGap_26 (hv.1 c1)
  · refine wq_iload_n 1 rfl rfl dX0_closeGap_4 ?_
    refine wq_aload_n 0 rfl rfl dX0_closeGap_5 ?_
    refine wq_getI fk_X0_21 hT_a (fun _ _ _ => rfl) dX0_closeGap_6 ?_
    refine wq_icmp_gt 26 rfl dX0_closeGap_9 (fun c2 => ?_) (fun c2 => ?_)
    · exact wp_vret rfl dX0_closeGap_26 ((hv.2 c1).1 c2)
    · refine wq_iload_n 2 rfl rfl dX0_closeGap_12 ?_
      refine wq_if_lt 26 rfl dX0_closeGap_13 (fun c3 => ?_) (fun c3 => ?_)
      · exact wp_vret rfl dX0_closeGap_26 (((hv.2 c1).2 c2).1 c3)
      · refine wq_iload_n 2 rfl rfl dX0_closeGap_16 ?_
        refine wq_aload_n 0 rfl rfl dX0_closeGap_17 ?_
        refine wq_getI fk_X0_21 hT_a (fun _ _ _ => rfl) dX0_closeGap_18 ?_
        refine wq_iload_n 1 rfl rfl dX0_closeGap_21 ?_
        refine wq_isub (((hv.2 c1).2 c2).2 c3).1 dX0_closeGap_22 ?_
        refine wq_icmp_le 27 rfl dX0_closeGap_23 (fun c4 => ?_) (fun c4 => ?_)
        · refine wq_aload_n 0 rfl rfl dX0_closeGap_27 ?_
          refine wq_getR (r := (a + 1)) fk_X0_15 hT_a (fun _ _ _ => rfl) (sh_0_0 hS hT_a) (by omega) dX0_closeGap_28 ?_
          refine wq_iload_n 1 rfl rfl dX0_closeGap_31 ?_
          refine wq_iload_n 2 rfl rfl dX0_closeGap_32 ?_
          refine wq_iadd ((((hv.2 c1).2 c2).2 c3).2.1 c4).1 dX0_closeGap_33 ?_
          refine wq_aload_n 0 rfl rfl dX0_closeGap_34 ?_
          refine wq_getR (r := (a + 1)) fk_X0_15 hT_a (fun _ _ _ => rfl) (sh_0_0 hS hT_a) (by omega) dX0_closeGap_35 ?_
          refine wq_iload_n 1 rfl rfl dX0_closeGap_38 ?_
          refine wq_aload_n 0 rfl rfl dX0_closeGap_39 ?_
          refine wq_getI fk_X0_21 hT_a (fun _ _ _ => rfl) dX0_closeGap_40 ?_
          refine wq_iload_n 1 rfl rfl dX0_closeGap_43 ?_
          refine wq_isub ((((hv.2 c1).2 c2).2 c3).2.1 c4).2.1 dX0_closeGap_44 ?_
          refine wq_iload_n 2 rfl rfl dX0_closeGap_45 ?_
          refine wq_isub ((((hv.2 c1).2 c2).2 c3).2.1 c4).2.2.1 dX0_closeGap_46 ?_
          refine wq_copyI lk_X0_33 ac_n ac_s ac_i (zrow1 hT_a) (zrow1 hT_a) ((((hv.2 c1).2 c2).2 c3).2.1 c4).2.2.2.1.1 ((((hv.2 c1).2 c2).2 c3).2.1 c4).2.2.2.1.2.1 ((((hv.2 c1).2 c2).2 c3).2.1 c4).2.2.2.1.2.2.1 ((((hv.2 c1).2 c2).2 c3).2.1 c4).2.2.2.1.2.2.2.1 ((((hv.2 c1).2 c2).2 c3).2.1 c4).2.2.2.1.2.2.2.2 (zrm_f (by omega)) (zrm_l (by omega)) (Nat.le_of_ble_eq_true rfl) dX0_closeGap_47 ?_
          refine wq_toph (fun h5 e6 => ?_)
          refine wq_aload_n 0 rfl rfl dX0_closeGap_50 ?_
          refine wq_dup rfl dX0_closeGap_51 ?_
          refine wq_getI fk_X0_21 hT_a (fun _ _ _ => rfl) dX0_closeGap_52 ?_
          refine wq_iload_n 2 rfl rfl dX0_closeGap_55 ?_
          refine wq_isub (((((hv.2 c1).2 c2).2 c3).2.1 c4).2.2.2.2 h5 e6).1 dX0_closeGap_56 ?_
          refine wq_putI fk_X0_21 hT_a rfl rfl dX0_closeGap_57 ?_
          refine wq_toph (fun h7 e8 => ?_)
          exact wp_vret rfl dX0_closeGap_60 ((((((hv.2 c1).2 c2).2 c3).2.1 c4).2.2.2.2 h5 e6).2 h7 e8)
        · exact wp_vret rfl dX0_closeGap_26 ((((hv.2 c1).2 c2).2 c3).2.2 c4)
theorem dX0_read_0 : decode cX0_read 0 = .ok (.aload_n 1, 1) := by decide +kernel
theorem dX0_read_1 : decode cX0_read 1 = .ok (.getfield 39, 3) := by decide +kernel
theorem dX0_read_4 : decode cX0_read 4 = .ok (.ifCond .lt 19, 3) := by decide +kernel
theorem dX0_read_7 : decode cX0_read 7 = .ok (.aload_n 1, 1) := by decide +kernel
theorem dX0_read_8 : decode cX0_read 8 = .ok (.getfield 44, 3) := by decide +kernel
theorem dX0_read_11 : decode cX0_read 11 = .ok (.aload_n 0, 1) := by decide +kernel
theorem dX0_read_12 : decode cX0_read 12 = .ok (.getfield 21, 3) := by decide +kernel
theorem dX0_read_15 : decode cX0_read 15 = .ok (.aload_n 1, 1) := by decide +kernel
theorem dX0_read_16 : decode cX0_read 16 = .ok (.getfield 39, 3) := by decide +kernel
theorem dX0_read_19 : decode cX0_read 19 = .ok (.isub, 1) := by decide +kernel
theorem dX0_read_20 : decode cX0_read 20 = .ok (.if_icmp .le 5, 3) := by decide +kernel
theorem dX0_read_23 : decode cX0_read 23 = .ok (.lconst 0, 1) := by decide +kernel
theorem dX0_read_24 : decode cX0_read 24 = .ok (.lreturn, 1) := by decide +kernel
theorem dX0_read_25 : decode cX0_read 25 = .ok (.lconst 0, 1) := by decide +kernel
theorem dX0_read_26 : decode cX0_read 26 = .ok (.lstore_n 2, 1) := by decide +kernel
theorem dX0_read_27 : decode cX0_read 27 = .ok (.iconst 0, 1) := by decide +kernel
theorem dX0_read_28 : decode cX0_read 28 = .ok (.istore 4, 2) := by decide +kernel
theorem dX0_read_30 : decode cX0_read 30 = .ok (.iload 4, 2) := by decide +kernel
theorem dX0_read_32 : decode cX0_read 32 = .ok (.aload_n 1, 1) := by decide +kernel
theorem dX0_read_33 : decode cX0_read 33 = .ok (.getfield 44, 3) := by decide +kernel
theorem dX0_read_36 : decode cX0_read 36 = .ok (.if_icmp .ge 52, 3) := by decide +kernel
theorem dX0_read_39 : decode cX0_read 39 = .ok (.aload_n 1, 1) := by decide +kernel
theorem dX0_read_40 : decode cX0_read 40 = .ok (.getfield 45, 3) := by decide +kernel
theorem dX0_read_43 : decode cX0_read 43 = .ok (.ifCond .eq 15, 3) := by decide +kernel
theorem dX0_read_46 : decode cX0_read 46 = .ok (.aload_n 1, 1) := by decide +kernel
theorem dX0_read_47 : decode cX0_read 47 = .ok (.getfield 44, 3) := by decide +kernel
theorem dX0_read_50 : decode cX0_read 50 = .ok (.iconst 1, 1) := by decide +kernel
theorem dX0_read_51 : decode cX0_read 51 = .ok (.isub, 1) := by decide +kernel
theorem dX0_read_52 : decode cX0_read 52 = .ok (.iload 4, 2) := by decide +kernel
theorem dX0_read_54 : decode cX0_read 54 = .ok (.isub, 1) := by decide +kernel
theorem dX0_read_55 : decode cX0_read 55 = .ok (.goto 5, 3) := by decide +kernel
theorem dX0_read_58 : decode cX0_read 58 = .ok (.iload 4, 2) := by decide +kernel
theorem dX0_read_60 : decode cX0_read 60 = .ok (.istore 5, 2) := by decide +kernel
theorem dX0_read_62 : decode cX0_read 62 = .ok (.ldc2_w 49, 3) := by decide +kernel
theorem dX0_read_65 : decode cX0_read 65 = .ok (.lload_n 2, 1) := by decide +kernel
theorem dX0_read_66 : decode cX0_read 66 = .ok (.lmul, 1) := by decide +kernel
theorem dX0_read_67 : decode cX0_read 67 = .ok (.aload_n 0, 1) := by decide +kernel
theorem dX0_read_68 : decode cX0_read 68 = .ok (.getfield 15, 3) := by decide +kernel
theorem dX0_read_71 : decode cX0_read 71 = .ok (.aload_n 1, 1) := by decide +kernel
theorem dX0_read_72 : decode cX0_read 72 = .ok (.getfield 39, 3) := by decide +kernel
theorem dX0_read_75 : decode cX0_read 75 = .ok (.iload 5, 2) := by decide +kernel
theorem dX0_read_77 : decode cX0_read 77 = .ok (.iadd, 1) := by decide +kernel
theorem dX0_read_78 : decode cX0_read 78 = .ok (.iaload, 1) := by decide +kernel
theorem dX0_read_79 : decode cX0_read 79 = .ok (.i2l, 1) := by decide +kernel
theorem dX0_read_80 : decode cX0_read 80 = .ok (.ladd, 1) := by decide +kernel
theorem dX0_read_81 : decode cX0_read 81 = .ok (.lstore_n 2, 1) := by decide +kernel
theorem dX0_read_82 : decode cX0_read 82 = .ok (.iinc 4 1, 3) := by decide +kernel
theorem dX0_read_85 : decode cX0_read 85 = .ok (.goto (-55), 3) := by decide +kernel
theorem dX0_read_88 : decode cX0_read 88 = .ok (.lconst 1, 1) := by decide +kernel
theorem dX0_read_89 : decode cX0_read 89 = .ok (.bipush 8, 2) := by decide +kernel
theorem dX0_read_91 : decode cX0_read 91 = .ok (.aload_n 1, 1) := by decide +kernel
theorem dX0_read_92 : decode cX0_read 92 = .ok (.getfield 44, 3) := by decide +kernel
theorem dX0_read_95 : decode cX0_read 95 = .ok (.imul, 1) := by decide +kernel
theorem dX0_read_96 : decode cX0_read 96 = .ok (.lshl, 1) := by decide +kernel
theorem dX0_read_97 : decode cX0_read 97 = .ok (.lstore 4, 2) := by decide +kernel
theorem dX0_read_99 : decode cX0_read 99 = .ok (.aload_n 1, 1) := by decide +kernel
theorem dX0_read_100 : decode cX0_read 100 = .ok (.getfield 51, 3) := by decide +kernel
theorem dX0_read_103 : decode cX0_read 103 = .ok (.iconst 1, 1) := by decide +kernel
theorem dX0_read_104 : decode cX0_read 104 = .ok (.if_icmp .ne 21, 3) := by decide +kernel
theorem dX0_read_107 : decode cX0_read 107 = .ok (.lload_n 2, 1) := by decide +kernel
theorem dX0_read_108 : decode cX0_read 108 = .ok (.lload 4, 2) := by decide +kernel
theorem dX0_read_110 : decode cX0_read 110 = .ok (.ldc2_w 56, 3) := by decide +kernel
theorem dX0_read_113 : decode cX0_read 113 = .ok (.ldiv, 1) := by decide +kernel
theorem dX0_read_114 : decode cX0_read 114 = .ok (.lcmp, 1) := by decide +kernel
theorem dX0_read_115 : decode cX0_read 115 = .ok (.ifCond .lt 10, 3) := by decide +kernel
theorem dX0_read_118 : decode cX0_read 118 = .ok (.lload_n 2, 1) := by decide +kernel
theorem dX0_read_119 : decode cX0_read 119 = .ok (.lload 4, 2) := by decide +kernel
theorem dX0_read_121 : decode cX0_read 121 = .ok (.lsub, 1) := by decide +kernel
theorem dX0_read_122 : decode cX0_read 122 = .ok (.goto 4, 3) := by decide +kernel
theorem dX0_read_125 : decode cX0_read 125 = .ok (.lload_n 2, 1) := by decide +kernel
theorem dX0_read_126 : decode cX0_read 126 = .ok (.lreturn, 1) := by decide +kernel
theorem vc_X0_read_0 {G : zG} {d : Nat} {Q : Option zV → zHp → Prop} (a : Nat) (hT_a : zT 369 a = (100, 2)) (p1 : Nat) (hT_p1 : zT 369 p1 = (103, 8)) (h : zHp) (hS : zSh h) (hd : 0 ≤ d) (I_30 : Nat → Nat → Int → Int → zHp → Prop) (hI_30 : ∀ (y0 : Nat) (y1 : Nat) (y2 : Int) (y4 : Int) (h' : zHp), I_30 y0 y1 y2 y4 h' → wpN G d M_X0_read 30 [(0, vR y0), (1, vR y1), (2, vL y2), (4, vI y4)] [] h' Q) 
    (hv : (((gI h p1 0) < 0 → Q (some (vL 0)) h) ∧ (0 ≤ (gI h p1 0) → ((-2147483648 ≤ (gI h a 1) - (gI h p1 0) ∧ (gI h a 1) - (gI h p1 0) ≤ 2147483647) ∧ (((gI h p1 1) ≤ ((gI h a 1) - (gI h p1 0)) → (zSh h → I_30 a p1 0 0 h)) ∧ (((gI h a 1) - (gI h p1 0)) < (gI h p1 1) → Q (some (vL 0)) h)))))) : wpN G d M_X0_read 0 [(0, vR a), (1, vR p1)] [] h Q := by
  refine wq_aload_n 1 rfl rfl dX0_read_0 ?_
  refine wq_getI fk_X0_39 hT_p1 (fun _ _ _ => rfl) dX0_read_1 ?_
  refine wq_if_lt 23 rfl dX0_read_4 (fun c1 => ?_) (fun c1 => ?_)
  · refine wq_lconst (z := 0) (zlitL rfl) rfl dX0_read_23 ?_
    exact wp_lret rfl dX0_read_24 (hv.1 c1)
  · refine wq_aload_n 1 rfl rfl dX0_read_7 ?_
    refine wq_getI fk_X0_44 hT_p1 (fun _ _ _ => rfl) dX0_read_8 ?_
    refine wq_aload_n 0 rfl rfl dX0_read_11 ?_
    refine wq_getI fk_X0_21 hT_a (fun _ _ _ => rfl) dX0_read_12 ?_
    refine wq_aload_n 1 rfl rfl dX0_read_15 ?_
    refine wq_getI fk_X0_39 hT_p1 (fun _ _ _ => rfl) dX0_read_16 ?_
    refine wq_isub (hv.2 c1).1 dX0_read_19 ?_
    refine wq_icmp_le 25 rfl dX0_read_20 (fun c2 => ?_) (fun c2 => ?_)
    · refine wq_lconst (z := 0) (zlitL rfl) rfl dX0_read_25 ?_
      refine wq_lstore_n (ls' := [(0, vR a), (1, vR p1), (2, vL 0)]) rfl (by decide) rfl dX0_read_26 ?_
      refine wq_iconst (z := 0) (zlit rfl) dX0_read_27 ?_
      refine wq_istore (ls' := [(0, vR a), (1, vR p1), (2, vL 0), (4, vI 0)]) (by decide) rfl dX0_read_28 ?_
      exact wq_pick [0, 1, 2, 3] rfl (hI_30 a p1 0 0 h (((hv.2 c1).2.1 c2) hS))
    · refine wq_lconst (z := 0) (zlitL rfl) rfl dX0_read_23 ?_
      exact wp_lret rfl dX0_read_24 ((hv.2 c1).2.2 c2)
theorem vc_X0_read_30 {G : zG} {d : Nat} {Q : Option zV → zHp → Prop} (y0 : Nat) (hT_y0 : zT 369 y0 = (100, 2)) (y1 : Nat) (hT_y1 : zT 369 y1 = (103, 8)) (y2 : Int) (y4 : Int) (h : zHp) (hS : zSh h) (hd : 0 ≤ d) (I_30 : Nat → Nat → Int → Int → zHp → Prop) (hI_30 : ∀ (y0 : Nat) (y1 : Nat) (y2 : Int) (y4 : Int) (h' : zHp), I_30 y0 y1 y2 y4 h' → wpN G d M_X0_read 30 [(0, vR y0), (1, vR y1), (2, vL y2), (4, vI y4)] [] h' Q) 
    (hv : (((gI h y1 1) ≤ y4 → ((-2147483648 ≤ 8 * (gI h y1 1) ∧ 8 * (gI h y1 1) ≤ 2147483647) ∧ (∀ x2 : Int, x2 = (zshl 1 (8 * (gI h y1 1))) → (((gI h y1 2) ≠ 1 → Q (some (vL y2)) h) ∧ ((gI h y1 2) = 1 → ((y2 < (x2.tdiv 2) → Q (some (vL y2)) h) ∧ ((x2.tdiv 2) ≤ y2 → ((-9223372036854775808 ≤ y2 - x2 ∧ y2 - x2 ≤ 9223372036854775807) ∧ Q (some (vL (y2 - x2))) h)))))))) ∧ (y4 < (gI h y1 1) → (((gI h y1 3) = 0 → ((-9223372036854775808 ≤ 256 * y2 ∧ 256 * y2 ≤ 9223372036854775807) ∧ ((-2147483648 ≤ (gI h y1 0) + y4 ∧ (gI h y1 0) + y4 ≤ 2147483647) ∧ (((0 : Int) ≤ ((gI h y1 0) + y4) ∧ ((gI h y1 0) + y4) < (((zlen (y0 + 1)) : Nat) : Int)) ∧ ((-9223372036854775808 ≤ (256 * y2) + (gI h (y0 + 1) ((gI h y1 0) + y4).toNat) ∧ (256 * y2) + (gI h (y0 + 1) ((gI h y1 0) + y4).toNat) ≤ 9223372036854775807) ∧ (∀ x7 : Int, x7 = ((256 * y2) + (gI h (y0 + 1) ((gI h y1 0) + y4).toNat)) → ((-2147483648 ≤ y4 + 1 ∧ y4 + 1 ≤ 2147483647) ∧ ∀ x9 : Int, x9 = y4 + 1 → (zSh h → I_30 y0 y1 x7 x9 h)))))))) ∧ ((gI h y1 3) ≠ 0 → ((-2147483648 ≤ (gI h y1 1) - 1 ∧ (gI h y1 1) - 1 ≤ 2147483647) ∧ ((-2147483648 ≤ ((gI h y1 1) - 1) - y4 ∧ ((gI h y1 1) - 1) - y4 ≤ 2147483647) ∧ (∀ x11 : Int, x11 = (((gI h y1 1) - 1) - y4) → ((-9223372036854775808 ≤ 256 * y2 ∧ 256 * y2 ≤ 9223372036854775807) ∧ ((-2147483648 ≤ (gI h y1 0) + x11 ∧ (gI h y1 0) + x11 ≤ 2147483647) ∧ (((0 : Int) ≤ ((gI h y1 0) + x11) ∧ ((gI h y1 0) + x11) < (((zlen (y0 + 1)) : Nat) : Int)) ∧ ((-9223372036854775808 ≤ (256 * y2) + (gI h (y0 + 1) ((gI h y1 0) + x11).toNat) ∧ (256 * y2) + (gI h (y0 + 1) ((gI h y1 0) + x11).toNat) ≤ 9223372036854775807) ∧ (∀ x13 : Int, x13 = ((256 * y2) + (gI h (y0 + 1) ((gI h y1 0) + x11).toNat)) → ((-2147483648 ≤ y4 + 1 ∧ y4 + 1 ≤ 2147483647) ∧ ∀ x15 : Int, x15 = y4 + 1 → (zSh h → I_30 y0 y1 x13 x15 h))))))))))))))) : wpN G d M_X0_read 30 [(0, vR y0), (1, vR y1), (2, vL y2), (4, vI y4)] [] h Q := by
  refine wq_iload 3 rfl dX0_read_30 ?_
  refine wq_aload_n 1 rfl rfl dX0_read_32 ?_
  refine wq_getI fk_X0_44 hT_y1 (fun _ _ _ => rfl) dX0_read_33 ?_
  refine wq_icmp_ge 88 rfl dX0_read_36 (fun c1 => ?_) (fun c1 => ?_)
  · refine wq_lconst (z := 1) (zlitL rfl) rfl dX0_read_88 ?_
    refine wq_bipush (z := 8) (zlit rfl) rfl dX0_read_89 ?_
    refine wq_aload_n 1 rfl rfl dX0_read_91 ?_
    refine wq_getI fk_X0_44 hT_y1 (fun _ _ _ => rfl) dX0_read_92 ?_
    refine wq_imul (hv.1 c1).1 dX0_read_95 ?_
    refine wq_lshl dX0_read_96 ?_
    refine wq_topL (fun x2 e3 => ?_)
    refine wq_lstore (ls' := [(0, vR y0), (1, vR y1), (2, vL y2), (4, vL x2)]) (by decide) rfl dX0_read_97 ?_
    refine wq_aload_n 1 rfl rfl dX0_read_99 ?_
    refine wq_getI fk_X0_51 hT_y1 (fun _ _ _ => rfl) dX0_read_100 ?_
    refine wq_iconst (z := 1) (zlit rfl) dX0_read_103 ?_
    refine wq_icmp_ne 125 rfl dX0_read_104 (fun c4 => ?_) (fun c4 => ?_)
    · refine wq_lload_n 2 rfl rfl dX0_read_125 ?_
      exact wp_lret rfl dX0_read_126 (((hv.1 c1).2 x2 e3).1 c4)
    · refine wq_lload_n 2 rfl rfl dX0_read_107 ?_
      refine wq_lload 3 rfl dX0_read_108 ?_
      refine wq_ldc2_w (z := 2) (zlitL rfl) kc_X0_56 dX0_read_110 ?_
      refine wq_ldiv (by decide) dX0_read_113 ?_
      refine wq_lcmp_lt 125 rfl dX0_read_114 dX0_read_115 (fun c5 => ?_) (fun c5 => ?_)
      · refine wq_lload_n 2 rfl rfl dX0_read_125 ?_
        exact wp_lret rfl dX0_read_126 ((((hv.1 c1).2 x2 e3).2 c4).1 c5)
      · refine wq_lload_n 2 rfl rfl dX0_read_118 ?_
        refine wq_lload 3 rfl dX0_read_119 ?_
        refine wq_lsub ((((hv.1 c1).2 x2 e3).2 c4).2 c5).1 dX0_read_121 ?_
        refine wq_goto 126 rfl dX0_read_122 ?_
        exact wp_lret rfl dX0_read_126 ((((hv.1 c1).2 x2 e3).2 c4).2 c5).2
  · refine wq_aload_n 1 rfl rfl dX0_read_39 ?_
    refine wq_getI fk_X0_45 hT_y1 (fun _ _ _ => rfl) dX0_read_40 ?_
    refine wq_if_eq 58 rfl dX0_read_43 (fun c6 => ?_) (fun c6 => ?_)
    · refine wq_iload 3 rfl dX0_read_58 ?_
      refine wq_istore (ls' := [(0, vR y0), (1, vR y1), (2, vL y2), (4, vI y4), (5, vI y4)]) (by decide) rfl dX0_read_60 ?_
      refine wq_ldc2_w (z := 256) (zlitL rfl) kc_X0_49 dX0_read_62 ?_
      refine wq_lload_n 2 rfl rfl dX0_read_65 ?_
      refine wq_lmul ((hv.2 c1).1 c6).1 dX0_read_66 ?_
      refine wq_aload_n 0 rfl rfl dX0_read_67 ?_
      refine wq_getR (r := (y0 + 1)) fk_X0_15 hT_y0 (fun _ _ _ => rfl) (sh_0_0 hS hT_y0) (by omega) dX0_read_68 ?_
      refine wq_aload_n 1 rfl rfl dX0_read_71 ?_
      refine wq_getI fk_X0_39 hT_y1 (fun _ _ _ => rfl) dX0_read_72 ?_
      refine wq_iload 4 rfl dX0_read_75 ?_
      refine wq_iadd ((hv.2 c1).1 c6).2.1 dX0_read_77 ?_
      refine wq_iald (zrow1 hT_y0) ((hv.2 c1).1 c6).2.2.1.1 ((hv.2 c1).1 c6).2.2.1.2 dX0_read_78 ?_
      refine wq_i2l dX0_read_79 ?_
      refine wq_ladd ((hv.2 c1).1 c6).2.2.2.1 dX0_read_80 ?_
      refine wq_topL (fun x7 e8 => ?_)
      refine wq_lstore_n (ls' := [(0, vR y0), (1, vR y1), (2, vL x7), (4, vI y4), (5, vI y4)]) rfl (by decide) rfl dX0_read_81 ?_
      refine z_nm (y4 + 1) (fun x9 e10 => ?_)
      refine wq_iinc (y := x9) (ls' := [(0, vR y0), (1, vR y1), (2, vL x7), (4, vI x9), (5, vI y4)]) 3 rfl e10.symm (by rw [e10]; exact (((hv.2 c1).1 c6).2.2.2.2 x7 e8).1) (by decide) rfl dX0_read_82 ?_
      refine wq_goto 30 rfl dX0_read_85 ?_
      exact wq_pick [0, 1, 2, 3] rfl (hI_30 y0 y1 x7 x9 h (((((hv.2 c1).1 c6).2.2.2.2 x7 e8).2 x9 e10) hS))
    · refine wq_aload_n 1 rfl rfl dX0_read_46 ?_
      refine wq_getI fk_X0_44 hT_y1 (fun _ _ _ => rfl) dX0_read_47 ?_
      refine wq_iconst (z := 1) (zlit rfl) dX0_read_50 ?_
      refine wq_isub ((hv.2 c1).2 c6).1 dX0_read_51 ?_
      refine wq_iload 3 rfl dX0_read_52 ?_
      refine wq_isub ((hv.2 c1).2 c6).2.1 dX0_read_54 ?_
      refine wq_goto 60 rfl dX0_read_55 ?_
      refine wq_topI (fun x11 e12 => ?_)
      refine wq_istore (ls' := [(0, vR y0), (1, vR y1), (2, vL y2), (4, vI y4), (5, vI x11)]) (by decide) rfl dX0_read_60 ?_
      refine wq_ldc2_w (z := 256) (zlitL rfl) kc_X0_49 dX0_read_62 ?_
      refine wq_lload_n 2 rfl rfl dX0_read_65 ?_
      refine wq_lmul (((hv.2 c1).2 c6).2.2 x11 e12).1 dX0_read_66 ?_
      refine wq_aload_n 0 rfl rfl dX0_read_67 ?_
      refine wq_getR (r := (y0 + 1)) fk_X0_15 hT_y0 (fun _ _ _ => rfl) (sh_0_0 hS hT_y0) (by omega) dX0_read_68 ?_
      refine wq_aload_n 1 rfl rfl dX0_read_71 ?_
      refine wq_getI fk_X0_39 hT_y1 (fun _ _ _ => rfl) dX0_read_72 ?_
      refine wq_iload 4 rfl dX0_read_75 ?_
      refine wq_iadd (((hv.2 c1).2 c6).2.2 x11 e12).2.1 dX0_read_77 ?_
      refine wq_iald (zrow1 hT_y0) (((hv.2 c1).2 c6).2.2 x11 e12).2.2.1.1 (((hv.2 c1).2 c6).2.2 x11 e12).2.2.1.2 dX0_read_78 ?_
      refine wq_i2l dX0_read_79 ?_
      refine wq_ladd (((hv.2 c1).2 c6).2.2 x11 e12).2.2.2.1 dX0_read_80 ?_
      refine wq_topL (fun x13 e14 => ?_)
      refine wq_lstore_n (ls' := [(0, vR y0), (1, vR y1), (2, vL x13), (4, vI y4), (5, vI x11)]) rfl (by decide) rfl dX0_read_81 ?_
      refine z_nm (y4 + 1) (fun x15 e16 => ?_)
      refine wq_iinc (y := x15) (ls' := [(0, vR y0), (1, vR y1), (2, vL x13), (4, vI x15), (5, vI x11)]) 3 rfl e16.symm (by rw [e16]; exact ((((hv.2 c1).2 c6).2.2 x11 e12).2.2.2.2 x13 e14).1) (by decide) rfl dX0_read_82 ?_
      refine wq_goto 30 rfl dX0_read_85 ?_
      exact wq_pick [0, 1, 2, 3] rfl (hI_30 y0 y1 x13 x15 h ((((((hv.2 c1).2 c6).2.2 x11 e12).2.2.2.2 x13 e14).2 x15 e16) hS))
theorem dX0_write_0 : decode cX0_write 0 = .ok (.iconst 0, 1) := by decide +kernel
theorem dX0_write_1 : decode cX0_write 1 = .ok (.istore 4, 2) := by decide +kernel
theorem dX0_write_3 : decode cX0_write 3 = .ok (.iload 4, 2) := by decide +kernel
theorem dX0_write_5 : decode cX0_write 5 = .ok (.aload_n 1, 1) := by decide +kernel
theorem dX0_write_6 : decode cX0_write 6 = .ok (.getfield 44, 3) := by decide +kernel
theorem dX0_write_9 : decode cX0_write 9 = .ok (.if_icmp .ge 55, 3) := by decide +kernel
theorem dX0_write_12 : decode cX0_write 12 = .ok (.aload_n 1, 1) := by decide +kernel
theorem dX0_write_13 : decode cX0_write 13 = .ok (.getfield 45, 3) := by decide +kernel
theorem dX0_write_16 : decode cX0_write 16 = .ok (.ifCond .eq 8, 3) := by decide +kernel
theorem dX0_write_19 : decode cX0_write 19 = .ok (.iload 4, 2) := by decide +kernel
theorem dX0_write_21 : decode cX0_write 21 = .ok (.goto 12, 3) := by decide +kernel
theorem dX0_write_24 : decode cX0_write 24 = .ok (.aload_n 1, 1) := by decide +kernel
theorem dX0_write_25 : decode cX0_write 25 = .ok (.getfield 44, 3) := by decide +kernel
theorem dX0_write_28 : decode cX0_write 28 = .ok (.iconst 1, 1) := by decide +kernel
theorem dX0_write_29 : decode cX0_write 29 = .ok (.isub, 1) := by decide +kernel
theorem dX0_write_30 : decode cX0_write 30 = .ok (.iload 4, 2) := by decide +kernel
theorem dX0_write_32 : decode cX0_write 32 = .ok (.isub, 1) := by decide +kernel
theorem dX0_write_33 : decode cX0_write 33 = .ok (.istore 5, 2) := by decide +kernel
theorem dX0_write_35 : decode cX0_write 35 = .ok (.aload_n 0, 1) := by decide +kernel
theorem dX0_write_36 : decode cX0_write 36 = .ok (.aload_n 1, 1) := by decide +kernel
theorem dX0_write_37 : decode cX0_write 37 = .ok (.getfield 39, 3) := by decide +kernel
theorem dX0_write_40 : decode cX0_write 40 = .ok (.iload 5, 2) := by decide +kernel
theorem dX0_write_42 : decode cX0_write 42 = .ok (.iadd, 1) := by decide +kernel
theorem dX0_write_43 : decode cX0_write 43 = .ok (.lload_n 2, 1) := by decide +kernel
theorem dX0_write_44 : decode cX0_write 44 = .ok (.bipush 8, 2) := by decide +kernel
theorem dX0_write_46 : decode cX0_write 46 = .ok (.iload 4, 2) := by decide +kernel
theorem dX0_write_48 : decode cX0_write 48 = .ok (.imul, 1) := by decide +kernel
theorem dX0_write_49 : decode cX0_write 49 = .ok (.lshr, 1) := by decide +kernel
theorem dX0_write_50 : decode cX0_write 50 = .ok (.ldc2_w 58, 3) := by decide +kernel
theorem dX0_write_53 : decode cX0_write 53 = .ok (.land, 1) := by decide +kernel
theorem dX0_write_54 : decode cX0_write 54 = .ok (.l2i, 1) := by decide +kernel
theorem dX0_write_55 : decode cX0_write 55 = .ok (.invokevirtual 29, 3) := by decide +kernel
theorem dX0_write_58 : decode cX0_write 58 = .ok (.iinc 4 1, 3) := by decide +kernel
theorem dX0_write_61 : decode cX0_write 61 = .ok (.goto (-58), 3) := by decide +kernel
theorem dX0_write_64 : decode cX0_write 64 = .ok (.return_, 1) := by decide +kernel
theorem vc_X0_write_0 {G : zG} {d : Nat} {Q : Option zV → zHp → Prop} (a : Nat) (hT_a : zT 369 a = (100, 2)) (p1 : Nat) (hT_p1 : zT 369 p1 = (103, 8)) (p2 : Int) (h : zHp) (hS : zSh h) (hd : 1 ≤ d) (I_3 : Nat → Nat → Int → Int → zHp → Prop) (hI_3 : ∀ (y0 : Nat) (y1 : Nat) (y2 : Int) (y4 : Int) (h' : zHp), I_3 y0 y1 y2 y4 h' → wpN G d M_X0_write 3 [(0, vR y0), (1, vR y1), (2, vL y2), (4, vI y4)] [] h' Q) 
    (hv : (zSh h → I_3 a p1 p2 0 h)) : wpN G d M_X0_write 0 [(0, vR a), (1, vR p1), (2, vL p2)] [] h Q := by
  refine wq_iconst (z := 0) (zlit rfl) dX0_write_0 ?_
  refine wq_istore (ls' := [(0, vR a), (1, vR p1), (2, vL p2), (4, vI 0)]) (by decide) rfl dX0_write_1 ?_
  exact wq_pick [0, 1, 2, 3] rfl (hI_3 a p1 p2 0 h (hv hS))
theorem vc_X0_write_3 {G : zG} {d : Nat} {Q : Option zV → zHp → Prop} (y0 : Nat) (hT_y0 : zT 369 y0 = (100, 2)) (y1 : Nat) (hT_y1 : zT 369 y1 = (103, 8)) (y2 : Int) (y4 : Int) (h : zHp) (hS : zSh h) (hd : 1 ≤ d) (I_3 : Nat → Nat → Int → Int → zHp → Prop) (hI_3 : ∀ (y0 : Nat) (y1 : Nat) (y2 : Int) (y4 : Int) (h' : zHp), I_3 y0 y1 y2 y4 h' → wpN G d M_X0_write 3 [(0, vR y0), (1, vR y1), (2, vL y2), (4, vI y4)] [] h' Q) 
    (hv : (((gI h y1 1) ≤ y4 → Q none h) ∧ (y4 < (gI h y1 1) → (((gI h y1 3) = 0 → ((-2147483648 ≤ (gI h y1 1) - 1 ∧ (gI h y1 1) - 1 ≤ 2147483647) ∧ ((-2147483648 ≤ ((gI h y1 1) - 1) - y4 ∧ ((gI h y1 1) - 1) - y4 ≤ 2147483647) ∧ (∀ x3 : Int, x3 = (((gI h y1 1) - 1) - y4) → ((-2147483648 ≤ (gI h y1 0) + x3 ∧ (gI h y1 0) + x3 ≤ 2147483647) ∧ ((-2147483648 ≤ 8 * y4 ∧ 8 * y4 ≤ 2147483647) ∧ (wpN G (d - 1) M_X0_put 0 (zar 0 [vR y0, vI ((gI h y1 0) + x3), vI (w32 (zandL (zshr y2 (8 * y4)) 255))]) [] h (qV (fun h6 => zSh h6 ∧ ((-2147483648 ≤ y4 + 1 ∧ y4 + 1 ≤ 2147483647) ∧ ∀ x9 : Int, x9 = y4 + 1 → (zSh h6 → I_3 y0 y1 y2 x9 h6))))))))))) ∧ ((gI h y1 3) ≠ 0 → ((-2147483648 ≤ (gI h y1 0) + y4 ∧ (gI h y1 0) + y4 ≤ 2147483647) ∧ ((-2147483648 ≤ 8 * y4 ∧ 8 * y4 ≤ 2147483647) ∧ (wpN G (d - 1) M_X0_put 0 (zar 0 [vR y0, vI ((gI h y1 0) + y4), vI (w32 (zandL (zshr y2 (8 * y4)) 255))]) [] h (qV (fun h12 => zSh h12 ∧ ((-2147483648 ≤ y4 + 1 ∧ y4 + 1 ≤ 2147483647) ∧ ∀ x15 : Int, x15 = y4 + 1 → (zSh h12 → I_3 y0 y1 y2 x15 h12)))))))))))) : wpN G d M_X0_write 3 [(0, vR y0), (1, vR y1), (2, vL y2), (4, vI y4)] [] h Q := by
  refine wq_iload 3 rfl dX0_write_3 ?_
  refine wq_aload_n 1 rfl rfl dX0_write_5 ?_
  refine wq_getI fk_X0_44 hT_y1 (fun _ _ _ => rfl) dX0_write_6 ?_
  refine wq_icmp_ge 64 rfl dX0_write_9 (fun c1 => ?_) (fun c1 => ?_)
  · exact wp_vret rfl dX0_write_64 (hv.1 c1)
  · refine wq_aload_n 1 rfl rfl dX0_write_12 ?_
    refine wq_getI fk_X0_45 hT_y1 (fun _ _ _ => rfl) dX0_write_13 ?_
    refine wq_if_eq 24 rfl dX0_write_16 (fun c2 => ?_) (fun c2 => ?_)
    · refine wq_aload_n 1 rfl rfl dX0_write_24 ?_
      refine wq_getI fk_X0_44 hT_y1 (fun _ _ _ => rfl) dX0_write_25 ?_
      refine wq_iconst (z := 1) (zlit rfl) dX0_write_28 ?_
      refine wq_isub ((hv.2 c1).1 c2).1 dX0_write_29 ?_
      refine wq_iload 3 rfl dX0_write_30 ?_
      refine wq_isub ((hv.2 c1).1 c2).2.1 dX0_write_32 ?_
      refine wq_topI (fun x3 e4 => ?_)
      refine wq_istore (ls' := [(0, vR y0), (1, vR y1), (2, vL y2), (4, vI y4), (5, vI x3)]) (by decide) rfl dX0_write_33 ?_
      refine wq_aload_n 0 rfl rfl dX0_write_35 ?_
      refine wq_aload_n 1 rfl rfl dX0_write_36 ?_
      refine wq_getI fk_X0_39 hT_y1 (fun _ _ _ => rfl) dX0_write_37 ?_
      refine wq_iload 4 rfl dX0_write_40 ?_
      refine wq_iadd (((hv.2 c1).1 c2).2.2 x3 e4).1 dX0_write_42 ?_
      refine wq_lload_n 2 rfl rfl dX0_write_43 ?_
      refine wq_bipush (z := 8) (zlit rfl) rfl dX0_write_44 ?_
      refine wq_iload 3 rfl dX0_write_46 ?_
      refine wq_imul (((hv.2 c1).1 c2).2.2 x3 e4).2.1 dX0_write_48 ?_
      refine wq_lshr dX0_write_49 ?_
      refine wq_ldc2_w (z := 255) (zlitL rfl) kc_X0_58 dX0_write_50 ?_
      refine wq_land dX0_write_53 ?_
      refine wq_l2i dX0_write_54 ?_
      refine wN_V (As := [vI ((gI h y1 0) + x3), vI (w32 (zandL (zshr y2 (8 * y4)) 255))]) vm_X0_put lk_X0_29 hT_y0 rfl rfl (Nat.le_of_ble_eq_true rfl) (Nat.le_of_ble_eq_true rfl) (d' := d - 1) (by omega) dX0_write_55 (((hv.2 c1).1 c2).2.2 x3 e4).2.2 (fun v9 h6 q7 => ?_)
      obtain ⟨rfl, hS8, q7⟩ := q7
      refine wq_st (st' := []) rfl ?_
      refine z_nm (y4 + 1) (fun x9 e10 => ?_)
      refine wq_iinc (y := x9) (ls' := [(0, vR y0), (1, vR y1), (2, vL y2), (4, vI x9), (5, vI x3)]) 3 rfl e10.symm (by rw [e10]; exact q7.1) (by decide) rfl dX0_write_58 ?_
      refine wq_goto 3 rfl dX0_write_61 ?_
      exact wq_pick [0, 1, 2, 3] rfl (hI_3 y0 y1 y2 x9 h6 ((q7.2 x9 e10) hS8))
    · refine wq_iload 3 rfl dX0_write_19 ?_
      refine wq_goto 33 rfl dX0_write_21 ?_
      refine wq_istore (ls' := [(0, vR y0), (1, vR y1), (2, vL y2), (4, vI y4), (5, vI y4)]) (by decide) rfl dX0_write_33 ?_
      refine wq_aload_n 0 rfl rfl dX0_write_35 ?_
      refine wq_aload_n 1 rfl rfl dX0_write_36 ?_
      refine wq_getI fk_X0_39 hT_y1 (fun _ _ _ => rfl) dX0_write_37 ?_
      refine wq_iload 4 rfl dX0_write_40 ?_
      refine wq_iadd ((hv.2 c1).2 c2).1 dX0_write_42 ?_
      refine wq_lload_n 2 rfl rfl dX0_write_43 ?_
      refine wq_bipush (z := 8) (zlit rfl) rfl dX0_write_44 ?_
      refine wq_iload 3 rfl dX0_write_46 ?_
      refine wq_imul ((hv.2 c1).2 c2).2.1 dX0_write_48 ?_
      refine wq_lshr dX0_write_49 ?_
      refine wq_ldc2_w (z := 255) (zlitL rfl) kc_X0_58 dX0_write_50 ?_
      refine wq_land dX0_write_53 ?_
      refine wq_l2i dX0_write_54 ?_
      refine wN_V (As := [vI ((gI h y1 0) + y4), vI (w32 (zandL (zshr y2 (8 * y4)) 255))]) vm_X0_put lk_X0_29 hT_y0 rfl rfl (Nat.le_of_ble_eq_true rfl) (Nat.le_of_ble_eq_true rfl) (d' := d - 1) (by omega) dX0_write_55 ((hv.2 c1).2 c2).2.2 (fun v9 h12 q13 => ?_)
      obtain ⟨rfl, hS14, q13⟩ := q13
      refine wq_st (st' := []) rfl ?_
      refine z_nm (y4 + 1) (fun x15 e16 => ?_)
      refine wq_iinc (y := x15) (ls' := [(0, vR y0), (1, vR y1), (2, vL y2), (4, vI x15), (5, vI y4)]) 3 rfl e16.symm (by rw [e16]; exact q13.1) (by decide) rfl dX0_write_58 ?_
      refine wq_goto 3 rfl dX0_write_61 ?_
      exact wq_pick [0, 1, 2, 3] rfl (hI_3 y0 y1 y2 x15 h12 ((q13.2 x15 e16) hS14))
end
