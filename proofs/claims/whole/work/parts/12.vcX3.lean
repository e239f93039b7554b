theorem dX3_isCheck_0 : decode cX3_isCheck 0 = .ok (.aload_n 0, 1) := by decide +kernel
theorem dX3_isCheck_1 : decode cX3_isCheck 1 = .ok (.getfield 17, 3) := by decide +kernel
theorem dX3_isCheck_4 : decode cX3_isCheck 4 = .ok (.iconst 2, 1) := by decide +kernel
theorem dX3_isCheck_5 : decode cX3_isCheck 5 = .ok (.if_icmp .lt 7, 3) := by decide +kernel
theorem dX3_isCheck_8 : decode cX3_isCheck 8 = .ok (.iconst 1, 1) := by decide +kernel
theorem dX3_isCheck_9 : decode cX3_isCheck 9 = .ok (.goto 4, 3) := by decide +kernel
theorem dX3_isCheck_12 : decode cX3_isCheck 12 = .ok (.iconst 0, 1) := by decide +kernel
theorem dX3_isCheck_13 : decode cX3_isCheck 13 = .ok (.ireturn, 1) := by decide +kernel
theorem vc_X3_isCheck_0 {G : zG} {d : Nat} {Q : Option zV → zHp → Prop} (a : Nat) (hT_a : zT 369 a = (103, 8)) (h : zHp) (hS : zSh h) (hd : 0 ≤ d)  
    (hv : (((gI h a 2) < 2 → Q (some (vI 0)) h) ∧ (2 ≤ (gI h a 2) → Q (some (vI 1)) h))) : wpN G d M_X3_isCheck 0 [(0, vR a)] [] h Q := by
  refine wq_aload_n 0 rfl rfl dX3_isCheck_0 ?_
  refine wq_getI fk_X3_17 hT_a (fun _ _ _ => rfl) dX3_isCheck_1 ?_
  refine wq_iconst (z := 2) (zlit rfl) dX3_isCheck_4 ?_
  refine wq_icmp_lt 12 rfl dX3_isCheck_5 (fun c1 => ?_) (fun c1 => ?_)
  · refine wq_iconst (z := 0) (zlit rfl) dX3_isCheck_12 ?_
    exact wp_zret (Or.inl rfl) rfl dX3_isCheck_13 (hv.1 c1)
  · refine wq_iconst (z := 1) (zlit rfl) dX3_isCheck_8 ?_
    refine wq_goto 13 rfl dX3_isCheck_9 ?_
    exact wp_zret (Or.inr rfl) rfl dX3_isCheck_13 (hv.2 c1)
theorem dX3_contains_0 : decode cX3_contains 0 = .ok (.iload_n 1, 1) := by decide +kernel
theorem dX3_contains_1 : decode cX3_contains 1 = .ok (.aload_n 0, 1) := by decide +kernel
theorem dX3_contains_2 : decode cX3_contains 2 = .ok (.getfield 23, 3) := by decide +kernel
theorem dX3_contains_5 : decode cX3_contains 5 = .ok (.if_icmp .lt 20, 3) := by decide +kernel
theorem dX3_contains_8 : decode cX3_contains 8 = .ok (.iload_n 1, 1) := by decide +kernel
theorem dX3_contains_9 : decode cX3_contains 9 = .ok (.aload_n 0, 1) := by decide +kernel
theorem dX3_contains_10 : decode cX3_contains 10 = .ok (.getfield 23, 3) := by decide +kernel
theorem dX3_contains_13 : decode cX3_contains 13 = .ok (.aload_n 0, 1) := by decide +kernel
theorem dX3_contains_14 : decode cX3_contains 14 = .ok (.getfield 26, 3) := by decide +kernel
theorem dX3_contains_17 : decode cX3_contains 17 = .ok (.iadd, 1) := by decide +kernel
theorem dX3_contains_18 : decode cX3_contains 18 = .ok (.if_icmp .ge 7, 3) := by decide +kernel
theorem dX3_contains_21 : decode cX3_contains 21 = .ok (.iconst 1, 1) := by decide +kernel
theorem dX3_contains_22 : decode cX3_contains 22 = .ok (.goto 4, 3) := by decide +kernel
theorem dX3_contains_25 : decode cX3_contains 25 = .ok (.iconst 0, 1) := by decide +kernel
theorem dX3_contains_26 : decode cX3_contains 26 = .ok (.ireturn, 1) := by decide +kernel
theorem vc_X3_contains_0 {G : zG} {d : Nat} {Q : Option zV → zHp → Prop} (a : Nat) (hT_a : zT 369 a = (103, 8)) (p1 : Int) (h : zHp) (hS : zSh h) (hd : 0 ≤ d)  
    (hv : ((p1 < (gI h a 0) → Q (some (vI 0)) h) ∧ ((gI h a 0) ≤ p1 → ((-2147483648 ≤ (gI h a 0) + (gI h a 1) ∧ (gI h a 0) + (gI h a 1) ≤ 2147483647) ∧ ((((gI h a 0) + (gI h a 1)) ≤ p1 → Q (some (vI 0)) h) ∧ (p1 < ((gI h a 0) + (gI h a 1)) → Q (some (vI 1)) h)))))) : wpN G d M_X3_contains 0 [(0, vR a), (1, vI p1)] [] h Q := by
  refine wq_iload_n 1 rfl rfl dX3_contains_0 ?_
  refine wq_aload_n 0 rfl rfl dX3_contains_1 ?_
  refine wq_getI fk_X3_23 hT_a (fun _ _ _ => rfl) dX3_contains_2 ?_
  refine wq_icmp_lt 25 rfl dX3_contains_5 (fun c1 => ?_) (fun c1 => ?_)
  · refine wq_iconst (z := 0) (zlit rfl) dX3_contains_25 ?_
    exact wp_zret (Or.inl rfl) rfl dX3_contains_26 (hv.1 c1)
  · refine wq_iload_n 1 rfl rfl dX3_contains_8 ?_
    refine wq_aload_n 0 rfl rfl dX3_contains_9 ?_
    refine wq_getI fk_X3_23 hT_a (fun _ _ _ => rfl) dX3_contains_10 ?_
    refine wq_aload_n 0 rfl rfl dX3_contains_13 ?_
    refine wq_getI fk_X3_26 hT_a (fun _ _ _ => rfl) dX3_contains_14 ?_
    refine wq_iadd (hv.2 c1).1 dX3_contains_17 ?_
    refine wq_icmp_ge 25 rfl dX3_contains_18 (fun c2 => ?_) (fun c2 => ?_)
    · refine wq_iconst (z := 0) (zlit rfl) dX3_contains_25 ?_
      exact wp_zret (Or.inl rfl) rfl dX3_contains_26 ((hv.2 c1).2.1 c2)
    · refine wq_iconst (z := 1) (zlit rfl) dX3_contains_21 ?_
      refine wq_goto 26 rfl dX3_contains_22 ?_
      exact wp_zret (Or.inr rfl) rfl dX3_contains_26 ((hv.2 c1).2.2 c2)
theorem dX3_takes_0 : decode cX3_takes 0 = .ok (.lconst 1, 1) := by decide +kernel
theorem dX3_takes_1 : decode cX3_takes 1 = .ok (.bipush 8, 2) := by decide +kernel
theorem dX3_takes_3 : decode cX3_takes 3 = .ok (.aload_n 0, 1) := by decide +kernel
theorem dX3_takes_4 : decode cX3_takes 4 = .ok (.getfield 26, 3) := by decide +kernel
theorem dX3_takes_7 : decode cX3_takes 7 = .ok (.imul, 1) := by decide +kernel
theorem dX3_takes_8 : decode cX3_takes 8 = .ok (.lshl, 1) := by decide +kernel
theorem dX3_takes_9 : decode cX3_takes 9 = .ok (.lstore_n 3, 1) := by decide +kernel
theorem dX3_takes_10 : decode cX3_takes 10 = .ok (.aload_n 0, 1) := by decide +kernel
theorem dX3_takes_11 : decode cX3_takes 11 = .ok (.getfield 17, 3) := by decide +kernel
theorem dX3_takes_14 : decode cX3_takes 14 = .ok (.iconst 1, 1) := by decide +kernel
theorem dX3_takes_15 : decode cX3_takes 15 = .ok (.if_icmp .ne 12, 3) := by decide +kernel
theorem dX3_takes_18 : decode cX3_takes 18 = .ok (.lload_n 3, 1) := by decide +kernel
theorem dX3_takes_19 : decode cX3_takes 19 = .ok (.lneg, 1) := by decide +kernel
theorem dX3_takes_20 : decode cX3_takes 20 = .ok (.ldc2_w 29, 3) := by decide +kernel
theorem dX3_takes_23 : decode cX3_takes 23 = .ok (.ldiv, 1) := by decide +kernel
theorem dX3_takes_24 : decode cX3_takes 24 = .ok (.goto 4, 3) := by decide +kernel
theorem dX3_takes_27 : decode cX3_takes 27 = .ok (.lconst 0, 1) := by decide +kernel
theorem dX3_takes_28 : decode cX3_takes 28 = .ok (.lstore 5, 2) := by decide +kernel
theorem dX3_takes_30 : decode cX3_takes 30 = .ok (.lload_n 1, 1) := by decide +kernel
theorem dX3_takes_31 : decode cX3_takes 31 = .ok (.lload 5, 2) := by decide +kernel
theorem dX3_takes_33 : decode cX3_takes 33 = .ok (.lcmp, 1) := by decide +kernel
theorem dX3_takes_34 : decode cX3_takes 34 = .ok (.ifCond .lt 16, 3) := by decide +kernel
theorem dX3_takes_37 : decode cX3_takes 37 = .ok (.lload_n 1, 1) := by decide +kernel
theorem dX3_takes_38 : decode cX3_takes 38 = .ok (.lload 5, 2) := by decide +kernel
theorem dX3_takes_40 : decode cX3_takes 40 = .ok (.lload_n 3, 1) := by decide +kernel
theorem dX3_takes_41 : decode cX3_takes 41 = .ok (.ladd, 1) := by decide +kernel
theorem dX3_takes_42 : decode cX3_takes 42 = .ok (.lcmp, 1) := by decide +kernel
theorem dX3_takes_43 : decode cX3_takes 43 = .ok (.ifCond .ge 7, 3) := by decide +kernel
theorem dX3_takes_46 : decode cX3_takes 46 = .ok (.iconst 1, 1) := by decide +kernel
theorem dX3_takes_47 : decode cX3_takes 47 = .ok (.goto 4, 3) := by decide +kernel
theorem dX3_takes_50 : decode cX3_takes 50 = .ok (.iconst 0, 1) := by decide +kernel
theorem dX3_takes_51 : decode cX3_takes 51 = .ok (.ireturn, 1) := by decide +kernel
theorem vc_X3_takes_0 {G : zG} {d : Nat} {Q : Option zV → zHp → Prop} (a : Nat) (hT_a : zT 369 a = (103, 8)) (p1 : Int) (h : zHp) (hS : zSh h) (hd : 0 ≤ d)  
    (hv : ((-2147483648 ≤ 8 * (gI h a 1) ∧ 8 * (gI h a 1) ≤ 2147483647) ∧ (∀ x1 : Int, x1 = (zshl 1 (8 * (gI h a 1))) → (((gI h a 2) ≠ 1 → ((p1 < 0 → Q (some (vI 0)) h) ∧ (0 ≤ p1 → ((-9223372036854775808 ≤ 0 + x1 ∧ 0 + x1 ≤ 9223372036854775807) ∧ (((0 + x1) ≤ p1 → Q (some (vI 0)) h) ∧ (p1 < (0 + x1) → Q (some (vI 1)) h)))))) ∧ ((gI h a 2) = 1 → ((-9223372036854775808 ≤ -x1 ∧ -x1 ≤ 9223372036854775807) ∧ (∀ x6 : Int, x6 = ((-x1).tdiv 2) → ((p1 < x6 → Q (some (vI 0)) h) ∧ (x6 ≤ p1 → ((-9223372036854775808 ≤ x6 + x1 ∧ x6 + x1 ≤ 9223372036854775807) ∧ (((x6 + x1) ≤ p1 → Q (some (vI 0)) h) ∧ (p1 < (x6 + x1) → Q (some (vI 1)) h)))))))))))) : wpN G d M_X3_takes 0 [(0, vR a), (1, vL p1)] [] h Q := by
  refine wq_lconst (z := 1) (zlitL rfl) rfl dX3_takes_0 ?_
  refine wq_bipush (z := 8) (zlit rfl) rfl dX3_takes_1 ?_
  refine wq_aload_n 0 rfl rfl dX3_takes_3 ?_
  refine wq_getI fk_X3_26 hT_a (fun _ _ _ => rfl) dX3_takes_4 ?_
  refine wq_imul hv.1 dX3_takes_7 ?_
  refine wq_lshl dX3_takes_8 ?_
  refine wq_topL (fun x1 e2 => ?_)
  refine wq_lstore_n (ls' := [(0, vR a), (1, vL p1), (3, vL x1)]) rfl (by decide) rfl dX3_takes_9 ?_
  refine wq_aload_n 0 rfl rfl dX3_takes_10 ?_
  refine wq_getI fk_X3_17 hT_a (fun _ _ _ => rfl) dX3_takes_11 ?_
  refine wq_iconst (z := 1) (zlit rfl) dX3_takes_14 ?_
  refine wq_icmp_ne 27 rfl dX3_takes_15 (fun c3 => ?_) (fun c3 => ?_)
  · refine wq_lconst (z := 0) (zlitL rfl) rfl dX3_takes_27 ?_
    refine wq_lstore (ls' := [(0, vR a), (1, vL p1), (3, vL x1), (5, vL 0)]) (by decide) rfl dX3_takes_28 ?_
    refine wq_lload_n 1 rfl rfl dX3_takes_30 ?_
    refine wq_lload 3 rfl dX3_takes_31 ?_
    refine wq_lcmp_lt 50 rfl dX3_takes_33 dX3_takes_34 (fun c4 => ?_) (fun c4 => ?_)
    · refine wq_iconst (z := 0) (zlit rfl) dX3_takes_50 ?_
      exact wp_zret (Or.inl rfl) rfl dX3_takes_51 (((hv.2 x1 e2).1 c3).1 c4)
    · refine wq_lload_n 1 rfl rfl dX3_takes_37 ?_
      refine wq_lload 3 rfl dX3_takes_38 ?_
      refine wq_lload_n 2 rfl rfl dX3_takes_40 ?_
      refine wq_ladd (((hv.2 x1 e2).1 c3).2 c4).1 dX3_takes_41 ?_
      refine wq_lcmp_ge 50 rfl dX3_takes_42 dX3_takes_43 (fun c5 => ?_) (fun c5 => ?_)
      · refine wq_iconst (z := 0) (zlit rfl) dX3_takes_50 ?_
        exact wp_zret (Or.inl rfl) rfl dX3_takes_51 ((((hv.2 x1 e2).1 c3).2 c4).2.1 c5)
      · refine wq_iconst (z := 1) (zlit rfl) dX3_takes_46 ?_
        refine wq_goto 51 rfl dX3_takes_47 ?_
        exact wp_zret (Or.inr rfl) rfl dX3_takes_51 ((((hv.2 x1 e2).1 c3).2 c4).2.2 c5)
  · refine wq_lload_n 2 rfl rfl dX3_takes_18 ?_
    refine wq_lneg ((hv.2 x1 e2).2 c3).1 dX3_takes_19 ?_
    refine wq_ldc2_w (z := 2) (zlitL rfl) kc_X3_29 dX3_takes_20 ?_
    refine wq_ldiv (by decide) dX3_takes_23 ?_
    refine wq_goto 28 rfl dX3_takes_24 ?_
    refine wq_topL (fun x6 e7 => ?_)
    refine wq_lstore (ls' := [(0, vR a), (1, vL p1), (3, vL x1), (5, vL x6)]) (by decide) rfl dX3_takes_28 ?_
    refine wq_lload_n 1 rfl rfl dX3_takes_30 ?_
    refine wq_lload 3 rfl dX3_takes_31 ?_
    refine wq_lcmp_lt 50 rfl dX3_takes_33 dX3_takes_34 (fun c8 => ?_) (fun c8 => ?_)
    · refine wq_iconst (z := 0) (zlit rfl) dX3_takes_50 ?_
      exact wp_zret (Or.inl rfl) rfl dX3_takes_51 ((((hv.2 x1 e2).2 c3).2 x6 e7).1 c8)
    · refine wq_lload_n 1 rfl rfl dX3_takes_37 ?_
      refine wq_lload 3 rfl dX3_takes_38 ?_
      refine wq_lload_n 2 rfl rfl dX3_takes_40 ?_
      refine wq_ladd ((((hv.2 x1 e2).2 c3).2 x6 e7).2 c8).1 dX3_takes_41 ?_
      refine wq_lcmp_ge 50 rfl dX3_takes_42 dX3_takes_43 (fun c9 => ?_) (fun c9 => ?_)
      · refine wq_iconst (z := 0) (zlit rfl) dX3_takes_50 ?_
        exact wp_zret (Or.inl rfl) rfl dX3_takes_51 (((((hv.2 x1 e2).2 c3).2 x6 e7).2 c8).2.1 c9)
      · refine wq_iconst (z := 1) (zlit rfl) dX3_takes_46 ?_
        refine wq_goto 51 rfl dX3_takes_47 ?_
        exact wp_zret (Or.inr rfl) rfl dX3_takes_51 (((((hv.2 x1 e2).2 c3).2 x6 e7).2 c8).2.2 c9)
theorem dX3_pathName_0 : decode cX3_pathName 0 = .ok (.iload_n 1, 1) := by decide +kernel
theorem dX3_pathName_1 : decode cX3_pathName 1 = .ok (.ifCond .lt 29, 3) := by decide +kernel
theorem dX3_pathName_4 : decode cX3_pathName 4 = .ok (.iload_n 1, 1) := by decide +kernel
theorem dX3_pathName_5 : decode cX3_pathName 5 = .ok (.aload_n 0, 1) := by decide +kernel
theorem dX3_pathName_6 : decode cX3_pathName 6 = .ok (.getfield 31, 3) := by decide +kernel
theorem dX3_pathName_9 : decode cX3_pathName 9 = .ok (.if_icmp .ge 21, 3) := by decide +kernel
theorem dX3_pathName_12 : decode cX3_pathName 12 = .ok (.iload_n 1, 1) := by decide +kernel
theorem dX3_pathName_13 : decode cX3_pathName 13 = .ok (.aload_n 0, 1) := by decide +kernel
theorem dX3_pathName_14 : decode cX3_pathName 14 = .ok (.getfield 11, 3) := by decide +kernel
theorem dX3_pathName_17 : decode cX3_pathName 17 = .ok (.arraylength, 1) := by decide +kernel
theorem dX3_pathName_18 : decode cX3_pathName 18 = .ok (.if_icmp .ge 12, 3) := by decide +kernel
theorem dX3_pathName_21 : decode cX3_pathName 21 = .ok (.aload_n 0, 1) := by decide +kernel
theorem dX3_pathName_22 : decode cX3_pathName 22 = .ok (.getfield 11, 3) := by decide +kernel
theorem dX3_pathName_25 : decode cX3_pathName 25 = .ok (.iload_n 1, 1) := by decide +kernel
theorem dX3_pathName_26 : decode cX3_pathName 26 = .ok (.iaload, 1) := by decide +kernel
theorem dX3_pathName_27 : decode cX3_pathName 27 = .ok (.goto 6, 3) := by decide +kernel
theorem dX3_pathName_30 : decode cX3_pathName 30 = .ok (.sipush (-1009), 3) := by decide +kernel
theorem dX3_pathName_33 : decode cX3_pathName 33 = .ok (.ireturn, 1) := by decide +kernel
theorem vc_X3_pathName_0 {G : zG} {d : Nat} {Q : Option zV → zHp → Prop} (a : Nat) (hT_a : zT 369 a = (103, 8)) (p1 : Int) (h : zHp) (hS : zSh h) (hd : 0 ≤ d)  
    (hv : ((p1 < 0 → Q (some (vI (-1009))) h) ∧ (0 ≤ p1 → (((gI h a 6) ≤ p1 → Q (some (vI (-1009))) h) ∧ (p1 < (gI h a 6) → ((((4 : Nat) : Int) ≤ p1 → Q (some (vI (-1009))) h) ∧ (p1 < ((4 : Nat) : Int) → (((0 : Int) ≤ p1 ∧ p1 < ((4 : Nat) : Int)) ∧ Q (some (vI (gI h (a + 1) p1.toNat))) h)))))))) : wpN G d M_X3_pathName 0 [(0, vR a), (1, vI p1)] [] h Q := by
  refine wq_iload_n 1 rfl rfl dX3_pathName_0 ?_
  refine wq_if_lt 30 rfl dX3_pathName_1 (fun c1 => ?_) (fun c1 => ?_)
  · refine wq_sipush (z := -1009) (zlit rfl) rfl dX3_pathName_30 ?_
    exact wp_iret rfl dX3_pathName_33 (hv.1 c1)
  · refine wq_iload_n 1 rfl rfl dX3_pathName_4 ?_
    refine wq_aload_n 0 rfl rfl dX3_pathName_5 ?_
    refine wq_getI fk_X3_31 hT_a (fun _ _ _ => rfl) dX3_pathName_6 ?_
    refine wq_icmp_ge 30 rfl dX3_pathName_9 (fun c2 => ?_) (fun c2 => ?_)
    · refine wq_sipush (z := -1009) (zlit rfl) rfl dX3_pathName_30 ?_
      exact wp_iret rfl dX3_pathName_33 ((hv.2 c1).1 c2)
    · refine wq_iload_n 1 rfl rfl dX3_pathName_12 ?_
      refine wq_aload_n 0 rfl rfl dX3_pathName_13 ?_
      refine wq_getR (r := (a + 1)) fk_X3_11 hT_a (fun _ _ _ => rfl) (sh_3_7 hS hT_a) (by omega) dX3_pathName_14 ?_
      refine wq_alen (zfld7 hT_a) (by decide) (by decide) dX3_pathName_17 ?_
      refine wq_icmp_ge 30 rfl dX3_pathName_18 (fun c3 => ?_) (fun c3 => ?_)
      · refine wq_sipush (z := -1009) (zlit rfl) rfl dX3_pathName_30 ?_
        exact wp_iret rfl dX3_pathName_33 (((hv.2 c1).2 c2).1 c3)
      · refine wq_aload_n 0 rfl rfl dX3_pathName_21 ?_
        refine wq_getR (r := (a + 1)) fk_X3_11 hT_a (fun _ _ _ => rfl) (sh_3_7 hS hT_a) (by omega) dX3_pathName_22 ?_
        refine wq_iload_n 1 rfl rfl dX3_pathName_25 ?_
        refine wq_iald (zfld7 hT_a) (((hv.2 c1).2 c2).2 c3).1.1 (((hv.2 c1).2 c2).2 c3).1.2 dX3_pathName_26 ?_
        refine wq_goto 33 rfl dX3_pathName_27 ?_
        exact wp_iret rfl dX3_pathName_33 (((hv.2 c1).2 c2).2 c3).2
theorem dX3_property_0 : decode cX3_property 0 = .ok (.iload_n 1, 1) := by decide +kernel
theorem dX3_property_1 : decode cX3_property 1 = .ok (.tableswitch 77 0 5 #[39, 44, 49, 54, 67, 72], 39) := by decide +kernel
theorem dX3_property_40 : decode cX3_property 40 = .ok (.aload_n 0, 1) := by decide +kernel
theorem dX3_property_41 : decode cX3_property 41 = .ok (.getfield 23, 3) := by decide +kernel
theorem dX3_property_44 : decode cX3_property 44 = .ok (.ireturn, 1) := by decide +kernel
theorem dX3_property_45 : decode cX3_property 45 = .ok (.aload_n 0, 1) := by decide +kernel
theorem dX3_property_46 : decode cX3_property 46 = .ok (.getfield 26, 3) := by decide +kernel
theorem dX3_property_49 : decode cX3_property 49 = .ok (.ireturn, 1) := by decide +kernel
theorem dX3_property_50 : decode cX3_property 50 = .ok (.aload_n 0, 1) := by decide +kernel
theorem dX3_property_51 : decode cX3_property 51 = .ok (.getfield 17, 3) := by decide +kernel
theorem dX3_property_54 : decode cX3_property 54 = .ok (.ireturn, 1) := by decide +kernel
theorem dX3_property_55 : decode cX3_property 55 = .ok (.aload_n 0, 1) := by decide +kernel
theorem dX3_property_56 : decode cX3_property 56 = .ok (.getfield 34, 3) := by decide +kernel
theorem dX3_property_59 : decode cX3_property 59 = .ok (.ifCond .eq 7, 3) := by decide +kernel
theorem dX3_property_62 : decode cX3_property 62 = .ok (.iconst 1, 1) := by decide +kernel
theorem dX3_property_63 : decode cX3_property 63 = .ok (.goto 4, 3) := by decide +kernel
theorem dX3_property_66 : decode cX3_property 66 = .ok (.iconst 0, 1) := by decide +kernel
theorem dX3_property_67 : decode cX3_property 67 = .ok (.ireturn, 1) := by decide +kernel
theorem dX3_property_68 : decode cX3_property 68 = .ok (.aload_n 0, 1) := by decide +kernel
theorem dX3_property_69 : decode cX3_property 69 = .ok (.getfield 38, 3) := by decide +kernel
theorem dX3_property_72 : decode cX3_property 72 = .ok (.ireturn, 1) := by decide +kernel
theorem dX3_property_73 : decode cX3_property 73 = .ok (.aload_n 0, 1) := by decide +kernel
theorem dX3_property_74 : decode cX3_property 74 = .ok (.getfield 41, 3) := by decide +kernel
theorem dX3_property_77 : decode cX3_property 77 = .ok (.ireturn, 1) := by decide +kernel
theorem dX3_property_78 : decode cX3_property 78 = .ok (.aload_n 0, 1) := by decide +kernel
theorem dX3_property_79 : decode cX3_property 79 = .ok (.getfield 31, 3) := by decide +kernel
theorem dX3_property_82 : decode cX3_property 82 = .ok (.ireturn, 1) := by decide +kernel
theorem vc_X3_property_0 {G : zG} {d : Nat} {Q : Option zV → zHp → Prop} (a : Nat) (hT_a : zT 369 a = (103, 8)) (p1 : Int) (h : zHp) (hS : zSh h) (hd : 0 ≤ d)  
    (hv : ((p1 < 0 ∨ 5 < p1 → Q (some (vI (gI h a 6))) h) ∧ (p1 = 0 + ((0 : Nat) : Int) → Q (some (vI (gI h a 0))) h) ∧ (p1 = 0 + ((1 : Nat) : Int) → Q (some (vI (gI h a 1))) h) ∧ (p1 = 0 + ((2 : Nat) : Int) → Q (some (vI (gI h a 2))) h) ∧ (p1 = 0 + ((3 : Nat) : Int) → (((gI h a 3) = 0 → Q (some (vI 0)) h) ∧ ((gI h a 3) ≠ 0 → Q (some (vI 1)) h))) ∧ (p1 = 0 + ((4 : Nat) : Int) → Q (some (vI (gI h a 4))) h) ∧ (p1 = 0 + ((5 : Nat) : Int) → Q (some (vI (gI h a 5))) h))) : wpN G d M_X3_property 0 [(0, vR a), (1, vI p1)] [] h Q := by
  refine wq_iload_n 1 rfl rfl dX3_property_0 ?_
  refine wq_tsw 78 [40, 45, 50, 55, 68, 73] rfl rfl rfl dX3_property_1 (fun c1 => ?_) (fun j tg hj ej => ?_)
  · refine wq_aload_n 0 rfl rfl dX3_property_78 ?_
    refine wq_getI fk_X3_31 hT_a (fun _ _ _ => rfl) dX3_property_79 ?_
    exact wp_iret rfl dX3_property_82 (hv.1 c1)
  · match j, hj, ej with
    | 0, hj, ej =>
      cases hj
      refine wq_aload_n 0 rfl rfl dX3_property_40 ?_
      refine wq_getI fk_X3_23 hT_a (fun _ _ _ => rfl) dX3_property_41 ?_
      exact wp_iret rfl dX3_property_44 (hv.2.1 ej)
    | 1, hj, ej =>
      cases hj
      refine wq_aload_n 0 rfl rfl dX3_property_45 ?_
      refine wq_getI fk_X3_26 hT_a (fun _ _ _ => rfl) dX3_property_46 ?_
      exact wp_iret rfl dX3_property_49 (hv.2.2.1 ej)
    | 2, hj, ej =>
      cases hj
      refine wq_aload_n 0 rfl rfl dX3_property_50 ?_
      refine wq_getI fk_X3_17 hT_a (fun _ _ _ => rfl) dX3_property_51 ?_
      exact wp_iret rfl dX3_property_54 (hv.2.2.2.1 ej)
    | 3, hj, ej =>
      cases hj
      refine wq_aload_n 0 rfl rfl dX3_property_55 ?_
      refine wq_getI fk_X3_34 hT_a (fun _ _ _ => rfl) dX3_property_56 ?_
      refine wq_if_eq 66 rfl dX3_property_59 (fun c2 => ?_) (fun c2 => ?_)
      · refine wq_iconst (z := 0) (zlit rfl) dX3_property_66 ?_
        exact wp_iret rfl dX3_property_67 ((hv.2.2.2.2.1 ej).1 c2)
      · refine wq_iconst (z := 1) (zlit rfl) dX3_property_62 ?_
        refine wq_goto 67 rfl dX3_property_63 ?_
        exact wp_iret rfl dX3_property_67 ((hv.2.2.2.2.1 ej).2 c2)
    | 4, hj, ej =>
      cases hj
      refine wq_aload_n 0 rfl rfl dX3_property_68 ?_
      refine wq_getI fk_X3_38 hT_a (fun _ _ _ => rfl) dX3_property_69 ?_
      exact wp_iret rfl dX3_property_72 (hv.2.2.2.2.2.1 ej)
    | 5, hj, ej =>
      cases hj
      refine wq_aload_n 0 rfl rfl dX3_property_73 ?_
      refine wq_getI fk_X3_41 hT_a (fun _ _ _ => rfl) dX3_property_74 ?_
      exact wp_iret rfl dX3_property_77 (hv.2.2.2.2.2.2 ej)
    | j + 6, hj, ej => exact absurd hj (by simp)
