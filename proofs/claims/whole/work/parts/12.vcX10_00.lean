theorem dX10_type_0 : decode cX10_type 0 = .ok (.iload_n 1, 1) := by decide +kernel
theorem dX10_type_1 : decode cX10_type 1 = .ok (.iconst 0, 1) := by decide +kernel
theorem dX10_type_2 : decode cX10_type 2 = .ok (.bipush 127, 2) := by decide +kernel
theorem dX10_type_4 : decode cX10_type 4 = .ok (.invokestatic 87, 3) := by decide +kernel
theorem dX10_type_7 : decode cX10_type 7 = .ok (.ifCond .ne 7, 3) := by decide +kernel
theorem dX10_type_10 : decode cX10_type 10 = .ok (.sipush (-1001), 3) := by decide +kernel
theorem dX10_type_13 : decode cX10_type 13 = .ok (.ireturn, 1) := by decide +kernel
theorem dX10_type_14 : decode cX10_type 14 = .ok (.aload_n 0, 1) := by decide +kernel
theorem dX10_type_15 : decode cX10_type 15 = .ok (.getfield 14, 3) := by decide +kernel
theorem dX10_type_18 : decode cX10_type 18 = .ok (.iload_n 1, 1) := by decide +kernel
theorem dX10_type_19 : decode cX10_type 19 = .ok (.invokevirtual 91, 3) := by decide +kernel
theorem dX10_type_22 : decode cX10_type 22 = .ok (.ifCond .eq 13, 3) := by decide +kernel
theorem dX10_type_25 : decode cX10_type 25 = .ok (.aload_n 0, 1) := by decide +kernel
theorem dX10_type_26 : decode cX10_type 26 = .ok (.getfield 14, 3) := by decide +kernel
theorem dX10_type_29 : decode cX10_type 29 = .ok (.getfield 95, 3) := by decide +kernel
theorem dX10_type_32 : decode cX10_type 32 = .ok (.goto 6, 3) := by decide +kernel
theorem dX10_type_35 : decode cX10_type 35 = .ok (.sipush (-1003), 3) := by decide +kernel
theorem dX10_type_38 : decode cX10_type 38 = .ok (.ireturn, 1) := by decide +kernel
theorem vc_X10_type_0 {G : zG} {d : Nat} {Q : Option zV → zHp → Prop} (p1 : Int) (h : zHp) (hS : zSh h) (hd : 1 ≤ d)  
    (hv : (wpN G (d - 1) M_X10_isWithin 0 (zar 0 [vI p1, vI 0, vI 127]) [] h (qI (fun z1 h2 => zSh h2 ∧ ((z1 ≠ 0 → (wpN G (d - 1) M_X0_append 0 (zar 0 [vR 2, vI p1]) [] h2 (qI (fun z6 h7 => zSh h7 ∧ ((z6 = 0 → Q (some (vI (-1003))) h7) ∧ (z6 ≠ 0 → Q (some (vI (gI h7 2 1))) h7)))))) ∧ (z1 = 0 → Q (some (vI (-1001))) h2)))))) : wpN G d M_X10_type 0 [(0, vR 1), (1, vI p1)] [] h Q := by
  refine wq_iload_n 1 rfl rfl dX10_type_0 ?_
  refine wq_iconst (z := 0) (zlit rfl) dX10_type_1 ?_
  refine wq_bipush (z := 127) (zlit rfl) rfl dX10_type_2 ?_
  refine wN_S (As := [vI p1, vI 0, vI 127]) md_X10_isWithin ms_X10_isWithin lk_X10_87 rfl rfl (Nat.le_of_ble_eq_true rfl) (Nat.le_of_ble_eq_true rfl) (d' := d - 1) (by omega) dX10_type_4 hv (fun v9 h2 q3 => ?_)
  obtain ⟨z1, rfl, hS4, q3⟩ := q3
  refine wq_st (st' := [vI z1]) rfl ?_
  refine wq_if_ne 14 rfl dX10_type_7 (fun c5 => ?_) (fun c5 => ?_)
  · refine wq_aload_n 0 rfl rfl dX10_type_14 ?_
    refine wq_getR fk_X10_14 tT_1 (fun _ _ _ => rfl) (sh_10_0 hS4) (by decide) dX10_type_15 ?_
    refine wq_iload_n 1 rfl rfl dX10_type_18 ?_
    refine wN_V (As := [vI p1]) vm_X0_append lk_X10_91 tT_2 rfl rfl (Nat.le_of_ble_eq_true rfl) (Nat.le_of_ble_eq_true rfl) (d' := d - 1) (by omega) dX10_type_19 (q3.1 c5) (fun v9 h7 q8 => ?_)
    obtain ⟨z6, rfl, hS9, q8⟩ := q8
    refine wq_st (st' := [vI z6]) rfl ?_
    refine wq_if_eq 35 rfl dX10_type_22 (fun c10 => ?_) (fun c10 => ?_)
    · refine wq_sipush (z := -1003) (zlit rfl) rfl dX10_type_35 ?_
      exact wp_iret rfl dX10_type_38 (q8.1 c10)
    · refine wq_aload_n 0 rfl rfl dX10_type_25 ?_
      refine wq_getR fk_X10_14 tT_1 (fun _ _ _ => rfl) (sh_10_0 hS9) (by decide) dX10_type_26 ?_
      refine wq_getI fk_X10_95 tT_2 (fun _ _ _ => rfl) dX10_type_29 ?_
      refine wq_goto 38 rfl dX10_type_32 ?_
      exact wp_iret rfl dX10_type_38 (q8.2 c10)
  · refine wq_sipush (z := -1001) (zlit rfl) rfl dX10_type_10 ?_
    exact wp_iret rfl dX10_type_13 (q3.2 c5)
theorem dX10_clearText_0 : decode cX10_clearText 0 = .ok (.aload_n 0, 1) := by decide +kernel
theorem dX10_clearText_1 : decode cX10_clearText 1 = .ok (.getfield 14, 3) := by decide +kernel
theorem dX10_clearText_4 : decode cX10_clearText 4 = .ok (.getfield 95, 3) := by decide +kernel
theorem dX10_clearText_7 : decode cX10_clearText 7 = .ok (.istore_n 1, 1) := by decide +kernel
theorem dX10_clearText_8 : decode cX10_clearText 8 = .ok (.aload_n 0, 1) := by decide +kernel
theorem dX10_clearText_9 : decode cX10_clearText 9 = .ok (.getfield 14, 3) := by decide +kernel
theorem dX10_clearText_12 : decode cX10_clearText 12 = .ok (.iconst 0, 1) := by decide +kernel
theorem dX10_clearText_13 : decode cX10_clearText 13 = .ok (.putfield 95, 3) := by decide +kernel
theorem dX10_clearText_16 : decode cX10_clearText 16 = .ok (.iload_n 1, 1) := by decide +kernel
theorem dX10_clearText_17 : decode cX10_clearText 17 = .ok (.ireturn, 1) := by decide +kernel
theorem vc_X10_clearText_0 {G : zG} {d : Nat} {Q : Option zV → zHp → Prop}  (h : zHp) (hS : zSh h) (hd : 0 ≤ d)  
    (hv : (∀ x1 : Int, x1 = (gI h 2 1) → (∀ h3 : zHp, h3 = sI h 2 1 0 → Q (some (vI x1)) h3))) : wpN G d M_X10_clearText 0 [(0, vR 1)] [] h Q := by
  refine wq_aload_n 0 rfl rfl dX10_clearText_0 ?_
  refine wq_getR fk_X10_14 tT_1 (fun _ _ _ => rfl) (sh_10_0 hS) (by decide) dX10_clearText_1 ?_
  refine wq_getI fk_X10_95 tT_2 (fun _ _ _ => rfl) dX10_clearText_4 ?_
  refine wq_topI (fun x1 e2 => ?_)
  refine wq_istore_n (ls' := [(0, vR 1), (1, vI x1)]) rfl (by decide) rfl dX10_clearText_7 ?_
  refine wq_aload_n 0 rfl rfl dX10_clearText_8 ?_
  refine wq_getR fk_X10_14 tT_1 (fun _ _ _ => rfl) (sh_10_0 hS) (by decide) dX10_clearText_9 ?_
  refine wq_iconst (z := 0) (zlit rfl) dX10_clearText_12 ?_
  refine wq_putI fk_X10_95 tT_2 rfl rfl dX10_clearText_13 ?_
  refine wq_toph (fun h3 e4 => ?_)
  have sh3 : zSh h3 := zSh_of e4 hS
  refine wq_iload_n 1 rfl rfl dX10_clearText_16 ?_
  exact wp_iret rfl dX10_clearText_17 ((hv x1 e2) h3 e4)
theorem dX10_templateFault_0 : decode cX10_templateFault 0 = .ok (.aload_n 0, 1) := by decide +kernel
theorem dX10_templateFault_1 : decode cX10_templateFault 1 = .ok (.getfield 56, 3) := by decide +kernel
theorem dX10_templateFault_4 : decode cX10_templateFault 4 = .ok (.aload_n 0, 1) := by decide +kernel
theorem dX10_templateFault_5 : decode cX10_templateFault 5 = .ok (.getfield 47, 3) := by decide +kernel
theorem dX10_templateFault_8 : decode cX10_templateFault 8 = .ok (.invokevirtual 99, 3) := by decide +kernel
theorem dX10_templateFault_11 : decode cX10_templateFault 11 = .ok (.ireturn, 1) := by decide +kernel
theorem vc_X10_templateFault_0 {G : zG} {d : Nat} {Q : Option zV → zHp → Prop}  (h : zHp) (hS : zSh h) (hd : 8 ≤ d)  
    (hv : (zT 369 (gR h 1 10) = (108, 2) ∧ (wpN G (d - 1) M_X9_faultOf 0 (zar 0 [vR 211, vR (gR h 1 10)]) [] h (qI (fun z1 h2 => zSh h2 ∧ Q (some (vI z1)) h2))))) : wpN G d M_X10_templateFault 0 [(0, vR 1)] [] h Q := by
  refine wq_aload_n 0 rfl rfl dX10_templateFault_0 ?_
  refine wq_getR fk_X10_56 tT_1 (fun _ _ _ => rfl) (sh_10_6 hS) (by decide) dX10_templateFault_1 ?_
  refine wq_aload_n 0 rfl rfl dX10_templateFault_4 ?_
  refine wq_getR fk_X10_47 tT_1 (fun _ _ _ => rfl) rfl (zT_nz hv.1 (by decide)) dX10_templateFault_5 ?_
  refine wN_V (As := [vR (gR h 1 10)]) vm_X9_faultOf lk_X10_99 tT_211 rfl rfl (Nat.le_of_ble_eq_true rfl) (Nat.le_of_ble_eq_true rfl) (d' := d - 1) (by omega) dX10_templateFault_8 hv.2 (fun v9 h2 q3 => ?_)
  obtain ⟨z1, rfl, hS4, q3⟩ := q3
  refine wq_st (st' := [vI z1]) rfl ?_
  exact wp_iret rfl dX10_templateFault_11 q3
theorem dX10_define_0 : decode cX10_define 0 = .ok (.iload_n 1, 1) := by decide +kernel
theorem dX10_define_1 : decode cX10_define 1 = .ok (.iconst 0, 1) := by decide +kernel
theorem dX10_define_2 : decode cX10_define 2 = .ok (.iconst 3, 1) := by decide +kernel
theorem dX10_define_3 : decode cX10_define 3 = .ok (.invokestatic 87, 3) := by decide +kernel
theorem dX10_define_6 : decode cX10_define 6 = .ok (.ifCond .ne 7, 3) := by decide +kernel
theorem dX10_define_9 : decode cX10_define 9 = .ok (.sipush (-1001), 3) := by decide +kernel
theorem dX10_define_12 : decode cX10_define 12 = .ok (.ireturn, 1) := by decide +kernel
theorem dX10_define_13 : decode cX10_define 13 = .ok (.aload_n 0, 1) := by decide +kernel
theorem dX10_define_14 : decode cX10_define 14 = .ok (.getfield 27, 3) := by decide +kernel
theorem dX10_define_17 : decode cX10_define 17 = .ok (.iload_n 1, 1) := by decide +kernel
theorem dX10_define_18 : decode cX10_define 18 = .ok (.invokevirtual 103, 3) := by decide +kernel
theorem dX10_define_21 : decode cX10_define 21 = .ok (.ifCond .ne 20, 3) := by decide +kernel
theorem dX10_define_24 : decode cX10_define 24 = .ok (.aload_n 0, 1) := by decide +kernel
theorem dX10_define_25 : decode cX10_define 25 = .ok (.getfield 56, 3) := by decide +kernel
theorem dX10_define_28 : decode cX10_define 28 = .ok (.aload_n 0, 1) := by decide +kernel
theorem dX10_define_29 : decode cX10_define 29 = .ok (.getfield 47, 3) := by decide +kernel
theorem dX10_define_32 : decode cX10_define 32 = .ok (.invokevirtual 99, 3) := by decide +kernel
theorem dX10_define_35 : decode cX10_define 35 = .ok (.sipush (-1009), 3) := by decide +kernel
theorem dX10_define_38 : decode cX10_define 38 = .ok (.if_icmp .eq 7, 3) := by decide +kernel
theorem dX10_define_41 : decode cX10_define 41 = .ok (.sipush (-1002), 3) := by decide +kernel
theorem dX10_define_44 : decode cX10_define 44 = .ok (.ireturn, 1) := by decide +kernel
theorem dX10_define_45 : decode cX10_define 45 = .ok (.aload_n 0, 1) := by decide +kernel
theorem dX10_define_46 : decode cX10_define 46 = .ok (.getfield 42, 3) := by decide +kernel
theorem dX10_define_49 : decode cX10_define 49 = .ok (.iload_n 1, 1) := by decide +kernel
theorem dX10_define_50 : decode cX10_define 50 = .ok (.aaload, 1) := by decide +kernel
theorem dX10_define_51 : decode cX10_define 51 = .ok (.astore_n 2, 1) := by decide +kernel
theorem dX10_define_52 : decode cX10_define 52 = .ok (.aload_n 0, 1) := by decide +kernel
theorem dX10_define_53 : decode cX10_define 53 = .ok (.getfield 42, 3) := by decide +kernel
theorem dX10_define_56 : decode cX10_define 56 = .ok (.iload_n 1, 1) := by decide +kernel
theorem dX10_define_57 : decode cX10_define 57 = .ok (.aload_n 0, 1) := by decide +kernel
theorem dX10_define_58 : decode cX10_define 58 = .ok (.getfield 47, 3) := by decide +kernel
theorem dX10_define_61 : decode cX10_define 61 = .ok (.aastore, 1) := by decide +kernel
theorem dX10_define_62 : decode cX10_define 62 = .ok (.aload_n 0, 1) := by decide +kernel
theorem dX10_define_63 : decode cX10_define 63 = .ok (.aload_n 2, 1) := by decide +kernel
theorem dX10_define_64 : decode cX10_define 64 = .ok (.putfield 47, 3) := by decide +kernel
theorem dX10_define_67 : decode cX10_define 67 = .ok (.aload_n 0, 1) := by decide +kernel
theorem dX10_define_68 : decode cX10_define 68 = .ok (.getfield 14, 3) := by decide +kernel
theorem dX10_define_71 : decode cX10_define 71 = .ok (.iconst 0, 1) := by decide +kernel
theorem dX10_define_72 : decode cX10_define 72 = .ok (.putfield 95, 3) := by decide +kernel
theorem dX10_define_75 : decode cX10_define 75 = .ok (.aload_n 0, 1) := by decide +kernel
theorem dX10_define_76 : decode cX10_define 76 = .ok (.getfield 42, 3) := by decide +kernel
theorem dX10_define_79 : decode cX10_define 79 = .ok (.iload_n 1, 1) := by decide +kernel
theorem dX10_define_80 : decode cX10_define 80 = .ok (.aaload, 1) := by decide +kernel
theorem dX10_define_81 : decode cX10_define 81 = .ok (.getfield 106, 3) := by decide +kernel
theorem dX10_define_84 : decode cX10_define 84 = .ok (.ireturn, 1) := by decide +kernel
theorem vc_X10_define_0 {G : zG} {d : Nat} {Q : Option zV → zHp → Prop} (p1 : Int) (h : zHp) (hS : zSh h) (hd : 8 ≤ d)  
    (hv : (wpN G (d - 1) M_X10_isWithin 0 (zar 0 [vI p1, vI 0, vI 3]) [] h (qI (fun z1 h2 => zSh h2 ∧ ((z1 ≠ 0 → (wpN G (d - 1) M_X2_uses 0 (zar 0 [vR 8, vI p1]) [] h2 (qI (fun z6 h7 => zSh h7 ∧ ((z6 ≠ 0 → Q (some (vI (-1002))) h7) ∧ (z6 = 0 → (zT 369 (gR h7 1 10) = (108, 2) ∧ (wpN G (d - 1) M_X9_faultOf 0 (zar 0 [vR 211, vR (gR h7 1 10)]) [] h7 (qI (fun z11 h12 => zSh h12 ∧ ((z11 = (-1009) → (((0 : Int) ≤ p1 ∧ p1 < ((4 : Nat) : Int)) ∧ (zT 369 (gR h12 80 p1.toNat) = (108, 2) ∧ (zT 369 (gR h12 1 10) = (108, 2) ∧ (((0 : Int) ≤ p1 ∧ p1 < ((4 : Nat) : Int)) ∧ (∀ h16 : zHp, h16 = sR h12 80 p1.toNat (gR h12 1 10) → (∀ h18 : zHp, h18 = sR h16 1 10 (gR h12 80 p1.toNat) → (∀ h20 : zHp, h20 = sI h18 2 1 0 → (((0 : Int) ≤ p1 ∧ p1 < ((4 : Nat) : Int)) ∧ (zT 369 (gR h20 80 p1.toNat) = (108, 2) ∧ Q (some (vI (gI h20 (gR h20 80 p1.toNat) 1))) h20)))))))))) ∧ (z11 ≠ (-1009) → Q (some (vI (-1002))) h12)))))))))))) ∧ (z1 = 0 → Q (some (vI (-1001))) h2)))))) : wpN G d M_X10_define 0 [(0, vR 1), (1, vI p1)] [] h Q := by
  refine wq_iload_n 1 rfl rfl dX10_define_0 ?_
  refine wq_iconst (z := 0) (zlit rfl) dX10_define_1 ?_
  refine wq_iconst (z := 3) (zlit rfl) dX10_define_2 ?_
  refine wN_S (As := [vI p1, vI 0, vI 3]) md_X10_isWithin ms_X10_isWithin lk_X10_87 rfl rfl (Nat.le_of_ble_eq_true rfl) (Nat.le_of_ble_eq_true rfl) (d' := d - 1) (by omega) dX10_define_3 hv (fun v9 h2 q3 => ?_)
  obtain ⟨z1, rfl, hS4, q3⟩ := q3
  refine wq_st (st' := [vI z1]) rfl ?_
  refine wq_if_ne 13 rfl dX10_define_6 (fun c5 => ?_) (fun c5 => ?_)
  · refine wq_aload_n 0 rfl rfl dX10_define_13 ?_
    refine wq_getR fk_X10_27 tT_1 (fun _ _ _ => rfl) (sh_10_3 hS4) (by decide) dX10_define_14 ?_
    refine wq_iload_n 1 rfl rfl dX10_define_17 ?_
    refine wN_V (As := [vI p1]) vm_X2_uses lk_X10_103 tT_8 rfl rfl (Nat.le_of_ble_eq_true rfl) (Nat.le_of_ble_eq_true rfl) (d' := d - 1) (by omega) dX10_define_18 (q3.1 c5) (fun v9 h7 q8 => ?_)
    obtain ⟨z6, rfl, hS9, q8⟩ := q8
    refine wq_st (st' := [vI z6]) rfl ?_
    refine wq_if_ne 41 rfl dX10_define_21 (fun c10 => ?_) (fun c10 => ?_)
    · refine wq_sipush (z := -1002) (zlit rfl) rfl dX10_define_41 ?_
      exact wp_iret rfl dX10_define_44 (q8.1 c10)
    · refine wq_aload_n 0 rfl rfl dX10_define_24 ?_
      refine wq_getR fk_X10_56 tT_1 (fun _ _ _ => rfl) (sh_10_6 hS9) (by decide) dX10_define_25 ?_
      refine wq_aload_n 0 rfl rfl dX10_define_28 ?_
      refine wq_getR fk_X10_47 tT_1 (fun _ _ _ => rfl) rfl (zT_nz (q8.2 c10).1 (by decide)) dX10_define_29 ?_
      refine wN_V (As := [vR (gR h7 1 10)]) vm_X9_faultOf lk_X10_99 tT_211 rfl rfl (Nat.le_of_ble_eq_true rfl) (Nat.le_of_ble_eq_true rfl) (d' := d - 1) (by omega) dX10_define_32 (q8.2 c10).2 (fun v9 h12 q13 => ?_)
      obtain ⟨z11, rfl, hS14, q13⟩ := q13
      refine wq_st (st' := [vI z11]) rfl ?_
      refine wq_sipush (z := -1009) (zlit rfl) rfl dX10_define_35 ?_
      refine wq_icmp_eq 45 rfl dX10_define_38 (fun c15 => ?_) (fun c15 => ?_)
      · refine wq_aload_n 0 rfl rfl dX10_define_45 ?_
        refine wq_getR fk_X10_42 tT_1 (fun _ _ _ => rfl) (sh_10_5 hS14) (by decide) dX10_define_46 ?_
        refine wq_iload_n 1 rfl rfl dX10_define_49 ?_
        refine wq_aald tT_80 (by decide) (by decide) rfl (q13.1 c15).1.1 (q13.1 c15).1.2 rfl (zT_nz (q13.1 c15).2.1 (by decide)) dX10_define_50 ?_
        refine wq_astore_n (ls' := [(0, vR 1), (1, vI p1), (2, vR (gR h12 80 p1.toNat))]) rfl (by decide) rfl dX10_define_51 ?_
        refine wq_aload_n 0 rfl rfl dX10_define_52 ?_
        refine wq_getR fk_X10_42 tT_1 (fun _ _ _ => rfl) (sh_10_5 hS14) (by decide) dX10_define_53 ?_
        refine wq_iload_n 1 rfl rfl dX10_define_56 ?_
        refine wq_aload_n 0 rfl rfl dX10_define_57 ?_
        refine wq_getR fk_X10_47 tT_1 (fun _ _ _ => rfl) rfl (zT_nz (q13.1 c15).2.2.1 (by decide)) dX10_define_58 ?_
        refine wq_aast tT_80 (by decide) (by decide) rfl (q13.1 c15).2.2.1 (zT_nz (q13.1 c15).2.2.1 (by decide)) cl_8.1 (q13.1 c15).2.2.2.1.1 (q13.1 c15).2.2.2.1.2 dX10_define_61 ?_
        refine wq_toph (fun h16 e17 => ?_)
        have sh16 : zSh h16 := zSh_pu_80 e17 hS14
        refine wq_aload_n 0 rfl rfl dX10_define_62 ?_
        refine wq_aload_n 2 rfl rfl dX10_define_63 ?_
        refine wq_putR (zT_nz (q13.1 c15).2.1 (by decide)) fk_X10_47 tT_1 (Or.inl rfl) (fun _ _ _ => rfl) (fun _ => rfl) (fun _ => rfl) dX10_define_64 ?_
        refine wq_toph (fun h18 e19 => ?_)
        have sh18 : zSh h18 := zSh_put e19 sh16 (by decide)
        refine wq_aload_n 0 rfl rfl dX10_define_67 ?_
        refine wq_getR fk_X10_14 tT_1 (fun _ _ _ => rfl) (sh_10_0 sh18) (by decide) dX10_define_68 ?_
        refine wq_iconst (z := 0) (zlit rfl) dX10_define_71 ?_
        refine wq_putI fk_X10_95 tT_2 rfl rfl dX10_define_72 ?_
        refine wq_toph (fun h20 e21 => ?_)
        have sh20 : zSh h20 := zSh_of e21 sh18
        refine wq_aload_n 0 rfl rfl dX10_define_75 ?_
        refine wq_getR fk_X10_42 tT_1 (fun _ _ _ => rfl) (sh_10_5 sh20) (by decide) dX10_define_76 ?_
        refine wq_iload_n 1 rfl rfl dX10_define_79 ?_
        refine wq_aald tT_80 (by decide) (by decide) rfl ((((q13.1 c15).2.2.2.2 h16 e17) h18 e19) h20 e21).1.1 ((((q13.1 c15).2.2.2.2 h16 e17) h18 e19) h20 e21).1.2 rfl (zT_nz ((((q13.1 c15).2.2.2.2 h16 e17) h18 e19) h20 e21).2.1 (by decide)) dX10_define_80 ?_
        refine wq_getI fk_X10_106 ((((q13.1 c15).2.2.2.2 h16 e17) h18 e19) h20 e21).2.1 (fun _ _ _ => rfl) dX10_define_81 ?_
        exact wp_iret rfl dX10_define_84 ((((q13.1 c15).2.2.2.2 h16 e17) h18 e19) h20 e21).2.2
      · refine wq_sipush (z := -1002) (zlit rfl) rfl dX10_define_41 ?_
        exact wp_iret rfl dX10_define_44 (q13.2 c15)
  · refine wq_sipush (z := -1001) (zlit rfl) rfl dX10_define_9 ?_
    exact wp_iret rfl dX10_define_12 (q3.2 c5)
theorem dX10_items_0 : decode cX10_items 0 = .ok (.iload_n 1, 1) := by decide +kernel
theorem dX10_items_1 : decode cX10_items 1 = .ok (.iconst 0, 1) := by decide +kernel
theorem dX10_items_2 : decode cX10_items 2 = .ok (.iconst 3, 1) := by decide +kernel
theorem dX10_items_3 : decode cX10_items 3 = .ok (.invokestatic 87, 3) := by decide +kernel
theorem dX10_items_6 : decode cX10_items 6 = .ok (.ifCond .eq 15, 3) := by decide +kernel
theorem dX10_items_9 : decode cX10_items 9 = .ok (.aload_n 0, 1) := by decide +kernel
theorem dX10_items_10 : decode cX10_items 10 = .ok (.getfield 42, 3) := by decide +kernel
theorem dX10_items_13 : decode cX10_items 13 = .ok (.iload_n 1, 1) := by decide +kernel
theorem dX10_items_14 : decode cX10_items 14 = .ok (.aaload, 1) := by decide +kernel
theorem dX10_items_15 : decode cX10_items 15 = .ok (.getfield 106, 3) := by decide +kernel
theorem dX10_items_18 : decode cX10_items 18 = .ok (.goto 6, 3) := by decide +kernel
theorem dX10_items_21 : decode cX10_items 21 = .ok (.sipush (-1001), 3) := by decide +kernel
theorem dX10_items_24 : decode cX10_items 24 = .ok (.ireturn, 1) := by decide +kernel
theorem vc_X10_items_0 {G : zG} {d : Nat} {Q : Option zV → zHp → Prop} (p1 : Int) (h : zHp) (hS : zSh h) (hd : 1 ≤ d)  
    (hv : (wpN G (d - 1) M_X10_isWithin 0 (zar 0 [vI p1, vI 0, vI 3]) [] h (qI (fun z1 h2 => zSh h2 ∧ ((z1 = 0 → Q (some (vI (-1001))) h2) ∧ (z1 ≠ 0 → (((0 : Int) ≤ p1 ∧ p1 < ((4 : Nat) : Int)) ∧ (zT 369 (gR h2 80 p1.toNat) = (108, 2) ∧ Q (some (vI (gI h2 (gR h2 80 p1.toNat) 1))) h2)))))))) : wpN G d M_X10_items 0 [(0, vR 1), (1, vI p1)] [] h Q := by
  refine wq_iload_n 1 rfl rfl dX10_items_0 ?_
  refine wq_iconst (z := 0) (zlit rfl) dX10_items_1 ?_
  refine wq_iconst (z := 3) (zlit rfl) dX10_items_2 ?_
  refine wN_S (As := [vI p1, vI 0, vI 3]) md_X10_isWithin ms_X10_isWithin lk_X10_87 rfl rfl (Nat.le_of_ble_eq_true rfl) (Nat.le_of_ble_eq_true rfl) (d' := d - 1) (by omega) dX10_items_3 hv (fun v9 h2 q3 => ?_)
  obtain ⟨z1, rfl, hS4, q3⟩ := q3
  refine wq_st (st' := [vI z1]) rfl ?_
  refine wq_if_eq 21 rfl dX10_items_6 (fun c5 => ?_) (fun c5 => ?_)
  · refine wq_sipush (z := -1001) (zlit rfl) rfl dX10_items_21 ?_
    exact wp_iret rfl dX10_items_24 (q3.1 c5)
  · refine wq_aload_n 0 rfl rfl dX10_items_9 ?_
    refine wq_getR fk_X10_42 tT_1 (fun _ _ _ => rfl) (sh_10_5 hS4) (by decide) dX10_items_10 ?_
    refine wq_iload_n 1 rfl rfl dX10_items_13 ?_
    refine wq_aald tT_80 (by decide) (by decide) rfl (q3.2 c5).1.1 (q3.2 c5).1.2 rfl (zT_nz (q3.2 c5).2.1 (by decide)) dX10_items_14 ?_
    refine wq_getI fk_X10_106 (q3.2 c5).2.1 (fun _ _ _ => rfl) dX10_items_15 ?_
    refine wq_goto 24 rfl dX10_items_18 ?_
    exact wp_iret rfl dX10_items_24 (q3.2 c5).2.2
theorem dX10_patternFault_0 : decode cX10_patternFault 0 = .ok (.aload_n 0, 1) := by decide +kernel
theorem dX10_patternFault_1 : decode cX10_patternFault 1 = .ok (.getfield 63, 3) := by decide +kernel
theorem dX10_patternFault_4 : decode cX10_patternFault 4 = .ok (.aload_n 0, 1) := by decide +kernel
theorem dX10_patternFault_5 : decode cX10_patternFault 5 = .ok (.getfield 14, 3) := by decide +kernel
theorem dX10_patternFault_8 : decode cX10_patternFault 8 = .ok (.invokevirtual 109, 3) := by decide +kernel
theorem dX10_patternFault_11 : decode cX10_patternFault 11 = .ok (.ireturn, 1) := by decide +kernel
theorem vc_X10_patternFault_0 {G : zG} {d : Nat} {Q : Option zV → zHp → Prop}  (h : zHp) (hS : zSh h) (hd : 2 ≤ d)  
    (hv : (wpN G (d - 1) M_X7_faultOf 0 (zar 0 [vR 212, vR 2]) [] h (qI (fun z1 h2 => zSh h2 ∧ Q (some (vI z1)) h2)))) : wpN G d M_X10_patternFault 0 [(0, vR 1)] [] h Q := by
  refine wq_aload_n 0 rfl rfl dX10_patternFault_0 ?_
  refine wq_getR fk_X10_63 tT_1 (fun _ _ _ => rfl) (sh_10_7 hS) (by decide) dX10_patternFault_1 ?_
  refine wq_aload_n 0 rfl rfl dX10_patternFault_4 ?_
  refine wq_getR fk_X10_14 tT_1 (fun _ _ _ => rfl) (sh_10_0 hS) (by decide) dX10_patternFault_5 ?_
  refine wN_V (As := [vR 2]) vm_X7_faultOf lk_X10_109 tT_212 rfl rfl (Nat.le_of_ble_eq_true rfl) (Nat.le_of_ble_eq_true rfl) (d' := d - 1) (by omega) dX10_patternFault_8 hv (fun v9 h2 q3 => ?_)
  obtain ⟨z1, rfl, hS4, q3⟩ := q3
  refine wq_st (st' := [vI z1]) rfl ?_
  exact wp_iret rfl dX10_patternFault_11 q3
theorem dX10_find_0 : decode cX10_find 0 = .ok (.iload_n 1, 1) := by decide +kernel
theorem dX10_find_1 : decode cX10_find 1 = .ok (.iconst 0, 1) := by decide +kernel
theorem dX10_find_2 : decode cX10_find 2 = .ok (.sipush 200, 3) := by decide +kernel
theorem dX10_find_5 : decode cX10_find 5 = .ok (.invokestatic 87, 3) := by decide +kernel
theorem dX10_find_8 : decode cX10_find 8 = .ok (.ifCond .ne 7, 3) := by decide +kernel
theorem dX10_find_11 : decode cX10_find 11 = .ok (.sipush (-1001), 3) := by decide +kernel
theorem dX10_find_14 : decode cX10_find 14 = .ok (.ireturn, 1) := by decide +kernel
theorem dX10_find_15 : decode cX10_find 15 = .ok (.aload_n 0, 1) := by decide +kernel
theorem dX10_find_16 : decode cX10_find 16 = .ok (.getfield 63, 3) := by decide +kernel
theorem dX10_find_19 : decode cX10_find 19 = .ok (.aload_n 0, 1) := by decide +kernel
theorem dX10_find_20 : decode cX10_find 20 = .ok (.getfield 14, 3) := by decide +kernel
theorem dX10_find_23 : decode cX10_find 23 = .ok (.invokevirtual 109, 3) := by decide +kernel
theorem dX10_find_26 : decode cX10_find 26 = .ok (.sipush (-1009), 3) := by decide +kernel
theorem dX10_find_29 : decode cX10_find 29 = .ok (.if_icmp .eq 7, 3) := by decide +kernel
theorem dX10_find_32 : decode cX10_find 32 = .ok (.sipush (-1002), 3) := by decide +kernel
theorem dX10_find_35 : decode cX10_find 35 = .ok (.ireturn, 1) := by decide +kernel
theorem dX10_find_36 : decode cX10_find 36 = .ok (.iload_n 1, 1) := by decide +kernel
theorem dX10_find_37 : decode cX10_find 37 = .ok (.istore_n 2, 1) := by decide +kernel
theorem dX10_find_38 : decode cX10_find 38 = .ok (.iload_n 2, 1) := by decide +kernel
theorem dX10_find_39 : decode cX10_find 39 = .ok (.aload_n 0, 1) := by decide +kernel
theorem dX10_find_40 : decode cX10_find 40 = .ok (.getfield 27, 3) := by decide +kernel
theorem dX10_find_43 : decode cX10_find 43 = .ok (.getfield 69, 3) := by decide +kernel
theorem dX10_find_46 : decode cX10_find 46 = .ok (.getfield 95, 3) := by decide +kernel
theorem dX10_find_49 : decode cX10_find 49 = .ok (.if_icmp .ge 29, 3) := by decide +kernel
theorem dX10_find_52 : decode cX10_find 52 = .ok (.aload_n 0, 1) := by decide +kernel
theorem dX10_find_53 : decode cX10_find 53 = .ok (.getfield 63, 3) := by decide +kernel
theorem dX10_find_56 : decode cX10_find 56 = .ok (.aload_n 0, 1) := by decide +kernel
theorem dX10_find_57 : decode cX10_find 57 = .ok (.getfield 27, 3) := by decide +kernel
theorem dX10_find_60 : decode cX10_find 60 = .ok (.getfield 69, 3) := by decide +kernel
theorem dX10_find_63 : decode cX10_find 63 = .ok (.iload_n 2, 1) := by decide +kernel
theorem dX10_find_64 : decode cX10_find 64 = .ok (.invokevirtual 112, 3) := by decide +kernel
theorem dX10_find_67 : decode cX10_find 67 = .ok (.ifCond .eq 5, 3) := by decide +kernel
theorem dX10_find_70 : decode cX10_find 70 = .ok (.iload_n 2, 1) := by decide +kernel
theorem dX10_find_71 : decode cX10_find 71 = .ok (.ireturn, 1) := by decide +kernel
theorem dX10_find_72 : decode cX10_find 72 = .ok (.iinc 2 1, 3) := by decide +kernel
theorem dX10_find_75 : decode cX10_find 75 = .ok (.goto (-37), 3) := by decide +kernel
theorem dX10_find_78 : decode cX10_find 78 = .ok (.sipush (-1009), 3) := by decide +kernel
theorem dX10_find_81 : decode cX10_find 81 = .ok (.ireturn, 1) := by decide +kernel
theorem vc_X10_find_0 {G : zG} {d : Nat} {Q : Option zV → zHp → Prop} (p1 : Int) (h : zHp) (hS : zSh h) (hd : 2 ≤ d) (I_38 : Int → Int → zHp → Prop) (hI_38 : ∀ (y1 : Int) (y2 : Int) (h' : zHp), I_38 y1 y2 h' → wpN G d M_X10_find 38 [(0, vR 1), (1, vI y1), (2, vI y2)] [] h' Q) 
    (hv : (wpN G (d - 1) M_X10_isWithin 0 (zar 0 [vI p1, vI 0, vI 200]) [] h (qI (fun z1 h2 => zSh h2 ∧ ((z1 ≠ 0 → (wpN G (d - 1) M_X7_faultOf 0 (zar 0 [vR 212, vR 2]) [] h2 (qI (fun z6 h7 => zSh h7 ∧ ((z6 = (-1009) → (zSh h7 → I_38 p1 p1 h7)) ∧ (z6 ≠ (-1009) → Q (some (vI (-1002))) h7)))))) ∧ (z1 = 0 → Q (some (vI (-1001))) h2)))))) : wpN G d M_X10_find 0 [(0, vR 1), (1, vI p1)] [] h Q := by
  refine wq_iload_n 1 rfl rfl dX10_find_0 ?_
  refine wq_iconst (z := 0) (zlit rfl) dX10_find_1 ?_
  refine wq_sipush (z := 200) (zlit rfl) rfl dX10_find_2 ?_
  refine wN_S (As := [vI p1, vI 0, vI 200]) md_X10_isWithin ms_X10_isWithin lk_X10_87 rfl rfl (Nat.le_of_ble_eq_true rfl) (Nat.le_of_ble_eq_true rfl) (d' := d - 1) (by omega) dX10_find_5 hv (fun v9 h2 q3 => ?_)
  obtain ⟨z1, rfl, hS4, q3⟩ := q3
  refine wq_st (st' := [vI z1]) rfl ?_
  refine wq_if_ne 15 rfl dX10_find_8 (fun c5 => ?_) (fun c5 => ?_)
  · refine wq_aload_n 0 rfl rfl dX10_find_15 ?_
    refine wq_getR fk_X10_63 tT_1 (fun _ _ _ => rfl) (sh_10_7 hS4) (by decide) dX10_find_16 ?_
    refine wq_aload_n 0 rfl rfl dX10_find_19 ?_
    refine wq_getR fk_X10_14 tT_1 (fun _ _ _ => rfl) (sh_10_0 hS4) (by decide) dX10_find_20 ?_
    refine wN_V (As := [vR 2]) vm_X7_faultOf lk_X10_109 tT_212 rfl rfl (Nat.le_of_ble_eq_true rfl) (Nat.le_of_ble_eq_true rfl) (d' := d - 1) (by omega) dX10_find_23 (q3.1 c5) (fun v9 h7 q8 => ?_)
    obtain ⟨z6, rfl, hS9, q8⟩ := q8
    refine wq_st (st' := [vI z6]) rfl ?_
    refine wq_sipush (z := -1009) (zlit rfl) rfl dX10_find_26 ?_
    refine wq_icmp_eq 36 rfl dX10_find_29 (fun c10 => ?_) (fun c10 => ?_)
    · refine wq_iload_n 1 rfl rfl dX10_find_36 ?_
      refine wq_istore_n (ls' := [(0, vR 1), (1, vI p1), (2, vI p1)]) rfl (by decide) rfl dX10_find_37 ?_
      exact wq_pick [0, 1, 2] rfl (hI_38 p1 p1 h7 ((q8.1 c10) hS9))
    · refine wq_sipush (z := -1002) (zlit rfl) rfl dX10_find_32 ?_
      exact wp_iret rfl dX10_find_35 (q8.2 c10)
  · refine wq_sipush (z := -1001) (zlit rfl) rfl dX10_find_11 ?_
    exact wp_iret rfl dX10_find_14 (q3.2 c5)
theorem vc_X10_find_38 {G : zG} {d : Nat} {Q : Option zV → zHp → Prop} (y1 : Int) (y2 : Int) (h : zHp) (hS : zSh h) (hd : 2 ≤ d) (I_38 : Int → Int → zHp → Prop) (hI_38 : ∀ (y1 : Int) (y2 : Int) (h' : zHp), I_38 y1 y2 h' → wpN G d M_X10_find 38 [(0, vR 1), (1, vI y1), (2, vI y2)] [] h' Q) 
    (hv : (((gI h 9 1) ≤ y2 → Q (some (vI (-1009))) h) ∧ (y2 < (gI h 9 1) → (wpN G (d - 1) M_X7_fits 0 (zar 0 [vR 212, vR 9, vI y2]) [] h (qI (fun z2 h3 => zSh h3 ∧ ((z2 = 0 → ((-2147483648 ≤ y2 + 1 ∧ y2 + 1 ≤ 2147483647) ∧ ∀ x7 : Int, x7 = y2 + 1 → (zSh h3 → I_38 y1 x7 h3))) ∧ (z2 ≠ 0 → Q (some (vI y2)) h3)))))))) : wpN G d M_X10_find 38 [(0, vR 1), (1, vI y1), (2, vI y2)] [] h Q := by
  refine wq_iload_n 2 rfl rfl dX10_find_38 ?_
  refine wq_aload_n 0 rfl rfl dX10_find_39 ?_
  refine wq_getR fk_X10_27 tT_1 (fun _ _ _ => rfl) (sh_10_3 hS) (by decide) dX10_find_40 ?_
  refine wq_getR (r := 9) fk_X10_69 tT_8 (fun _ _ _ => rfl) (sh_2_0 hS tT_8) (by decide) dX10_find_43 ?_
  refine wq_getI fk_X10_95 tT_9 (fun _ _ _ => rfl) dX10_find_46 ?_
  refine wq_icmp_ge 78 rfl dX10_find_49 (fun c1 => ?_) (fun c1 => ?_)
  · refine wq_sipush (z := -1009) (zlit rfl) rfl dX10_find_78 ?_
    exact wp_iret rfl dX10_find_81 (hv.1 c1)
  · refine wq_aload_n 0 rfl rfl dX10_find_52 ?_
    refine wq_getR fk_X10_63 tT_1 (fun _ _ _ => rfl) (sh_10_7 hS) (by decide) dX10_find_53 ?_
    refine wq_aload_n 0 rfl rfl dX10_find_56 ?_
    refine wq_getR fk_X10_27 tT_1 (fun _ _ _ => rfl) (sh_10_3 hS) (by decide) dX10_find_57 ?_
    refine wq_getR (r := 9) fk_X10_69 tT_8 (fun _ _ _ => rfl) (sh_2_0 hS tT_8) (by decide) dX10_find_60 ?_
    refine wq_iload_n 2 rfl rfl dX10_find_63 ?_
    refine wN_V (As := [vR 9, vI y2]) vm_X7_fits lk_X10_112 tT_212 rfl rfl (Nat.le_of_ble_eq_true rfl) (Nat.le_of_ble_eq_true rfl) (d' := d - 1) (by omega) dX10_find_64 (hv.2 c1) (fun v9 h3 q4 => ?_)
    obtain ⟨z2, rfl, hS5, q4⟩ := q4
    refine wq_st (st' := [vI z2]) rfl ?_
    refine wq_if_eq 72 rfl dX10_find_67 (fun c6 => ?_) (fun c6 => ?_)
    · refine z_nm (y2 + 1) (fun x7 e8 => ?_)
      refine wq_iinc (y := x7) (ls' := [(0, vR 1), (1, vI y1), (2, vI x7)]) 2 rfl e8.symm (by rw [e8]; exact (q4.1 c6).1) (by decide) rfl dX10_find_72 ?_
      refine wq_goto 38 rfl dX10_find_75 ?_
      exact wq_pick [0, 1, 2] rfl (hI_38 y1 x7 h3 (((q4.1 c6).2 x7 e8) hS5))
    · refine wq_iload_n 2 rfl rfl dX10_find_70 ?_
      exact wp_iret rfl dX10_find_71 (q4.2 c6)
theorem dX10_matches_0 : decode cX10_matches 0 = .ok (.aload_n 0, 1) := by decide +kernel
theorem dX10_matches_1 : decode cX10_matches 1 = .ok (.getfield 63, 3) := by decide +kernel
theorem dX10_matches_4 : decode cX10_matches 4 = .ok (.aload_n 0, 1) := by decide +kernel
theorem dX10_matches_5 : decode cX10_matches 5 = .ok (.getfield 14, 3) := by decide +kernel
theorem dX10_matches_8 : decode cX10_matches 8 = .ok (.invokevirtual 109, 3) := by decide +kernel
theorem dX10_matches_11 : decode cX10_matches 11 = .ok (.sipush (-1009), 3) := by decide +kernel
theorem dX10_matches_14 : decode cX10_matches 14 = .ok (.if_icmp .eq 7, 3) := by decide +kernel
theorem dX10_matches_17 : decode cX10_matches 17 = .ok (.sipush (-1002), 3) := by decide +kernel
theorem dX10_matches_20 : decode cX10_matches 20 = .ok (.ireturn, 1) := by decide +kernel
theorem dX10_matches_21 : decode cX10_matches 21 = .ok (.iconst 0, 1) := by decide +kernel
theorem dX10_matches_22 : decode cX10_matches 22 = .ok (.istore_n 1, 1) := by decide +kernel
theorem dX10_matches_23 : decode cX10_matches 23 = .ok (.iconst 0, 1) := by decide +kernel
theorem dX10_matches_24 : decode cX10_matches 24 = .ok (.istore_n 2, 1) := by decide +kernel
theorem dX10_matches_25 : decode cX10_matches 25 = .ok (.iload_n 2, 1) := by decide +kernel
theorem dX10_matches_26 : decode cX10_matches 26 = .ok (.aload_n 0, 1) := by decide +kernel
theorem dX10_matches_27 : decode cX10_matches 27 = .ok (.getfield 27, 3) := by decide +kernel
theorem dX10_matches_30 : decode cX10_matches 30 = .ok (.getfield 69, 3) := by decide +kernel
theorem dX10_matches_33 : decode cX10_matches 33 = .ok (.getfield 95, 3) := by decide +kernel
theorem dX10_matches_36 : decode cX10_matches 36 = .ok (.if_icmp .ge 30, 3) := by decide +kernel
theorem dX10_matches_39 : decode cX10_matches 39 = .ok (.aload_n 0, 1) := by decide +kernel
theorem dX10_matches_40 : decode cX10_matches 40 = .ok (.getfield 63, 3) := by decide +kernel
theorem dX10_matches_43 : decode cX10_matches 43 = .ok (.aload_n 0, 1) := by decide +kernel
theorem dX10_matches_44 : decode cX10_matches 44 = .ok (.getfield 27, 3) := by decide +kernel
theorem dX10_matches_47 : decode cX10_matches 47 = .ok (.getfield 69, 3) := by decide +kernel
theorem dX10_matches_50 : decode cX10_matches 50 = .ok (.iload_n 2, 1) := by decide +kernel
theorem dX10_matches_51 : decode cX10_matches 51 = .ok (.invokevirtual 112, 3) := by decide +kernel
theorem dX10_matches_54 : decode cX10_matches 54 = .ok (.ifCond .eq 6, 3) := by decide +kernel
theorem dX10_matches_57 : decode cX10_matches 57 = .ok (.iinc 1 1, 3) := by decide +kernel
theorem dX10_matches_60 : decode cX10_matches 60 = .ok (.iinc 2 1, 3) := by decide +kernel
theorem dX10_matches_63 : decode cX10_matches 63 = .ok (.goto (-38), 3) := by decide +kernel
theorem dX10_matches_66 : decode cX10_matches 66 = .ok (.iload_n 1, 1) := by decide +kernel
theorem dX10_matches_67 : decode cX10_matches 67 = .ok (.ireturn, 1) := by decide +kernel
theorem vc_X10_matches_0 {G : zG} {d : Nat} {Q : Option zV → zHp → Prop}  (h : zHp) (hS : zSh h) (hd : 2 ≤ d) (I_25 : Int → Int → zHp → Prop) (hI_25 : ∀ (y1 : Int) (y2 : Int) (h' : zHp), I_25 y1 y2 h' → wpN G d M_X10_matches 25 [(0, vR 1), (1, vI y1), (2, vI y2)] [] h' Q) 
    (hv : (wpN G (d - 1) M_X7_faultOf 0 (zar 0 [vR 212, vR 2]) [] h (qI (fun z1 h2 => zSh h2 ∧ ((z1 = (-1009) → (zSh h2 → I_25 0 0 h2)) ∧ (z1 ≠ (-1009) → Q (some (vI (-1002))) h2)))))) : wpN G d M_X10_matches 0 [(0, vR 1)] [] h Q := by
  refine wq_aload_n 0 rfl rfl dX10_matches_0 ?_
  refine wq_getR fk_X10_63 tT_1 (fun _ _ _ => rfl) (sh_10_7 hS) (by decide) dX10_matches_1 ?_
  refine wq_aload_n 0 rfl rfl dX10_matches_4 ?_
  refine wq_getR fk_X10_14 tT_1 (fun _ _ _ => rfl) (sh_10_0 hS) (by decide) dX10_matches_5 ?_
  refine wN_V (As := [vR 2]) vm_X7_faultOf lk_X10_109 tT_212 rfl rfl (Nat.le_of_ble_eq_true rfl) (Nat.le_of_ble_eq_true rfl) (d' := d - 1) (by omega) dX10_matches_8 hv (fun v9 h2 q3 => ?_)
  obtain ⟨z1, rfl, hS4, q3⟩ := q3
  refine wq_st (st' := [vI z1]) rfl ?_
  refine wq_sipush (z := -1009) (zlit rfl) rfl dX10_matches_11 ?_
  refine wq_icmp_eq 21 rfl dX10_matches_14 (fun c5 => ?_) (fun c5 => ?_)
  · refine wq_iconst (z := 0) (zlit rfl) dX10_matches_21 ?_
    refine wq_istore_n (ls' := [(0, vR 1), (1, vI 0)]) rfl (by decide) rfl dX10_matches_22 ?_
    refine wq_iconst (z := 0) (zlit rfl) dX10_matches_23 ?_
    refine wq_istore_n (ls' := [(0, vR 1), (1, vI 0), (2, vI 0)]) rfl (by decide) rfl dX10_matches_24 ?_
    exact wq_pick [0, 1, 2] rfl (hI_25 0 0 h2 ((q3.1 c5) hS4))
  · refine wq_sipush (z := -1002) (zlit rfl) rfl dX10_matches_17 ?_
    exact wp_iret rfl dX10_matches_20 (q3.2 c5)
theorem vc_X10_matches_25 {G : zG} {d : Nat} {Q : Option zV → zHp → Prop} (y1 : Int) (y2 : Int) (h : zHp) (hS : zSh h) (hd : 2 ≤ d) (I_25 : Int → Int → zHp → Prop) (hI_25 : ∀ (y1 : Int) (y2 : Int) (h' : zHp), I_25 y1 y2 h' → wpN G d M_X10_matches 25 [(0, vR 1), (1, vI y1), (2, vI y2)] [] h' Q) 
    (hv : (((gI h 9 1) ≤ y2 → Q (some (vI y1)) h) ∧ (y2 < (gI h 9 1) → (wpN G (d - 1) M_X7_fits 0 (zar 0 [vR 212, vR 9, vI y2]) [] h (qI (fun z2 h3 => zSh h3 ∧ ((z2 = 0 → ((-2147483648 ≤ y2 + 1 ∧ y2 + 1 ≤ 2147483647) ∧ ∀ x7 : Int, x7 = y2 + 1 → (zSh h3 → I_25 y1 x7 h3))) ∧ (z2 ≠ 0 → ((-2147483648 ≤ y1 + 1 ∧ y1 + 1 ≤ 2147483647) ∧ ∀ x9 : Int, x9 = y1 + 1 → ((-2147483648 ≤ y2 + 1 ∧ y2 + 1 ≤ 2147483647) ∧ ∀ x11 : Int, x11 = y2 + 1 → (zSh h3 → I_25 x9 x11 h3))))))))))) : wpN G d M_X10_matches 25 [(0, vR 1), (1, vI y1), (2, vI y2)] [] h Q := by
  refine wq_iload_n 2 rfl rfl dX10_matches_25 ?_
  refine wq_aload_n 0 rfl rfl dX10_matches_26 ?_
  refine wq_getR fk_X10_27 tT_1 (fun _ _ _ => rfl) (sh_10_3 hS) (by decide) dX10_matches_27 ?_
  refine wq_getR (r := 9) fk_X10_69 tT_8 (fun _ _ _ => rfl) (sh_2_0 hS tT_8) (by decide) dX10_matches_30 ?_
  refine wq_getI fk_X10_95 tT_9 (fun _ _ _ => rfl) dX10_matches_33 ?_
  refine wq_icmp_ge 66 rfl dX10_matches_36 (fun c1 => ?_) (fun c1 => ?_)
  · refine wq_iload_n 1 rfl rfl dX10_matches_66 ?_
    exact wp_iret rfl dX10_matches_67 (hv.1 c1)
  · refine wq_aload_n 0 rfl rfl dX10_matches_39 ?_
    refine wq_getR fk_X10_63 tT_1 (fun _ _ _ => rfl) (sh_10_7 hS) (by decide) dX10_matches_40 ?_
    refine wq_aload_n 0 rfl rfl dX10_matches_43 ?_
    refine wq_getR fk_X10_27 tT_1 (fun _ _ _ => rfl) (sh_10_3 hS) (by decide) dX10_matches_44 ?_
    refine wq_getR (r := 9) fk_X10_69 tT_8 (fun _ _ _ => rfl) (sh_2_0 hS tT_8) (by decide) dX10_matches_47 ?_
    refine wq_iload_n 2 rfl rfl dX10_matches_50 ?_
    refine wN_V (As := [vR 9, vI y2]) vm_X7_fits lk_X10_112 tT_212 rfl rfl (Nat.le_of_ble_eq_true rfl) (Nat.le_of_ble_eq_true rfl) (d' := d - 1) (by omega) dX10_matches_51 (hv.2 c1) (fun v9 h3 q4 => ?_)
    obtain ⟨z2, rfl, hS5, q4⟩ := q4
    refine wq_st (st' := [vI z2]) rfl ?_
    refine wq_if_eq 60 rfl dX10_matches_54 (fun c6 => ?_) (fun c6 => ?_)
    · refine z_nm (y2 + 1) (fun x7 e8 => ?_)
      refine wq_iinc (y := x7) (ls' := [(0, vR 1), (1, vI y1), (2, vI x7)]) 2 rfl e8.symm (by rw [e8]; exact (q4.1 c6).1) (by decide) rfl dX10_matches_60 ?_
      refine wq_goto 25 rfl dX10_matches_63 ?_
      exact wq_pick [0, 1, 2] rfl (hI_25 y1 x7 h3 (((q4.1 c6).2 x7 e8) hS5))
    · refine z_nm (y1 + 1) (fun x9 e10 => ?_)
      refine wq_iinc (y := x9) (ls' := [(0, vR 1), (1, vI x9), (2, vI y2)]) 1 rfl e10.symm (by rw [e10]; exact (q4.2 c6).1) (by decide) rfl dX10_matches_57 ?_
      refine z_nm (y2 + 1) (fun x11 e12 => ?_)
      refine wq_iinc (y := x11) (ls' := [(0, vR 1), (1, vI x9), (2, vI x11)]) 2 rfl e12.symm (by rw [e12]; exact ((q4.2 c6).2 x9 e10).1) (by decide) rfl dX10_matches_60 ?_
      refine wq_goto 25 rfl dX10_matches_63 ?_
      exact wq_pick [0, 1, 2] rfl (hI_25 x9 x11 h3 ((((q4.2 c6).2 x9 e10).2 x11 e12) hS5))
theorem dX10_length_0 : decode cX10_length 0 = .ok (.aload_n 0, 1) := by decide +kernel
theorem dX10_length_1 : decode cX10_length 1 = .ok (.getfield 27, 3) := by decide +kernel
theorem dX10_length_4 : decode cX10_length 4 = .ok (.getfield 69, 3) := by decide +kernel
theorem dX10_length_7 : decode cX10_length 7 = .ok (.getfield 95, 3) := by decide +kernel
theorem dX10_length_10 : decode cX10_length 10 = .ok (.ireturn, 1) := by decide +kernel
theorem vc_X10_length_0 {G : zG} {d : Nat} {Q : Option zV → zHp → Prop}  (h : zHp) (hS : zSh h) (hd : 0 ≤ d)  
    (hv : Q (some (vI (gI h 9 1))) h) : wpN G d M_X10_length 0 [(0, vR 1)] [] h Q := by
  refine wq_aload_n 0 rfl rfl dX10_length_0 ?_
  refine wq_getR fk_X10_27 tT_1 (fun _ _ _ => rfl) (sh_10_3 hS) (by decide) dX10_length_1 ?_
  refine wq_getR (r := 9) fk_X10_69 tT_8 (fun _ _ _ => rfl) (sh_2_0 hS tT_8) (by decide) dX10_length_4 ?_
  refine wq_getI fk_X10_95 tT_9 (fun _ _ _ => rfl) dX10_length_7 ?_
  exact wp_iret rfl dX10_length_10 hv
theorem dX10_byteAt_0 : decode cX10_byteAt 0 = .ok (.aload_n 0, 1) := by decide +kernel
theorem dX10_byteAt_1 : decode cX10_byteAt 1 = .ok (.getfield 27, 3) := by decide +kernel
theorem dX10_byteAt_4 : decode cX10_byteAt 4 = .ok (.getfield 69, 3) := by decide +kernel
theorem dX10_byteAt_7 : decode cX10_byteAt 7 = .ok (.iload_n 1, 1) := by decide +kernel
theorem dX10_byteAt_8 : decode cX10_byteAt 8 = .ok (.invokevirtual 116, 3) := by decide +kernel
theorem dX10_byteAt_11 : decode cX10_byteAt 11 = .ok (.ifCond .eq 17, 3) := by decide +kernel
theorem dX10_byteAt_14 : decode cX10_byteAt 14 = .ok (.aload_n 0, 1) := by decide +kernel
theorem dX10_byteAt_15 : decode cX10_byteAt 15 = .ok (.getfield 27, 3) := by decide +kernel
theorem dX10_byteAt_18 : decode cX10_byteAt 18 = .ok (.getfield 69, 3) := by decide +kernel
theorem dX10_byteAt_21 : decode cX10_byteAt 21 = .ok (.iload_n 1, 1) := by decide +kernel
theorem dX10_byteAt_22 : decode cX10_byteAt 22 = .ok (.invokevirtual 119, 3) := by decide +kernel
theorem dX10_byteAt_25 : decode cX10_byteAt 25 = .ok (.goto 6, 3) := by decide +kernel
theorem dX10_byteAt_28 : decode cX10_byteAt 28 = .ok (.sipush (-1001), 3) := by decide +kernel
theorem dX10_byteAt_31 : decode cX10_byteAt 31 = .ok (.ireturn, 1) := by decide +kernel
theorem vc_X10_byteAt_0 {G : zG} {d : Nat} {Q : Option zV → zHp → Prop} (p1 : Int) (h : zHp) (hS : zSh h) (hd : 1 ≤ d)  
    (hv : (wpN G (d - 1) M_X0_has 0 (zar 0 [vR 9, vI p1]) [] h (qI (fun z1 h2 => zSh h2 ∧ ((z1 = 0 → Q (some (vI (-1001))) h2) ∧ (z1 ≠ 0 → (wpN G (d - 1) M_X0_get 0 (zar 0 [vR 9, vI p1]) [] h2 (qI (fun z6 h7 => zSh h7 ∧ Q (some (vI z6)) h7))))))))) : wpN G d M_X10_byteAt 0 [(0, vR 1), (1, vI p1)] [] h Q := by
  refine wq_aload_n 0 rfl rfl dX10_byteAt_0 ?_
  refine wq_getR fk_X10_27 tT_1 (fun _ _ _ => rfl) (sh_10_3 hS) (by decide) dX10_byteAt_1 ?_
  refine wq_getR (r := 9) fk_X10_69 tT_8 (fun _ _ _ => rfl) (sh_2_0 hS tT_8) (by decide) dX10_byteAt_4 ?_
  refine wq_iload_n 1 rfl rfl dX10_byteAt_7 ?_
  refine wN_V (As := [vI p1]) vm_X0_has lk_X10_116 tT_9 rfl rfl (Nat.le_of_ble_eq_true rfl) (Nat.le_of_ble_eq_true rfl) (d' := d - 1) (by omega) dX10_byteAt_8 hv (fun v9 h2 q3 => ?_)
  obtain ⟨z1, rfl, hS4, q3⟩ := q3
  refine wq_st (st' := [vI z1]) rfl ?_
  refine wq_if_eq 28 rfl dX10_byteAt_11 (fun c5 => ?_) (fun c5 => ?_)
  · refine wq_sipush (z := -1001) (zlit rfl) rfl dX10_byteAt_28 ?_
    exact wp_iret rfl dX10_byteAt_31 (q3.1 c5)
  · refine wq_aload_n 0 rfl rfl dX10_byteAt_14 ?_
    refine wq_getR fk_X10_27 tT_1 (fun _ _ _ => rfl) (sh_10_3 hS4) (by decide) dX10_byteAt_15 ?_
    refine wq_getR (r := 9) fk_X10_69 tT_8 (fun _ _ _ => rfl) (sh_2_0 hS4 tT_8) (by decide) dX10_byteAt_18 ?_
    refine wq_iload_n 1 rfl rfl dX10_byteAt_21 ?_
    refine wN_V (As := [vI p1]) vm_X0_get lk_X10_119 tT_9 rfl rfl (Nat.le_of_ble_eq_true rfl) (Nat.le_of_ble_eq_true rfl) (d' := d - 1) (by omega) dX10_byteAt_22 (q3.2 c5) (fun v9 h7 q8 => ?_)
    obtain ⟨z6, rfl, hS9, q8⟩ := q8
    refine wq_st (st' := [vI z6]) rfl ?_
    refine wq_goto 31 rfl dX10_byteAt_25 ?_
    exact wp_iret rfl dX10_byteAt_31 q8
theorem dX10_insert_0 : decode cX10_insert 0 = .ok (.aload_n 0, 1) := by decide +kernel
theorem dX10_insert_1 : decode cX10_insert 1 = .ok (.getfield 27, 3) := by decide +kernel
theorem dX10_insert_4 : decode cX10_insert 4 = .ok (.getfield 69, 3) := by decide +kernel
theorem dX10_insert_7 : decode cX10_insert 7 = .ok (.astore 4, 2) := by decide +kernel
theorem dX10_insert_9 : decode cX10_insert 9 = .ok (.iload_n 1, 1) := by decide +kernel
theorem dX10_insert_10 : decode cX10_insert 10 = .ok (.iconst 0, 1) := by decide +kernel
theorem dX10_insert_11 : decode cX10_insert 11 = .ok (.aload 4, 2) := by decide +kernel
theorem dX10_insert_13 : decode cX10_insert 13 = .ok (.getfield 95, 3) := by decide +kernel
theorem dX10_insert_16 : decode cX10_insert 16 = .ok (.invokestatic 87, 3) := by decide +kernel
theorem dX10_insert_19 : decode cX10_insert 19 = .ok (.ifCond .eq 24, 3) := by decide +kernel
theorem dX10_insert_22 : decode cX10_insert 22 = .ok (.iload_n 2, 1) := by decide +kernel
theorem dX10_insert_23 : decode cX10_insert 23 = .ok (.iconst 0, 1) := by decide +kernel
theorem dX10_insert_24 : decode cX10_insert 24 = .ok (.sipush 255, 3) := by decide +kernel
theorem dX10_insert_27 : decode cX10_insert 27 = .ok (.invokestatic 87, 3) := by decide +kernel
theorem dX10_insert_30 : decode cX10_insert 30 = .ok (.ifCond .eq 13, 3) := by decide +kernel
theorem dX10_insert_33 : decode cX10_insert 33 = .ok (.iload_n 3, 1) := by decide +kernel
theorem dX10_insert_34 : decode cX10_insert 34 = .ok (.iconst 1, 1) := by decide +kernel
theorem dX10_insert_35 : decode cX10_insert 35 = .ok (.bipush 64, 2) := by decide +kernel
theorem dX10_insert_37 : decode cX10_insert 37 = .ok (.invokestatic 87, 3) := by decide +kernel
theorem dX10_insert_40 : decode cX10_insert 40 = .ok (.ifCond .ne 7, 3) := by decide +kernel
theorem dX10_insert_43 : decode cX10_insert 43 = .ok (.sipush (-1001), 3) := by decide +kernel
theorem dX10_insert_46 : decode cX10_insert 46 = .ok (.ireturn, 1) := by decide +kernel
theorem dX10_insert_47 : decode cX10_insert 47 = .ok (.iload_n 3, 1) := by decide +kernel
theorem dX10_insert_48 : decode cX10_insert 48 = .ok (.sipush 200, 3) := by decide +kernel
theorem dX10_insert_51 : decode cX10_insert 51 = .ok (.aload 4, 2) := by decide +kernel
theorem dX10_insert_53 : decode cX10_insert 53 = .ok (.getfield 95, 3) := by decide +kernel
theorem dX10_insert_56 : decode cX10_insert 56 = .ok (.isub, 1) := by decide +kernel
theorem dX10_insert_57 : decode cX10_insert 57 = .ok (.if_icmp .le 7, 3) := by decide +kernel
theorem dX10_insert_60 : decode cX10_insert 60 = .ok (.sipush (-1003), 3) := by decide +kernel
theorem dX10_insert_63 : decode cX10_insert 63 = .ok (.ireturn, 1) := by decide +kernel
theorem dX10_insert_64 : decode cX10_insert 64 = .ok (.aload_n 0, 1) := by decide +kernel
theorem dX10_insert_65 : decode cX10_insert 65 = .ok (.getfield 36, 3) := by decide +kernel
theorem dX10_insert_68 : decode cX10_insert 68 = .ok (.invokevirtual 123, 3) := by decide +kernel
theorem dX10_insert_71 : decode cX10_insert 71 = .ok (.aload_n 0, 1) := by decide +kernel
theorem dX10_insert_72 : decode cX10_insert 72 = .ok (.getfield 27, 3) := by decide +kernel
theorem dX10_insert_75 : decode cX10_insert 75 = .ok (.iload_n 1, 1) := by decide +kernel
theorem dX10_insert_76 : decode cX10_insert 76 = .ok (.iload_n 3, 1) := by decide +kernel
theorem dX10_insert_77 : decode cX10_insert 77 = .ok (.invokevirtual 126, 3) := by decide +kernel
theorem dX10_insert_80 : decode cX10_insert 80 = .ok (.iconst 0, 1) := by decide +kernel
theorem dX10_insert_81 : decode cX10_insert 81 = .ok (.istore 5, 2) := by decide +kernel
theorem dX10_insert_83 : decode cX10_insert 83 = .ok (.iload 5, 2) := by decide +kernel
theorem dX10_insert_85 : decode cX10_insert 85 = .ok (.iload_n 3, 1) := by decide +kernel
theorem dX10_insert_86 : decode cX10_insert 86 = .ok (.if_icmp .ge 19, 3) := by decide +kernel
theorem dX10_insert_89 : decode cX10_insert 89 = .ok (.aload 4, 2) := by decide +kernel
theorem dX10_insert_91 : decode cX10_insert 91 = .ok (.iload_n 1, 1) := by decide +kernel
theorem dX10_insert_92 : decode cX10_insert 92 = .ok (.iload 5, 2) := by decide +kernel
theorem dX10_insert_94 : decode cX10_insert 94 = .ok (.iadd, 1) := by decide +kernel
theorem dX10_insert_95 : decode cX10_insert 95 = .ok (.iload_n 2, 1) := by decide +kernel
theorem dX10_insert_96 : decode cX10_insert 96 = .ok (.invokevirtual 130, 3) := by decide +kernel
theorem dX10_insert_99 : decode cX10_insert 99 = .ok (.iinc 5 1, 3) := by decide +kernel
theorem dX10_insert_102 : decode cX10_insert 102 = .ok (.goto (-19), 3) := by decide +kernel
theorem dX10_insert_105 : decode cX10_insert 105 = .ok (.aload_n 0, 1) := by decide +kernel
theorem dX10_insert_106 : decode cX10_insert 106 = .ok (.aload_n 0, 1) := by decide +kernel
theorem dX10_insert_107 : decode cX10_insert 107 = .ok (.getfield 83, 3) := by decide +kernel
theorem dX10_insert_110 : decode cX10_insert 110 = .ok (.invokevirtual 133, 3) := by decide +kernel
theorem dX10_insert_113 : decode cX10_insert 113 = .ok (.sipush (-1005), 3) := by decide +kernel
theorem dX10_insert_116 : decode cX10_insert 116 = .ok (.if_icmp .ne 9, 3) := by decide +kernel
theorem dX10_insert_119 : decode cX10_insert 119 = .ok (.sipush (-1005), 3) := by decide +kernel
theorem dX10_insert_122 : decode cX10_insert 122 = .ok (.goto 8, 3) := by decide +kernel
theorem dX10_insert_125 : decode cX10_insert 125 = .ok (.aload 4, 2) := by decide +kernel
theorem dX10_insert_127 : decode cX10_insert 127 = .ok (.getfield 95, 3) := by decide +kernel
theorem dX10_insert_130 : decode cX10_insert 130 = .ok (.ireturn, 1) := by decide +kernel
theorem vc_X10_insert_0 {G : zG} {d : Nat} {Q : Option zV → zHp → Prop} (p1 : Int) (p2 : Int) (p3 : Int) (h : zHp) (hS : zSh h) (hd : 8 ≤ d) (I_83 : Int → Int → Int → Int → zHp → Prop) (hI_83 : ∀ (y1 : Int) (y2 : Int) (y3 : Int) (y5 : Int) (h' : zHp), I_83 y1 y2 y3 y5 h' → wpN G d M_X10_insert 83 [(0, vR 1), (1, vI y1), (2, vI y2), (3, vI y3), (4, vR 9), (5, vI y5)] [] h' Q) 
    (hv : (wpN G (d - 1) M_X10_isWithin 0 (zar 0 [vI p1, vI 0, vI (gI h 9 1)]) [] h (qI (fun z1 h2 => zSh h2 ∧ ((z1 = 0 → Q (some (vI (-1001))) h2) ∧ (z1 ≠ 0 → (wpN G (d - 1) M_X10_isWithin 0 (zar 0 [vI p2, vI 0, vI 255]) [] h2 (qI (fun z6 h7 => zSh h7 ∧ ((z6 = 0 → Q (some (vI (-1001))) h7) ∧ (z6 ≠ 0 → (wpN G (d - 1) M_X10_isWithin 0 (zar 0 [vI p3, vI 1, vI 64]) [] h7 (qI (fun z11 h12 => zSh h12 ∧ ((z11 ≠ 0 → ((-2147483648 ≤ 200 - (gI h12 9 1) ∧ 200 - (gI h12 9 1) ≤ 2147483647) ∧ ((p3 ≤ (200 - (gI h12 9 1)) → (wpN G (d - 1) M_X4_keep 0 (zar 0 [vR 13]) [] h12 (qV (fun h18 => zSh h18 ∧ (wpN G (d - 1) M_X2_openGap 0 (zar 0 [vR 8, vI p1, vI p3]) [] h18 (qV (fun h22 => zSh h22 ∧ (zSh h22 → I_83 p1 p2 p3 0 h22)))))))) ∧ ((200 - (gI h12 9 1)) < p3 → Q (some (vI (-1003))) h12)))) ∧ (z11 = 0 → Q (some (vI (-1001))) h12)))))))))))))))) : wpN G d M_X10_insert 0 [(0, vR 1), (1, vI p1), (2, vI p2), (3, vI p3)] [] h Q := by
  refine wq_aload_n 0 rfl rfl dX10_insert_0 ?_
  refine wq_getR fk_X10_27 tT_1 (fun _ _ _ => rfl) (sh_10_3 hS) (by decide) dX10_insert_1 ?_
  refine wq_getR (r := 9) fk_X10_69 tT_8 (fun _ _ _ => rfl) (sh_2_0 hS tT_8) (by decide) dX10_insert_4 ?_
  refine wq_astore (ls' := [(0, vR 1), (1, vI p1), (2, vI p2), (3, vI p3), (4, vR 9)]) (by decide) rfl dX10_insert_7 ?_
  refine wq_iload_n 1 rfl rfl dX10_insert_9 ?_
  refine wq_iconst (z := 0) (zlit rfl) dX10_insert_10 ?_
  refine wq_aload 4 rfl dX10_insert_11 ?_
  refine wq_getI fk_X10_95 tT_9 (fun _ _ _ => rfl) dX10_insert_13 ?_
  refine wN_S (As := [vI p1, vI 0, vI (gI h 9 1)]) md_X10_isWithin ms_X10_isWithin lk_X10_87 rfl rfl (Nat.le_of_ble_eq_true rfl) (Nat.le_of_ble_eq_true rfl) (d' := d - 1) (by omega) dX10_insert_16 hv (fun v9 h2 q3 => ?_)
  obtain ⟨z1, rfl, hS4, q3⟩ := q3
  refine wq_st (st' := [vI z1]) rfl ?_
  refine wq_if_eq 43 rfl dX10_insert_19 (fun c5 => ?_) (fun c5 => ?_)
  · refine wq_sipush (z := -1001) (zlit rfl) rfl dX10_insert_43 ?_
    exact wp_iret rfl dX10_insert_46 (q3.1 c5)
  · refine wq_iload_n 2 rfl rfl dX10_insert_22 ?_
    refine wq_iconst (z := 0) (zlit rfl) dX10_insert_23 ?_
    refine wq_sipush (z := 255) (zlit rfl) rfl dX10_insert_24 ?_
    refine wN_S (As := [vI p2, vI 0, vI 255]) md_X10_isWithin ms_X10_isWithin lk_X10_87 rfl rfl (Nat.le_of_ble_eq_true rfl) (Nat.le_of_ble_eq_true rfl) (d' := d - 1) (by omega) dX10_insert_27 (q3.2 c5) (fun v9 h7 q8 => ?_)
    obtain ⟨z6, rfl, hS9, q8⟩ := q8
    refine wq_st (st' := [vI z6]) rfl ?_
    refine wq_if_eq 43 rfl dX10_insert_30 (fun c10 => ?_) (fun c10 => ?_)
    · refine wq_sipush (z := -1001) (zlit rfl) rfl dX10_insert_43 ?_
      exact wp_iret rfl dX10_insert_46 (q8.1 c10)
    · refine wq_iload_n 3 rfl rfl dX10_insert_33 ?_
      refine wq_iconst (z := 1) (zlit rfl) dX10_insert_34 ?_
      refine wq_bipush (z := 64) (zlit rfl) rfl dX10_insert_35 ?_
      refine wN_S (As := [vI p3, vI 1, vI 64]) md_X10_isWithin ms_X10_isWithin lk_X10_87 rfl rfl (Nat.le_of_ble_eq_true rfl) (Nat.le_of_ble_eq_true rfl) (d' := d - 1) (by omega) dX10_insert_37 (q8.2 c10) (fun v9 h12 q13 => ?_)
      obtain ⟨z11, rfl, hS14, q13⟩ := q13
      refine wq_st (st' := [vI z11]) rfl ?_
      refine wq_if_ne 47 rfl dX10_insert_40 (fun c15 => ?_) (fun c15 => ?_)
      · refine wq_iload_n 3 rfl rfl dX10_insert_47 ?_
        refine wq_sipush (z := 200) (zlit rfl) rfl dX10_insert_48 ?_
        refine wq_aload 4 rfl dX10_insert_51 ?_
        refine wq_getI fk_X10_95 tT_9 (fun _ _ _ => rfl) dX10_insert_53 ?_
        refine wq_isub (q13.1 c15).1 dX10_insert_56 ?_
        refine wq_icmp_le 64 rfl dX10_insert_57 (fun c16 => ?_) (fun c16 => ?_)
        · refine wq_aload_n 0 rfl rfl dX10_insert_64 ?_
          refine wq_getR fk_X10_36 tT_1 (fun _ _ _ => rfl) (sh_10_4 hS14) (by decide) dX10_insert_65 ?_
          refine wN_V (As := []) vm_X4_keep lk_X10_123 tT_13 rfl rfl (Nat.le_of_ble_eq_true rfl) (Nat.le_of_ble_eq_true rfl) (d' := d - 1) (by omega) dX10_insert_68 ((q13.1 c15).2.1 c16) (fun v9 h18 q19 => ?_)
          obtain ⟨rfl, hS20, q19⟩ := q19
          refine wq_st (st' := []) rfl ?_
          refine wq_aload_n 0 rfl rfl dX10_insert_71 ?_
          refine wq_getR fk_X10_27 tT_1 (fun _ _ _ => rfl) (sh_10_3 hS20) (by decide) dX10_insert_72 ?_
          refine wq_iload_n 1 rfl rfl dX10_insert_75 ?_
          refine wq_iload_n 3 rfl rfl dX10_insert_76 ?_
          refine wN_V (As := [vI p1, vI p3]) vm_X2_openGap lk_X10_126 tT_8 rfl rfl (Nat.le_of_ble_eq_true rfl) (Nat.le_of_ble_eq_true rfl) (d' := d - 1) (by omega) dX10_insert_77 q19 (fun v9 h22 q23 => ?_)
          obtain ⟨rfl, hS24, q23⟩ := q23
          refine wq_st (st' := []) rfl ?_
          refine wq_iconst (z := 0) (zlit rfl) dX10_insert_80 ?_
          refine wq_istore (ls' := [(0, vR 1), (1, vI p1), (2, vI p2), (3, vI p3), (4, vR 9), (5, vI 0)]) (by decide) rfl dX10_insert_81 ?_
          exact wq_pick [0, 1, 2, 3, 4, 5] rfl (hI_83 p1 p2 p3 0 h22 (q23 hS24))
        · refine wq_sipush (z := -1003) (zlit rfl) rfl dX10_insert_60 ?_
          exact wp_iret rfl dX10_insert_63 ((q13.1 c15).2.2 c16)
      · refine wq_sipush (z := -1001) (zlit rfl) rfl dX10_insert_43 ?_
        exact wp_iret rfl dX10_insert_46 (q13.2 c15)
theorem vc_X10_insert_83 {G : zG} {d : Nat} {Q : Option zV → zHp → Prop} (y1 : Int) (y2 : Int) (y3 : Int) (y5 : Int) (h : zHp) (hS : zSh h) (hd : 8 ≤ d) (I_83 : Int → Int → Int → Int → zHp → Prop) (hI_83 : ∀ (y1 : Int) (y2 : Int) (y3 : Int) (y5 : Int) (h' : zHp), I_83 y1 y2 y3 y5 h' → wpN G d M_X10_insert 83 [(0, vR 1), (1, vI y1), (2, vI y2), (3, vI y3), (4, vR 9), (5, vI y5)] [] h' Q) 
    (hv : ((y3 ≤ y5 → (wpN G (d - 1) M_X10_endChange 0 (zar 0 [vR 1, vI (gI h 1 11)]) [] h (qI (fun z2 h3 => zSh h3 ∧ ((z2 ≠ (-1005) → Q (some (vI (gI h3 9 1))) h3) ∧ (z2 = (-1005) → Q (some (vI (-1005))) h3)))))) ∧ (y5 < y3 → ((-2147483648 ≤ y1 + y5 ∧ y1 + y5 ≤ 2147483647) ∧ (wpN G (d - 1) M_X0_put 0 (zar 0 [vR 9, vI (y1 + y5), vI y2]) [] h (qV (fun h8 => zSh h8 ∧ ((-2147483648 ≤ y5 + 1 ∧ y5 + 1 ≤ 2147483647) ∧ ∀ x11 : Int, x11 = y5 + 1 → (zSh h8 → I_83 y1 y2 y3 x11 h8))))))))) : wpN G d M_X10_insert 83 [(0, vR 1), (1, vI y1), (2, vI y2), (3, vI y3), (4, vR 9), (5, vI y5)] [] h Q := by
  refine wq_iload 5 rfl dX10_insert_83 ?_
  refine wq_iload_n 3 rfl rfl dX10_insert_85 ?_
  refine wq_icmp_ge 105 rfl dX10_insert_86 (fun c1 => ?_) (fun c1 => ?_)
  · refine wq_aload_n 0 rfl rfl dX10_insert_105 ?_
    refine wq_aload_n 0 rfl rfl dX10_insert_106 ?_
    refine wq_getI fk_X10_83 tT_1 (fun _ _ _ => rfl) dX10_insert_107 ?_
    refine wN_V (As := [vI (gI h 1 11)]) vm_X10_endChange lk_X10_133 tT_1 rfl rfl (Nat.le_of_ble_eq_true rfl) (Nat.le_of_ble_eq_true rfl) (d' := d - 1) (by omega) dX10_insert_110 (hv.1 c1) (fun v9 h3 q4 => ?_)
    obtain ⟨z2, rfl, hS5, q4⟩ := q4
    refine wq_st (st' := [vI z2]) rfl ?_
    refine wq_sipush (z := -1005) (zlit rfl) rfl dX10_insert_113 ?_
    refine wq_icmp_ne 125 rfl dX10_insert_116 (fun c6 => ?_) (fun c6 => ?_)
    · refine wq_aload 4 rfl dX10_insert_125 ?_
      refine wq_getI fk_X10_95 tT_9 (fun _ _ _ => rfl) dX10_insert_127 ?_
      exact wp_iret rfl dX10_insert_130 (q4.1 c6)
    · refine wq_sipush (z := -1005) (zlit rfl) rfl dX10_insert_119 ?_
      refine wq_goto 130 rfl dX10_insert_122 ?_
      exact wp_iret rfl dX10_insert_130 (q4.2 c6)
  · refine wq_aload 4 rfl dX10_insert_89 ?_
    refine wq_iload_n 1 rfl rfl dX10_insert_91 ?_
    refine wq_iload 5 rfl dX10_insert_92 ?_
    refine wq_iadd (hv.2 c1).1 dX10_insert_94 ?_
    refine wq_iload_n 2 rfl rfl dX10_insert_95 ?_
    refine wN_V (As := [vI (y1 + y5), vI y2]) vm_X0_put lk_X10_130 tT_9 rfl rfl (Nat.le_of_ble_eq_true rfl) (Nat.le_of_ble_eq_true rfl) (d' := d - 1) (by omega) dX10_insert_96 (hv.2 c1).2 (fun v9 h8 q9 => ?_)
    obtain ⟨rfl, hS10, q9⟩ := q9
    refine wq_st (st' := []) rfl ?_
    refine z_nm (y5 + 1) (fun x11 e12 => ?_)
    refine wq_iinc (y := x11) (ls' := [(0, vR 1), (1, vI y1), (2, vI y2), (3, vI y3), (4, vR 9), (5, vI x11)]) 5 rfl e12.symm (by rw [e12]; exact q9.1) (by decide) rfl dX10_insert_99 ?_
    refine wq_goto 83 rfl dX10_insert_102 ?_
    exact wq_pick [0, 1, 2, 3, 4, 5] rfl (hI_83 y1 y2 y3 x11 h8 ((q9.2 x11 e12) hS10))
theorem dX10_delete_0 : decode cX10_delete 0 = .ok (.aload_n 0, 1) := by decide +kernel
theorem dX10_delete_1 : decode cX10_delete 1 = .ok (.getfield 27, 3) := by decide +kernel
theorem dX10_delete_4 : decode cX10_delete 4 = .ok (.getfield 69, 3) := by decide +kernel
theorem dX10_delete_7 : decode cX10_delete 7 = .ok (.astore_n 3, 1) := by decide +kernel
theorem dX10_delete_8 : decode cX10_delete 8 = .ok (.aload_n 3, 1) := by decide +kernel
theorem dX10_delete_9 : decode cX10_delete 9 = .ok (.iload_n 1, 1) := by decide +kernel
theorem dX10_delete_10 : decode cX10_delete 10 = .ok (.invokevirtual 116, 3) := by decide +kernel
theorem dX10_delete_13 : decode cX10_delete 13 = .ok (.ifCond .eq 17, 3) := by decide +kernel
theorem dX10_delete_16 : decode cX10_delete 16 = .ok (.iload_n 2, 1) := by decide +kernel
theorem dX10_delete_17 : decode cX10_delete 17 = .ok (.iconst 1, 1) := by decide +kernel
theorem dX10_delete_18 : decode cX10_delete 18 = .ok (.aload_n 3, 1) := by decide +kernel
theorem dX10_delete_19 : decode cX10_delete 19 = .ok (.getfield 95, 3) := by decide +kernel
theorem dX10_delete_22 : decode cX10_delete 22 = .ok (.iload_n 1, 1) := by decide +kernel
theorem dX10_delete_23 : decode cX10_delete 23 = .ok (.isub, 1) := by decide +kernel
theorem dX10_delete_24 : decode cX10_delete 24 = .ok (.invokestatic 87, 3) := by decide +kernel
theorem dX10_delete_27 : decode cX10_delete 27 = .ok (.ifCond .ne 7, 3) := by decide +kernel
theorem dX10_delete_30 : decode cX10_delete 30 = .ok (.sipush (-1001), 3) := by decide +kernel
theorem dX10_delete_33 : decode cX10_delete 33 = .ok (.ireturn, 1) := by decide +kernel
theorem dX10_delete_34 : decode cX10_delete 34 = .ok (.aload_n 0, 1) := by decide +kernel
theorem dX10_delete_35 : decode cX10_delete 35 = .ok (.getfield 36, 3) := by decide +kernel
theorem dX10_delete_38 : decode cX10_delete 38 = .ok (.invokevirtual 123, 3) := by decide +kernel
theorem dX10_delete_41 : decode cX10_delete 41 = .ok (.aload_n 0, 1) := by decide +kernel
theorem dX10_delete_42 : decode cX10_delete 42 = .ok (.getfield 27, 3) := by decide +kernel
theorem dX10_delete_45 : decode cX10_delete 45 = .ok (.iload_n 1, 1) := by decide +kernel
theorem dX10_delete_46 : decode cX10_delete 46 = .ok (.iload_n 2, 1) := by decide +kernel
theorem dX10_delete_47 : decode cX10_delete 47 = .ok (.invokevirtual 137, 3) := by decide +kernel
theorem dX10_delete_50 : decode cX10_delete 50 = .ok (.aload_n 0, 1) := by decide +kernel
theorem dX10_delete_51 : decode cX10_delete 51 = .ok (.aload_n 0, 1) := by decide +kernel
theorem dX10_delete_52 : decode cX10_delete 52 = .ok (.getfield 83, 3) := by decide +kernel
theorem dX10_delete_55 : decode cX10_delete 55 = .ok (.invokevirtual 133, 3) := by decide +kernel
theorem dX10_delete_58 : decode cX10_delete 58 = .ok (.sipush (-1005), 3) := by decide +kernel
theorem dX10_delete_61 : decode cX10_delete 61 = .ok (.if_icmp .ne 9, 3) := by decide +kernel
theorem dX10_delete_64 : decode cX10_delete 64 = .ok (.sipush (-1005), 3) := by decide +kernel
theorem dX10_delete_67 : decode cX10_delete 67 = .ok (.goto 7, 3) := by decide +kernel
theorem dX10_delete_70 : decode cX10_delete 70 = .ok (.aload_n 3, 1) := by decide +kernel
theorem dX10_delete_71 : decode cX10_delete 71 = .ok (.getfield 95, 3) := by decide +kernel
theorem dX10_delete_74 : decode cX10_delete 74 = .ok (.ireturn, 1) := by decide +kernel
theorem vc_X10_delete_0 {G : zG} {d : Nat} {Q : Option zV → zHp → Prop} (p1 : Int) (p2 : Int) (h : zHp) (hS : zSh h) (hd : 8 ≤ d)  
    (hv : (wpN G (d - 1) M_X0_has 0 (zar 0 [vR 9, vI p1]) [] h (qI (fun z1 h2 => zSh h2 ∧ ((z1 = 0 → Q (some (vI (-1001))) h2) ∧ (z1 ≠ 0 → ((-2147483648 ≤ (gI h2 9 1) - p1 ∧ (gI h2 9 1) - p1 ≤ 2147483647) ∧ (wpN G (d - 1) M_X10_isWithin 0 (zar 0 [vI p2, vI 1, vI ((gI h2 9 1) - p1)]) [] h2 (qI (fun z6 h7 => zSh h7 ∧ ((z6 ≠ 0 → (wpN G (d - 1) M_X4_keep 0 (zar 0 [vR 13]) [] h7 (qV (fun h12 => zSh h12 ∧ (wpN G (d - 1) M_X2_closeGap 0 (zar 0 [vR 8, vI p1, vI p2]) [] h12 (qV (fun h16 => zSh h16 ∧ (wpN G (d - 1) M_X10_endChange 0 (zar 0 [vR 1, vI (gI h16 1 11)]) [] h16 (qI (fun z19 h20 => zSh h20 ∧ ((z19 ≠ (-1005) → Q (some (vI (gI h20 9 1))) h20) ∧ (z19 = (-1005) → Q (some (vI (-1005))) h20)))))))))))) ∧ (z6 = 0 → Q (some (vI (-1001))) h7)))))))))))) : wpN G d M_X10_delete 0 [(0, vR 1), (1, vI p1), (2, vI p2)] [] h Q := by
  refine wq_aload_n 0 rfl rfl dX10_delete_0 ?_
  refine wq_getR fk_X10_27 tT_1 (fun _ _ _ => rfl) (sh_10_3 hS) (by decide) dX10_delete_1 ?_
  refine wq_getR (r := 9) fk_X10_69 tT_8 (fun _ _ _ => rfl) (sh_2_0 hS tT_8) (by decide) dX10_delete_4 ?_
  refine wq_astore_n (ls' := [(0, vR 1), (1, vI p1), (2, vI p2), (3, vR 9)]) rfl (by decide) rfl dX10_delete_7 ?_
  refine wq_aload_n 3 rfl rfl dX10_delete_8 ?_
  refine wq_iload_n 1 rfl rfl dX10_delete_9 ?_
  refine wN_V (As := [vI p1]) vm_X0_has lk_X10_116 tT_9 rfl rfl (Nat.le_of_ble_eq_true rfl) (Nat.le_of_ble_eq_true rfl) (d' := d - 1) (by omega) dX10_delete_10 hv (fun v9 h2 q3 => ?_)
  obtain ⟨z1, rfl, hS4, q3⟩ := q3
  refine wq_st (st' := [vI z1]) rfl ?_
  refine wq_if_eq 30 rfl dX10_delete_13 (fun c5 => ?_) (fun c5 => ?_)
  · refine wq_sipush (z := -1001) (zlit rfl) rfl dX10_delete_30 ?_
    exact wp_iret rfl dX10_delete_33 (q3.1 c5)
  · refine wq_iload_n 2 rfl rfl dX10_delete_16 ?_
    refine wq_iconst (z := 1) (zlit rfl) dX10_delete_17 ?_
    refine wq_aload_n 3 rfl rfl dX10_delete_18 ?_
    refine wq_getI fk_X10_95 tT_9 (fun _ _ _ => rfl) dX10_delete_19 ?_
    refine wq_iload_n 1 rfl rfl dX10_delete_22 ?_
    refine wq_isub (q3.2 c5).1 dX10_delete_23 ?_
    refine wN_S (As := [vI p2, vI 1, vI ((gI h2 9 1) - p1)]) md_X10_isWithin ms_X10_isWithin lk_X10_87 rfl rfl (Nat.le_of_ble_eq_true rfl) (Nat.le_of_ble_eq_true rfl) (d' := d - 1) (by omega) dX10_delete_24 (q3.2 c5).2 (fun v9 h7 q8 => ?_)
    obtain ⟨z6, rfl, hS9, q8⟩ := q8
    refine wq_st (st' := [vI z6]) rfl ?_
    refine wq_if_ne 34 rfl dX10_delete_27 (fun c10 => ?_) (fun c10 => ?_)
    · refine wq_aload_n 0 rfl rfl dX10_delete_34 ?_
      refine wq_getR fk_X10_36 tT_1 (fun _ _ _ => rfl) (sh_10_4 hS9) (by decide) dX10_delete_35 ?_
      refine wN_V (As := []) vm_X4_keep lk_X10_123 tT_13 rfl rfl (Nat.le_of_ble_eq_true rfl) (Nat.le_of_ble_eq_true rfl) (d' := d - 1) (by omega) dX10_delete_38 (q8.1 c10) (fun v9 h12 q13 => ?_)
      obtain ⟨rfl, hS14, q13⟩ := q13
      refine wq_st (st' := []) rfl ?_
      refine wq_aload_n 0 rfl rfl dX10_delete_41 ?_
      refine wq_getR fk_X10_27 tT_1 (fun _ _ _ => rfl) (sh_10_3 hS14) (by decide) dX10_delete_42 ?_
      refine wq_iload_n 1 rfl rfl dX10_delete_45 ?_
      refine wq_iload_n 2 rfl rfl dX10_delete_46 ?_
      refine wN_V (As := [vI p1, vI p2]) vm_X2_closeGap lk_X10_137 tT_8 rfl rfl (Nat.le_of_ble_eq_true rfl) (Nat.le_of_ble_eq_true rfl) (d' := d - 1) (by omega) dX10_delete_47 q13 (fun v9 h16 q17 => ?_)
      obtain ⟨rfl, hS18, q17⟩ := q17
      refine wq_st (st' := []) rfl ?_
      refine wq_aload_n 0 rfl rfl dX10_delete_50 ?_
      refine wq_aload_n 0 rfl rfl dX10_delete_51 ?_
      refine wq_getI fk_X10_83 tT_1 (fun _ _ _ => rfl) dX10_delete_52 ?_
      refine wN_V (As := [vI (gI h16 1 11)]) vm_X10_endChange lk_X10_133 tT_1 rfl rfl (Nat.le_of_ble_eq_true rfl) (Nat.le_of_ble_eq_true rfl) (d' := d - 1) (by omega) dX10_delete_55 q17 (fun v9 h20 q21 => ?_)
      obtain ⟨z19, rfl, hS22, q21⟩ := q21
      refine wq_st (st' := [vI z19]) rfl ?_
      refine wq_sipush (z := -1005) (zlit rfl) rfl dX10_delete_58 ?_
      refine wq_icmp_ne 70 rfl dX10_delete_61 (fun c23 => ?_) (fun c23 => ?_)
      · refine wq_aload_n 3 rfl rfl dX10_delete_70 ?_
        refine wq_getI fk_X10_95 tT_9 (fun _ _ _ => rfl) dX10_delete_71 ?_
        exact wp_iret rfl dX10_delete_74 (q21.1 c23)
      · refine wq_sipush (z := -1005) (zlit rfl) rfl dX10_delete_64 ?_
        refine wq_goto 74 rfl dX10_delete_67 ?_
        exact wp_iret rfl dX10_delete_74 (q21.2 c23)
    · refine wq_sipush (z := -1001) (zlit rfl) rfl dX10_delete_30 ?_
      exact wp_iret rfl dX10_delete_33 (q8.2 c10)
theorem dX10_overwrite_0 : decode cX10_overwrite 0 = .ok (.aload_n 0, 1) := by decide +kernel
theorem dX10_overwrite_1 : decode cX10_overwrite 1 = .ok (.getfield 27, 3) := by decide +kernel
theorem dX10_overwrite_4 : decode cX10_overwrite 4 = .ok (.getfield 69, 3) := by decide +kernel
theorem dX10_overwrite_7 : decode cX10_overwrite 7 = .ok (.astore_n 3, 1) := by decide +kernel
theorem dX10_overwrite_8 : decode cX10_overwrite 8 = .ok (.aload_n 3, 1) := by decide +kernel
theorem dX10_overwrite_9 : decode cX10_overwrite 9 = .ok (.iload_n 1, 1) := by decide +kernel
theorem dX10_overwrite_10 : decode cX10_overwrite 10 = .ok (.invokevirtual 116, 3) := by decide +kernel
theorem dX10_overwrite_13 : decode cX10_overwrite 13 = .ok (.ifCond .eq 14, 3) := by decide +kernel
theorem dX10_overwrite_16 : decode cX10_overwrite 16 = .ok (.iload_n 2, 1) := by decide +kernel
theorem dX10_overwrite_17 : decode cX10_overwrite 17 = .ok (.iconst 0, 1) := by decide +kernel
theorem dX10_overwrite_18 : decode cX10_overwrite 18 = .ok (.sipush 255, 3) := by decide +kernel
theorem dX10_overwrite_21 : decode cX10_overwrite 21 = .ok (.invokestatic 87, 3) := by decide +kernel
theorem dX10_overwrite_24 : decode cX10_overwrite 24 = .ok (.ifCond .ne 7, 3) := by decide +kernel
theorem dX10_overwrite_27 : decode cX10_overwrite 27 = .ok (.sipush (-1001), 3) := by decide +kernel
theorem dX10_overwrite_30 : decode cX10_overwrite 30 = .ok (.ireturn, 1) := by decide +kernel
theorem dX10_overwrite_31 : decode cX10_overwrite 31 = .ok (.aload_n 3, 1) := by decide +kernel
theorem dX10_overwrite_32 : decode cX10_overwrite 32 = .ok (.iload_n 1, 1) := by decide +kernel
theorem dX10_overwrite_33 : decode cX10_overwrite 33 = .ok (.invokevirtual 119, 3) := by decide +kernel
theorem dX10_overwrite_36 : decode cX10_overwrite 36 = .ok (.istore 4, 2) := by decide +kernel
theorem dX10_overwrite_38 : decode cX10_overwrite 38 = .ok (.aload_n 0, 1) := by decide +kernel
theorem dX10_overwrite_39 : decode cX10_overwrite 39 = .ok (.getfield 36, 3) := by decide +kernel
theorem dX10_overwrite_42 : decode cX10_overwrite 42 = .ok (.invokevirtual 123, 3) := by decide +kernel
theorem dX10_overwrite_45 : decode cX10_overwrite 45 = .ok (.aload_n 3, 1) := by decide +kernel
theorem dX10_overwrite_46 : decode cX10_overwrite 46 = .ok (.iload_n 1, 1) := by decide +kernel
theorem dX10_overwrite_47 : decode cX10_overwrite 47 = .ok (.iload_n 2, 1) := by decide +kernel
theorem dX10_overwrite_48 : decode cX10_overwrite 48 = .ok (.invokevirtual 130, 3) := by decide +kernel
theorem dX10_overwrite_51 : decode cX10_overwrite 51 = .ok (.aload_n 0, 1) := by decide +kernel
theorem dX10_overwrite_52 : decode cX10_overwrite 52 = .ok (.aload_n 0, 1) := by decide +kernel
theorem dX10_overwrite_53 : decode cX10_overwrite 53 = .ok (.getfield 83, 3) := by decide +kernel
theorem dX10_overwrite_56 : decode cX10_overwrite 56 = .ok (.invokevirtual 133, 3) := by decide +kernel
theorem dX10_overwrite_59 : decode cX10_overwrite 59 = .ok (.sipush (-1005), 3) := by decide +kernel
theorem dX10_overwrite_62 : decode cX10_overwrite 62 = .ok (.if_icmp .ne 9, 3) := by decide +kernel
theorem dX10_overwrite_65 : decode cX10_overwrite 65 = .ok (.sipush (-1005), 3) := by decide +kernel
theorem dX10_overwrite_68 : decode cX10_overwrite 68 = .ok (.goto 5, 3) := by decide +kernel
theorem dX10_overwrite_71 : decode cX10_overwrite 71 = .ok (.iload 4, 2) := by decide +kernel
theorem dX10_overwrite_73 : decode cX10_overwrite 73 = .ok (.ireturn, 1) := by decide +kernel
theorem vc_X10_overwrite_0 {G : zG} {d : Nat} {Q : Option zV → zHp → Prop} (p1 : Int) (p2 : Int) (h : zHp) (hS : zSh h) (hd : 8 ≤ d)  
    (hv : (wpN G (d - 1) M_X0_has 0 (zar 0 [vR 9, vI p1]) [] h (qI (fun z1 h2 => zSh h2 ∧ ((z1 = 0 → Q (some (vI (-1001))) h2) ∧ (z1 ≠ 0 → (wpN G (d - 1) M_X10_isWithin 0 (zar 0 [vI p2, vI 0, vI 255]) [] h2 (qI (fun z6 h7 => zSh h7 ∧ ((z6 ≠ 0 → (wpN G (d - 1) M_X0_get 0 (zar 0 [vR 9, vI p1]) [] h7 (qI (fun z11 h12 => zSh h12 ∧ (wpN G (d - 1) M_X4_keep 0 (zar 0 [vR 13]) [] h12 (qV (fun h16 => zSh h16 ∧ (wpN G (d - 1) M_X0_put 0 (zar 0 [vR 9, vI p1, vI p2]) [] h16 (qV (fun h20 => zSh h20 ∧ (wpN G (d - 1) M_X10_endChange 0 (zar 0 [vR 1, vI (gI h20 1 11)]) [] h20 (qI (fun z23 h24 => zSh h24 ∧ ((z23 ≠ (-1005) → Q (some (vI z11)) h24) ∧ (z23 = (-1005) → Q (some (vI (-1005))) h24))))))))))))))) ∧ (z6 = 0 → Q (some (vI (-1001))) h7))))))))))) : wpN G d M_X10_overwrite 0 [(0, vR 1), (1, vI p1), (2, vI p2)] [] h Q := by
  refine wq_aload_n 0 rfl rfl dX10_overwrite_0 ?_
  refine wq_getR fk_X10_27 tT_1 (fun _ _ _ => rfl) (sh_10_3 hS) (by decide) dX10_overwrite_1 ?_
  refine wq_getR (r := 9) fk_X10_69 tT_8 (fun _ _ _ => rfl) (sh_2_0 hS tT_8) (by decide) dX10_overwrite_4 ?_
  refine wq_astore_n (ls' := [(0, vR 1), (1, vI p1), (2, vI p2), (3, vR 9)]) rfl (by decide) rfl dX10_overwrite_7 ?_
  refine wq_aload_n 3 rfl rfl dX10_overwrite_8 ?_
  refine wq_iload_n 1 rfl rfl dX10_overwrite_9 ?_
  refine wN_V (As := [vI p1]) vm_X0_has lk_X10_116 tT_9 rfl rfl (Nat.le_of_ble_eq_true rfl) (Nat.le_of_ble_eq_true rfl) (d' := d - 1) (by omega) dX10_overwrite_10 hv (fun v9 h2 q3 => ?_)
  obtain ⟨z1, rfl, hS4, q3⟩ := q3
  refine wq_st (st' := [vI z1]) rfl ?_
  refine wq_if_eq 27 rfl dX10_overwrite_13 (fun c5 => ?_) (fun c5 => ?_)
  · refine wq_sipush (z := -1001) (zlit rfl) rfl dX10_overwrite_27 ?_
    exact wp_iret rfl dX10_overwrite_30 (q3.1 c5)
  · refine wq_iload_n 2 rfl rfl dX10_overwrite_16 ?_
    refine wq_iconst (z := 0) (zlit rfl) dX10_overwrite_17 ?_
    refine wq_sipush (z := 255) (zlit rfl) rfl dX10_overwrite_18 ?_
    refine wN_S (As := [vI p2, vI 0, vI 255]) md_X10_isWithin ms_X10_isWithin lk_X10_87 rfl rfl (Nat.le_of_ble_eq_true rfl) (Nat.le_of_ble_eq_true rfl) (d' := d - 1) (by omega) dX10_overwrite_21 (q3.2 c5) (fun v9 h7 q8 => ?_)
    obtain ⟨z6, rfl, hS9, q8⟩ := q8
    refine wq_st (st' := [vI z6]) rfl ?_
    refine wq_if_ne 31 rfl dX10_overwrite_24 (fun c10 => ?_) (fun c10 => ?_)
    · refine wq_aload_n 3 rfl rfl dX10_overwrite_31 ?_
      refine wq_iload_n 1 rfl rfl dX10_overwrite_32 ?_
      refine wN_V (As := [vI p1]) vm_X0_get lk_X10_119 tT_9 rfl rfl (Nat.le_of_ble_eq_true rfl) (Nat.le_of_ble_eq_true rfl) (d' := d - 1) (by omega) dX10_overwrite_33 (q8.1 c10) (fun v9 h12 q13 => ?_)
      obtain ⟨z11, rfl, hS14, q13⟩ := q13
      refine wq_st (st' := [vI z11]) rfl ?_
      refine wq_istore (ls' := [(0, vR 1), (1, vI p1), (2, vI p2), (3, vR 9), (4, vI z11)]) (by decide) rfl dX10_overwrite_36 ?_
      refine wq_aload_n 0 rfl rfl dX10_overwrite_38 ?_
      refine wq_getR fk_X10_36 tT_1 (fun _ _ _ => rfl) (sh_10_4 hS14) (by decide) dX10_overwrite_39 ?_
      refine wN_V (As := []) vm_X4_keep lk_X10_123 tT_13 rfl rfl (Nat.le_of_ble_eq_true rfl) (Nat.le_of_ble_eq_true rfl) (d' := d - 1) (by omega) dX10_overwrite_42 q13 (fun v9 h16 q17 => ?_)
      obtain ⟨rfl, hS18, q17⟩ := q17
      refine wq_st (st' := []) rfl ?_
      refine wq_aload_n 3 rfl rfl dX10_overwrite_45 ?_
      refine wq_iload_n 1 rfl rfl dX10_overwrite_46 ?_
      refine wq_iload_n 2 rfl rfl dX10_overwrite_47 ?_
      refine wN_V (As := [vI p1, vI p2]) vm_X0_put lk_X10_130 tT_9 rfl rfl (Nat.le_of_ble_eq_true rfl) (Nat.le_of_ble_eq_true rfl) (d' := d - 1) (by omega) dX10_overwrite_48 q17 (fun v9 h20 q21 => ?_)
      obtain ⟨rfl, hS22, q21⟩ := q21
      refine wq_st (st' := []) rfl ?_
      refine wq_aload_n 0 rfl rfl dX10_overwrite_51 ?_
      refine wq_aload_n 0 rfl rfl dX10_overwrite_52 ?_
      refine wq_getI fk_X10_83 tT_1 (fun _ _ _ => rfl) dX10_overwrite_53 ?_
      refine wN_V (As := [vI (gI h20 1 11)]) vm_X10_endChange lk_X10_133 tT_1 rfl rfl (Nat.le_of_ble_eq_true rfl) (Nat.le_of_ble_eq_true rfl) (d' := d - 1) (by omega) dX10_overwrite_56 q21 (fun v9 h24 q25 => ?_)
      obtain ⟨z23, rfl, hS26, q25⟩ := q25
      refine wq_st (st' := [vI z23]) rfl ?_
      refine wq_sipush (z := -1005) (zlit rfl) rfl dX10_overwrite_59 ?_
      refine wq_icmp_ne 71 rfl dX10_overwrite_62 (fun c27 => ?_) (fun c27 => ?_)
      · refine wq_iload 4 rfl dX10_overwrite_71 ?_
        exact wp_iret rfl dX10_overwrite_73 (q25.1 c27)
      · refine wq_sipush (z := -1005) (zlit rfl) rfl dX10_overwrite_65 ?_
        refine wq_goto 73 rfl dX10_overwrite_68 ?_
        exact wp_iret rfl dX10_overwrite_73 (q25.2 c27)
    · refine wq_sipush (z := -1001) (zlit rfl) rfl dX10_overwrite_27 ?_
      exact wp_iret rfl dX10_overwrite_30 (q8.2 c10)
theorem dX10_copy_0 : decode cX10_copy 0 = .ok (.aload_n 0, 1) := by decide +kernel
theorem dX10_copy_1 : decode cX10_copy 1 = .ok (.getfield 27, 3) := by decide +kernel
theorem dX10_copy_4 : decode cX10_copy 4 = .ok (.getfield 69, 3) := by decide +kernel
theorem dX10_copy_7 : decode cX10_copy 7 = .ok (.astore_n 3, 1) := by decide +kernel
theorem dX10_copy_8 : decode cX10_copy 8 = .ok (.iload_n 1, 1) := by decide +kernel
theorem dX10_copy_9 : decode cX10_copy 9 = .ok (.iconst 0, 1) := by decide +kernel
theorem dX10_copy_10 : decode cX10_copy 10 = .ok (.aload_n 3, 1) := by decide +kernel
theorem dX10_copy_11 : decode cX10_copy 11 = .ok (.getfield 95, 3) := by decide +kernel
theorem dX10_copy_14 : decode cX10_copy 14 = .ok (.invokestatic 87, 3) := by decide +kernel
theorem dX10_copy_17 : decode cX10_copy 17 = .ok (.ifCond .eq 22, 3) := by decide +kernel
theorem dX10_copy_20 : decode cX10_copy 20 = .ok (.iload_n 2, 1) := by decide +kernel
theorem dX10_copy_21 : decode cX10_copy 21 = .ok (.iconst 0, 1) := by decide +kernel
theorem dX10_copy_22 : decode cX10_copy 22 = .ok (.bipush 32, 2) := by decide +kernel
theorem dX10_copy_24 : decode cX10_copy 24 = .ok (.aload_n 3, 1) := by decide +kernel
theorem dX10_copy_25 : decode cX10_copy 25 = .ok (.getfield 95, 3) := by decide +kernel
theorem dX10_copy_28 : decode cX10_copy 28 = .ok (.iload_n 1, 1) := by decide +kernel
theorem dX10_copy_29 : decode cX10_copy 29 = .ok (.isub, 1) := by decide +kernel
theorem dX10_copy_30 : decode cX10_copy 30 = .ok (.invokestatic 140, 3) := by decide +kernel
theorem dX10_copy_33 : decode cX10_copy 33 = .ok (.invokestatic 87, 3) := by decide +kernel
theorem dX10_copy_36 : decode cX10_copy 36 = .ok (.ifCond .ne 7, 3) := by decide +kernel
theorem dX10_copy_39 : decode cX10_copy 39 = .ok (.sipush (-1001), 3) := by decide +kernel
theorem dX10_copy_42 : decode cX10_copy 42 = .ok (.ireturn, 1) := by decide +kernel
theorem dX10_copy_43 : decode cX10_copy 43 = .ok (.aload_n 0, 1) := by decide +kernel
theorem dX10_copy_44 : decode cX10_copy 44 = .ok (.getfield 18, 3) := by decide +kernel
theorem dX10_copy_47 : decode cX10_copy 47 = .ok (.aload_n 3, 1) := by decide +kernel
theorem dX10_copy_48 : decode cX10_copy 48 = .ok (.iload_n 1, 1) := by decide +kernel
theorem dX10_copy_49 : decode cX10_copy 49 = .ok (.iload_n 2, 1) := by decide +kernel
theorem dX10_copy_50 : decode cX10_copy 50 = .ok (.invokevirtual 146, 3) := by decide +kernel
theorem dX10_copy_53 : decode cX10_copy 53 = .ok (.iload_n 2, 1) := by decide +kernel
theorem dX10_copy_54 : decode cX10_copy 54 = .ok (.ireturn, 1) := by decide +kernel
theorem vc_X10_copy_0 {G : zG} {d : Nat} {Q : Option zV → zHp → Prop} (p1 : Int) (p2 : Int) (h : zHp) (hS : zSh h) (hd : 2 ≤ d)  
    (hv : (wpN G (d - 1) M_X10_isWithin 0 (zar 0 [vI p1, vI 0, vI (gI h 9 1)]) [] h (qI (fun z1 h2 => zSh h2 ∧ ((z1 = 0 → Q (some (vI (-1001))) h2) ∧ (z1 ≠ 0 → ((-2147483648 ≤ (gI h2 9 1) - p1 ∧ (gI h2 9 1) - p1 ≤ 2147483647) ∧ (wpN G (d - 1) M_J9_min_7cf53 0 (zar 0 [vI 32, vI ((gI h2 9 1) - p1)]) [] h2 (qI (fun z6 h7 => zSh h7 ∧ (wpN G (d - 1) M_X10_isWithin 0 (zar 0 [vI p2, vI 0, vI z6]) [] h7 (qI (fun z10 h11 => zSh h11 ∧ ((z10 ≠ 0 → (wpN G (d - 1) M_X0_become 0 (zar 0 [vR 4, vR 9, vI p1, vI p2]) [] h11 (qV (fun h16 => zSh h16 ∧ Q (some (vI p2)) h16)))) ∧ (z10 = 0 → Q (some (vI (-1001))) h11))))))))))))))) : wpN G d M_X10_copy 0 [(0, vR 1), (1, vI p1), (2, vI p2)] [] h Q := by
  refine wq_aload_n 0 rfl rfl dX10_copy_0 ?_
  refine wq_getR fk_X10_27 tT_1 (fun _ _ _ => rfl) (sh_10_3 hS) (by decide) dX10_copy_1 ?_
  refine wq_getR (r := 9) fk_X10_69 tT_8 (fun _ _ _ => rfl) (sh_2_0 hS tT_8) (by decide) dX10_copy_4 ?_
  refine wq_astore_n (ls' := [(0, vR 1), (1, vI p1), (2, vI p2), (3, vR 9)]) rfl (by decide) rfl dX10_copy_7 ?_
  refine wq_iload_n 1 rfl rfl dX10_copy_8 ?_
  refine wq_iconst (z := 0) (zlit rfl) dX10_copy_9 ?_
  refine wq_aload_n 3 rfl rfl dX10_copy_10 ?_
  refine wq_getI fk_X10_95 tT_9 (fun _ _ _ => rfl) dX10_copy_11 ?_
  refine wN_S (As := [vI p1, vI 0, vI (gI h 9 1)]) md_X10_isWithin ms_X10_isWithin lk_X10_87 rfl rfl (Nat.le_of_ble_eq_true rfl) (Nat.le_of_ble_eq_true rfl) (d' := d - 1) (by omega) dX10_copy_14 hv (fun v9 h2 q3 => ?_)
  obtain ⟨z1, rfl, hS4, q3⟩ := q3
  refine wq_st (st' := [vI z1]) rfl ?_
  refine wq_if_eq 39 rfl dX10_copy_17 (fun c5 => ?_) (fun c5 => ?_)
  · refine wq_sipush (z := -1001) (zlit rfl) rfl dX10_copy_39 ?_
    exact wp_iret rfl dX10_copy_42 (q3.1 c5)
  · refine wq_iload_n 2 rfl rfl dX10_copy_20 ?_
    refine wq_iconst (z := 0) (zlit rfl) dX10_copy_21 ?_
    refine wq_bipush (z := 32) (zlit rfl) rfl dX10_copy_22 ?_
    refine wq_aload_n 3 rfl rfl dX10_copy_24 ?_
    refine wq_getI fk_X10_95 tT_9 (fun _ _ _ => rfl) dX10_copy_25 ?_
    refine wq_iload_n 1 rfl rfl dX10_copy_28 ?_
    refine wq_isub (q3.2 c5).1 dX10_copy_29 ?_
    refine wN_S (As := [vI 32, vI ((gI h2 9 1) - p1)]) md_J9_min_7cf53 ms_J9_min_7cf53 lk_X10_140 rfl rfl (Nat.le_of_ble_eq_true rfl) (Nat.le_of_ble_eq_true rfl) (d' := d - 1) (by omega) dX10_copy_30 (q3.2 c5).2 (fun v9 h7 q8 => ?_)
    obtain ⟨z6, rfl, hS9, q8⟩ := q8
    refine wq_st (st' := [vI z6, vI 0, vI p2]) rfl ?_
    refine wN_S (As := [vI p2, vI 0, vI z6]) md_X10_isWithin ms_X10_isWithin lk_X10_87 rfl rfl (Nat.le_of_ble_eq_true rfl) (Nat.le_of_ble_eq_true rfl) (d' := d - 1) (by omega) dX10_copy_33 q8 (fun v9 h11 q12 => ?_)
    obtain ⟨z10, rfl, hS13, q12⟩ := q12
    refine wq_st (st' := [vI z10]) rfl ?_
    refine wq_if_ne 43 rfl dX10_copy_36 (fun c14 => ?_) (fun c14 => ?_)
    · refine wq_aload_n 0 rfl rfl dX10_copy_43 ?_
      refine wq_getR fk_X10_18 tT_1 (fun _ _ _ => rfl) (sh_10_1 hS13) (by decide) dX10_copy_44 ?_
      refine wq_aload_n 3 rfl rfl dX10_copy_47 ?_
      refine wq_iload_n 1 rfl rfl dX10_copy_48 ?_
      refine wq_iload_n 2 rfl rfl dX10_copy_49 ?_
      refine wN_V (As := [vR 9, vI p1, vI p2]) vm_X0_become lk_X10_146 tT_4 rfl rfl (Nat.le_of_ble_eq_true rfl) (Nat.le_of_ble_eq_true rfl) (d' := d - 1) (by omega) dX10_copy_50 (q12.1 c14) (fun v9 h16 q17 => ?_)
      obtain ⟨rfl, hS18, q17⟩ := q17
      refine wq_st (st' := []) rfl ?_
      refine wq_iload_n 2 rfl rfl dX10_copy_53 ?_
      exact wp_iret rfl dX10_copy_54 q17
    · refine wq_sipush (z := -1001) (zlit rfl) rfl dX10_copy_39 ?_
      exact wp_iret rfl dX10_copy_42 (q12.2 c14)
theorem dX10_paste_0 : decode cX10_paste 0 = .ok (.aload_n 0, 1) := by decide +kernel
theorem dX10_paste_1 : decode cX10_paste 1 = .ok (.getfield 27, 3) := by decide +kernel
theorem dX10_paste_4 : decode cX10_paste 4 = .ok (.getfield 69, 3) := by decide +kernel
theorem dX10_paste_7 : decode cX10_paste 7 = .ok (.astore_n 2, 1) := by decide +kernel
theorem dX10_paste_8 : decode cX10_paste 8 = .ok (.iload_n 1, 1) := by decide +kernel
theorem dX10_paste_9 : decode cX10_paste 9 = .ok (.iconst 0, 1) := by decide +kernel
theorem dX10_paste_10 : decode cX10_paste 10 = .ok (.aload_n 2, 1) := by decide +kernel
theorem dX10_paste_11 : decode cX10_paste 11 = .ok (.getfield 95, 3) := by decide +kernel
theorem dX10_paste_14 : decode cX10_paste 14 = .ok (.invokestatic 87, 3) := by decide +kernel
theorem dX10_paste_17 : decode cX10_paste 17 = .ok (.ifCond .ne 7, 3) := by decide +kernel
theorem dX10_paste_20 : decode cX10_paste 20 = .ok (.sipush (-1001), 3) := by decide +kernel
theorem dX10_paste_23 : decode cX10_paste 23 = .ok (.ireturn, 1) := by decide +kernel
theorem dX10_paste_24 : decode cX10_paste 24 = .ok (.aload_n 0, 1) := by decide +kernel
theorem dX10_paste_25 : decode cX10_paste 25 = .ok (.getfield 18, 3) := by decide +kernel
theorem dX10_paste_28 : decode cX10_paste 28 = .ok (.getfield 95, 3) := by decide +kernel
theorem dX10_paste_31 : decode cX10_paste 31 = .ok (.ifCond .ne 7, 3) := by decide +kernel
theorem dX10_paste_34 : decode cX10_paste 34 = .ok (.sipush (-1002), 3) := by decide +kernel
theorem dX10_paste_37 : decode cX10_paste 37 = .ok (.ireturn, 1) := by decide +kernel
theorem dX10_paste_38 : decode cX10_paste 38 = .ok (.aload_n 0, 1) := by decide +kernel
theorem dX10_paste_39 : decode cX10_paste 39 = .ok (.getfield 18, 3) := by decide +kernel
theorem dX10_paste_42 : decode cX10_paste 42 = .ok (.getfield 95, 3) := by decide +kernel
theorem dX10_paste_45 : decode cX10_paste 45 = .ok (.sipush 200, 3) := by decide +kernel
theorem dX10_paste_48 : decode cX10_paste 48 = .ok (.aload_n 2, 1) := by decide +kernel
theorem dX10_paste_49 : decode cX10_paste 49 = .ok (.getfield 95, 3) := by decide +kernel
theorem dX10_paste_52 : decode cX10_paste 52 = .ok (.isub, 1) := by decide +kernel
theorem dX10_paste_53 : decode cX10_paste 53 = .ok (.if_icmp .le 7, 3) := by decide +kernel
theorem dX10_paste_56 : decode cX10_paste 56 = .ok (.sipush (-1003), 3) := by decide +kernel
theorem dX10_paste_59 : decode cX10_paste 59 = .ok (.ireturn, 1) := by decide +kernel
theorem dX10_paste_60 : decode cX10_paste 60 = .ok (.aload_n 0, 1) := by decide +kernel
theorem dX10_paste_61 : decode cX10_paste 61 = .ok (.getfield 36, 3) := by decide +kernel
theorem dX10_paste_64 : decode cX10_paste 64 = .ok (.invokevirtual 123, 3) := by decide +kernel
theorem dX10_paste_67 : decode cX10_paste 67 = .ok (.aload_n 0, 1) := by decide +kernel
theorem dX10_paste_68 : decode cX10_paste 68 = .ok (.getfield 27, 3) := by decide +kernel
theorem dX10_paste_71 : decode cX10_paste 71 = .ok (.iload_n 1, 1) := by decide +kernel
theorem dX10_paste_72 : decode cX10_paste 72 = .ok (.aload_n 0, 1) := by decide +kernel
theorem dX10_paste_73 : decode cX10_paste 73 = .ok (.getfield 18, 3) := by decide +kernel
theorem dX10_paste_76 : decode cX10_paste 76 = .ok (.getfield 95, 3) := by decide +kernel
theorem dX10_paste_79 : decode cX10_paste 79 = .ok (.invokevirtual 126, 3) := by decide +kernel
theorem dX10_paste_82 : decode cX10_paste 82 = .ok (.aload_n 2, 1) := by decide +kernel
theorem dX10_paste_83 : decode cX10_paste 83 = .ok (.iload_n 1, 1) := by decide +kernel
theorem dX10_paste_84 : decode cX10_paste 84 = .ok (.aload_n 0, 1) := by decide +kernel
theorem dX10_paste_85 : decode cX10_paste 85 = .ok (.getfield 18, 3) := by decide +kernel
theorem dX10_paste_88 : decode cX10_paste 88 = .ok (.invokevirtual 150, 3) := by decide +kernel
theorem dX10_paste_91 : decode cX10_paste 91 = .ok (.aload_n 0, 1) := by decide +kernel
theorem dX10_paste_92 : decode cX10_paste 92 = .ok (.aload_n 0, 1) := by decide +kernel
theorem dX10_paste_93 : decode cX10_paste 93 = .ok (.getfield 83, 3) := by decide +kernel
theorem dX10_paste_96 : decode cX10_paste 96 = .ok (.invokevirtual 133, 3) := by decide +kernel
theorem dX10_paste_99 : decode cX10_paste 99 = .ok (.sipush (-1005), 3) := by decide +kernel
theorem dX10_paste_102 : decode cX10_paste 102 = .ok (.if_icmp .ne 9, 3) := by decide +kernel
theorem dX10_paste_105 : decode cX10_paste 105 = .ok (.sipush (-1005), 3) := by decide +kernel
theorem dX10_paste_108 : decode cX10_paste 108 = .ok (.goto 7, 3) := by decide +kernel
theorem dX10_paste_111 : decode cX10_paste 111 = .ok (.aload_n 2, 1) := by decide +kernel
theorem dX10_paste_112 : decode cX10_paste 112 = .ok (.getfield 95, 3) := by decide +kernel
theorem dX10_paste_115 : decode cX10_paste 115 = .ok (.ireturn, 1) := by decide +kernel
theorem vc_X10_paste_0 {G : zG} {d : Nat} {Q : Option zV → zHp → Prop} (p1 : Int) (h : zHp) (hS : zSh h) (hd : 8 ≤ d)  
    (hv : (wpN G (d - 1) M_X10_isWithin 0 (zar 0 [vI p1, vI 0, vI (gI h 9 1)]) [] h (qI (fun z1 h2 => zSh h2 ∧ ((z1 ≠ 0 → (((gI h2 4 1) ≠ 0 → ((-2147483648 ≤ 200 - (gI h2 9 1) ∧ 200 - (gI h2 9 1) ≤ 2147483647) ∧ (((gI h2 4 1) ≤ (200 - (gI h2 9 1)) → (wpN G (d - 1) M_X4_keep 0 (zar 0 [vR 13]) [] h2 (qV (fun h9 => zSh h9 ∧ (wpN G (d - 1) M_X2_openGap 0 (zar 0 [vR 8, vI p1, vI (gI h9 4 1)]) [] h9 (qV (fun h13 => zSh h13 ∧ (wpN G (d - 1) M_X0_putAll 0 (zar 0 [vR 9, vI p1, vR 4]) [] h13 (qV (fun h17 => zSh h17 ∧ (wpN G (d - 1) M_X10_endChange 0 (zar 0 [vR 1, vI (gI h17 1 11)]) [] h17 (qI (fun z20 h21 => zSh h21 ∧ ((z20 ≠ (-1005) → Q (some (vI (gI h21 9 1))) h21) ∧ (z20 = (-1005) → Q (some (vI (-1005))) h21))))))))))))))) ∧ ((200 - (gI h2 9 1)) < (gI h2 4 1) → Q (some (vI (-1003))) h2)))) ∧ ((gI h2 4 1) = 0 → Q (some (vI (-1002))) h2))) ∧ (z1 = 0 → Q (some (vI (-1001))) h2)))))) : wpN G d M_X10_paste 0 [(0, vR 1), (1, vI p1)] [] h Q := by
  refine wq_aload_n 0 rfl rfl dX10_paste_0 ?_
  refine wq_getR fk_X10_27 tT_1 (fun _ _ _ => rfl) (sh_10_3 hS) (by decide) dX10_paste_1 ?_
  refine wq_getR (r := 9) fk_X10_69 tT_8 (fun _ _ _ => rfl) (sh_2_0 hS tT_8) (by decide) dX10_paste_4 ?_
  refine wq_astore_n (ls' := [(0, vR 1), (1, vI p1), (2, vR 9)]) rfl (by decide) rfl dX10_paste_7 ?_
  refine wq_iload_n 1 rfl rfl dX10_paste_8 ?_
  refine wq_iconst (z := 0) (zlit rfl) dX10_paste_9 ?_
  refine wq_aload_n 2 rfl rfl dX10_paste_10 ?_
  refine wq_getI fk_X10_95 tT_9 (fun _ _ _ => rfl) dX10_paste_11 ?_
  refine wN_S (As := [vI p1, vI 0, vI (gI h 9 1)]) md_X10_isWithin ms_X10_isWithin lk_X10_87 rfl rfl (Nat.le_of_ble_eq_true rfl) (Nat.le_of_ble_eq_true rfl) (d' := d - 1) (by omega) dX10_paste_14 hv (fun v9 h2 q3 => ?_)
  obtain ⟨z1, rfl, hS4, q3⟩ := q3
  refine wq_st (st' := [vI z1]) rfl ?_
  refine wq_if_ne 24 rfl dX10_paste_17 (fun c5 => ?_) (fun c5 => ?_)
  · refine wq_aload_n 0 rfl rfl dX10_paste_24 ?_
    refine wq_getR fk_X10_18 tT_1 (fun _ _ _ => rfl) (sh_10_1 hS4) (by decide) dX10_paste_25 ?_
    refine wq_getI fk_X10_95 tT_4 (fun _ _ _ => rfl) dX10_paste_28 ?_
    refine wq_if_ne 38 rfl dX10_paste_31 (fun c6 => ?_) (fun c6 => ?_)
    · refine wq_aload_n 0 rfl rfl dX10_paste_38 ?_
      refine wq_getR fk_X10_18 tT_1 (fun _ _ _ => rfl) (sh_10_1 hS4) (by decide) dX10_paste_39 ?_
      refine wq_getI fk_X10_95 tT_4 (fun _ _ _ => rfl) dX10_paste_42 ?_
      refine wq_sipush (z := 200) (zlit rfl) rfl dX10_paste_45 ?_
      refine wq_aload_n 2 rfl rfl dX10_paste_48 ?_
      refine wq_getI fk_X10_95 tT_9 (fun _ _ _ => rfl) dX10_paste_49 ?_
      refine wq_isub ((q3.1 c5).1 c6).1 dX10_paste_52 ?_
      refine wq_icmp_le 60 rfl dX10_paste_53 (fun c7 => ?_) (fun c7 => ?_)
      · refine wq_aload_n 0 rfl rfl dX10_paste_60 ?_
        refine wq_getR fk_X10_36 tT_1 (fun _ _ _ => rfl) (sh_10_4 hS4) (by decide) dX10_paste_61 ?_
        refine wN_V (As := []) vm_X4_keep lk_X10_123 tT_13 rfl rfl (Nat.le_of_ble_eq_true rfl) (Nat.le_of_ble_eq_true rfl) (d' := d - 1) (by omega) dX10_paste_64 (((q3.1 c5).1 c6).2.1 c7) (fun v9 h9 q10 => ?_)
        obtain ⟨rfl, hS11, q10⟩ := q10
        refine wq_st (st' := []) rfl ?_
        refine wq_aload_n 0 rfl rfl dX10_paste_67 ?_
        refine wq_getR fk_X10_27 tT_1 (fun _ _ _ => rfl) (sh_10_3 hS11) (by decide) dX10_paste_68 ?_
        refine wq_iload_n 1 rfl rfl dX10_paste_71 ?_
        refine wq_aload_n 0 rfl rfl dX10_paste_72 ?_
        refine wq_getR fk_X10_18 tT_1 (fun _ _ _ => rfl) (sh_10_1 hS11) (by decide) dX10_paste_73 ?_
        refine wq_getI fk_X10_95 tT_4 (fun _ _ _ => rfl) dX10_paste_76 ?_
        refine wN_V (As := [vI p1, vI (gI h9 4 1)]) vm_X2_openGap lk_X10_126 tT_8 rfl rfl (Nat.le_of_ble_eq_true rfl) (Nat.le_of_ble_eq_true rfl) (d' := d - 1) (by omega) dX10_paste_79 q10 (fun v9 h13 q14 => ?_)
        obtain ⟨rfl, hS15, q14⟩ := q14
        refine wq_st (st' := []) rfl ?_
        refine wq_aload_n 2 rfl rfl dX10_paste_82 ?_
        refine wq_iload_n 1 rfl rfl dX10_paste_83 ?_
        refine wq_aload_n 0 rfl rfl dX10_paste_84 ?_
        refine wq_getR fk_X10_18 tT_1 (fun _ _ _ => rfl) (sh_10_1 hS15) (by decide) dX10_paste_85 ?_
        refine wN_V (As := [vI p1, vR 4]) vm_X0_putAll lk_X10_150 tT_9 rfl rfl (Nat.le_of_ble_eq_true rfl) (Nat.le_of_ble_eq_true rfl) (d' := d - 1) (by omega) dX10_paste_88 q14 (fun v9 h17 q18 => ?_)
        obtain ⟨rfl, hS19, q18⟩ := q18
        refine wq_st (st' := []) rfl ?_
        refine wq_aload_n 0 rfl rfl dX10_paste_91 ?_
        refine wq_aload_n 0 rfl rfl dX10_paste_92 ?_
        refine wq_getI fk_X10_83 tT_1 (fun _ _ _ => rfl) dX10_paste_93 ?_
        refine wN_V (As := [vI (gI h17 1 11)]) vm_X10_endChange lk_X10_133 tT_1 rfl rfl (Nat.le_of_ble_eq_true rfl) (Nat.le_of_ble_eq_true rfl) (d' := d - 1) (by omega) dX10_paste_96 q18 (fun v9 h21 q22 => ?_)
        obtain ⟨z20, rfl, hS23, q22⟩ := q22
        refine wq_st (st' := [vI z20]) rfl ?_
        refine wq_sipush (z := -1005) (zlit rfl) rfl dX10_paste_99 ?_
        refine wq_icmp_ne 111 rfl dX10_paste_102 (fun c24 => ?_) (fun c24 => ?_)
        · refine wq_aload_n 2 rfl rfl dX10_paste_111 ?_
          refine wq_getI fk_X10_95 tT_9 (fun _ _ _ => rfl) dX10_paste_112 ?_
          exact wp_iret rfl dX10_paste_115 (q22.1 c24)
        · refine wq_sipush (z := -1005) (zlit rfl) rfl dX10_paste_105 ?_
          refine wq_goto 115 rfl dX10_paste_108 ?_
          exact wp_iret rfl dX10_paste_115 (q22.2 c24)
      · refine wq_sipush (z := -1003) (zlit rfl) rfl dX10_paste_56 ?_
        exact wp_iret rfl dX10_paste_59 (((q3.1 c5).1 c6).2.2 c7)
    · refine wq_sipush (z := -1002) (zlit rfl) rfl dX10_paste_34 ?_
      exact wp_iret rfl dX10_paste_37 ((q3.1 c5).2 c6)
  · refine wq_sipush (z := -1001) (zlit rfl) rfl dX10_paste_20 ?_
    exact wp_iret rfl dX10_paste_23 (q3.2 c5)
theorem dX10_pasteOver_0 : decode cX10_pasteOver 0 = .ok (.aload_n 0, 1) := by decide +kernel
theorem dX10_pasteOver_1 : decode cX10_pasteOver 1 = .ok (.getfield 27, 3) := by decide +kernel
theorem dX10_pasteOver_4 : decode cX10_pasteOver 4 = .ok (.getfield 69, 3) := by decide +kernel
theorem dX10_pasteOver_7 : decode cX10_pasteOver 7 = .ok (.astore_n 2, 1) := by decide +kernel
theorem dX10_pasteOver_8 : decode cX10_pasteOver 8 = .ok (.iload_n 1, 1) := by decide +kernel
theorem dX10_pasteOver_9 : decode cX10_pasteOver 9 = .ok (.iconst 0, 1) := by decide +kernel
theorem dX10_pasteOver_10 : decode cX10_pasteOver 10 = .ok (.aload_n 2, 1) := by decide +kernel
theorem dX10_pasteOver_11 : decode cX10_pasteOver 11 = .ok (.getfield 95, 3) := by decide +kernel
theorem dX10_pasteOver_14 : decode cX10_pasteOver 14 = .ok (.invokestatic 87, 3) := by decide +kernel
theorem dX10_pasteOver_17 : decode cX10_pasteOver 17 = .ok (.ifCond .ne 7, 3) := by decide +kernel
theorem dX10_pasteOver_20 : decode cX10_pasteOver 20 = .ok (.sipush (-1001), 3) := by decide +kernel
theorem dX10_pasteOver_23 : decode cX10_pasteOver 23 = .ok (.ireturn, 1) := by decide +kernel
theorem dX10_pasteOver_24 : decode cX10_pasteOver 24 = .ok (.aload_n 0, 1) := by decide +kernel
theorem dX10_pasteOver_25 : decode cX10_pasteOver 25 = .ok (.getfield 18, 3) := by decide +kernel
theorem dX10_pasteOver_28 : decode cX10_pasteOver 28 = .ok (.getfield 95, 3) := by decide +kernel
theorem dX10_pasteOver_31 : decode cX10_pasteOver 31 = .ok (.ifCond .ne 7, 3) := by decide +kernel
theorem dX10_pasteOver_34 : decode cX10_pasteOver 34 = .ok (.sipush (-1002), 3) := by decide +kernel
theorem dX10_pasteOver_37 : decode cX10_pasteOver 37 = .ok (.ireturn, 1) := by decide +kernel
theorem dX10_pasteOver_38 : decode cX10_pasteOver 38 = .ok (.aload_n 0, 1) := by decide +kernel
theorem dX10_pasteOver_39 : decode cX10_pasteOver 39 = .ok (.getfield 18, 3) := by decide +kernel
theorem dX10_pasteOver_42 : decode cX10_pasteOver 42 = .ok (.getfield 95, 3) := by decide +kernel
theorem dX10_pasteOver_45 : decode cX10_pasteOver 45 = .ok (.aload_n 2, 1) := by decide +kernel
theorem dX10_pasteOver_46 : decode cX10_pasteOver 46 = .ok (.getfield 95, 3) := by decide +kernel
theorem dX10_pasteOver_49 : decode cX10_pasteOver 49 = .ok (.iload_n 1, 1) := by decide +kernel
theorem dX10_pasteOver_50 : decode cX10_pasteOver 50 = .ok (.isub, 1) := by decide +kernel
theorem dX10_pasteOver_51 : decode cX10_pasteOver 51 = .ok (.if_icmp .le 7, 3) := by decide +kernel
theorem dX10_pasteOver_54 : decode cX10_pasteOver 54 = .ok (.sipush (-1003), 3) := by decide +kernel
theorem dX10_pasteOver_57 : decode cX10_pasteOver 57 = .ok (.ireturn, 1) := by decide +kernel
theorem dX10_pasteOver_58 : decode cX10_pasteOver 58 = .ok (.aload_n 0, 1) := by decide +kernel
theorem dX10_pasteOver_59 : decode cX10_pasteOver 59 = .ok (.getfield 36, 3) := by decide +kernel
theorem dX10_pasteOver_62 : decode cX10_pasteOver 62 = .ok (.invokevirtual 123, 3) := by decide +kernel
theorem dX10_pasteOver_65 : decode cX10_pasteOver 65 = .ok (.aload_n 2, 1) := by decide +kernel
theorem dX10_pasteOver_66 : decode cX10_pasteOver 66 = .ok (.iload_n 1, 1) := by decide +kernel
theorem dX10_pasteOver_67 : decode cX10_pasteOver 67 = .ok (.aload_n 0, 1) := by decide +kernel
theorem dX10_pasteOver_68 : decode cX10_pasteOver 68 = .ok (.getfield 18, 3) := by decide +kernel
theorem dX10_pasteOver_71 : decode cX10_pasteOver 71 = .ok (.invokevirtual 150, 3) := by decide +kernel
theorem dX10_pasteOver_74 : decode cX10_pasteOver 74 = .ok (.aload_n 0, 1) := by decide +kernel
theorem dX10_pasteOver_75 : decode cX10_pasteOver 75 = .ok (.aload_n 0, 1) := by decide +kernel
theorem dX10_pasteOver_76 : decode cX10_pasteOver 76 = .ok (.getfield 83, 3) := by decide +kernel
theorem dX10_pasteOver_79 : decode cX10_pasteOver 79 = .ok (.invokevirtual 133, 3) := by decide +kernel
theorem dX10_pasteOver_82 : decode cX10_pasteOver 82 = .ok (.sipush (-1005), 3) := by decide +kernel
theorem dX10_pasteOver_85 : decode cX10_pasteOver 85 = .ok (.if_icmp .ne 9, 3) := by decide +kernel
theorem dX10_pasteOver_88 : decode cX10_pasteOver 88 = .ok (.sipush (-1005), 3) := by decide +kernel
theorem dX10_pasteOver_91 : decode cX10_pasteOver 91 = .ok (.goto 10, 3) := by decide +kernel
theorem dX10_pasteOver_94 : decode cX10_pasteOver 94 = .ok (.aload_n 0, 1) := by decide +kernel
theorem dX10_pasteOver_95 : decode cX10_pasteOver 95 = .ok (.getfield 18, 3) := by decide +kernel
theorem dX10_pasteOver_98 : decode cX10_pasteOver 98 = .ok (.getfield 95, 3) := by decide +kernel
theorem dX10_pasteOver_101 : decode cX10_pasteOver 101 = .ok (.ireturn, 1) := by decide +kernel
theorem vc_X10_pasteOver_0 {G : zG} {d : Nat} {Q : Option zV → zHp → Prop} (p1 : Int) (h : zHp) (hS : zSh h) (hd : 8 ≤ d)  
    (hv : (wpN G (d - 1) M_X10_isWithin 0 (zar 0 [vI p1, vI 0, vI (gI h 9 1)]) [] h (qI (fun z1 h2 => zSh h2 ∧ ((z1 ≠ 0 → (((gI h2 4 1) ≠ 0 → ((-2147483648 ≤ (gI h2 9 1) - p1 ∧ (gI h2 9 1) - p1 ≤ 2147483647) ∧ (((gI h2 4 1) ≤ ((gI h2 9 1) - p1) → (wpN G (d - 1) M_X4_keep 0 (zar 0 [vR 13]) [] h2 (qV (fun h9 => zSh h9 ∧ (wpN G (d - 1) M_X0_putAll 0 (zar 0 [vR 9, vI p1, vR 4]) [] h9 (qV (fun h13 => zSh h13 ∧ (wpN G (d - 1) M_X10_endChange 0 (zar 0 [vR 1, vI (gI h13 1 11)]) [] h13 (qI (fun z16 h17 => zSh h17 ∧ ((z16 ≠ (-1005) → Q (some (vI (gI h17 4 1))) h17) ∧ (z16 = (-1005) → Q (some (vI (-1005))) h17)))))))))))) ∧ (((gI h2 9 1) - p1) < (gI h2 4 1) → Q (some (vI (-1003))) h2)))) ∧ ((gI h2 4 1) = 0 → Q (some (vI (-1002))) h2))) ∧ (z1 = 0 → Q (some (vI (-1001))) h2)))))) : wpN G d M_X10_pasteOver 0 [(0, vR 1), (1, vI p1)] [] h Q := by
  refine wq_aload_n 0 rfl rfl dX10_pasteOver_0 ?_
  refine wq_getR fk_X10_27 tT_1 (fun _ _ _ => rfl) (sh_10_3 hS) (by decide) dX10_pasteOver_1 ?_
  refine wq_getR (r := 9) fk_X10_69 tT_8 (fun _ _ _ => rfl) (sh_2_0 hS tT_8) (by decide) dX10_pasteOver_4 ?_
  refine wq_astore_n (ls' := [(0, vR 1), (1, vI p1), (2, vR 9)]) rfl (by decide) rfl dX10_pasteOver_7 ?_
  refine wq_iload_n 1 rfl rfl dX10_pasteOver_8 ?_
  refine wq_iconst (z := 0) (zlit rfl) dX10_pasteOver_9 ?_
  refine wq_aload_n 2 rfl rfl dX10_pasteOver_10 ?_
  refine wq_getI fk_X10_95 tT_9 (fun _ _ _ => rfl) dX10_pasteOver_11 ?_
  refine wN_S (As := [vI p1, vI 0, vI (gI h 9 1)]) md_X10_isWithin ms_X10_isWithin lk_X10_87 rfl rfl (Nat.le_of_ble_eq_true rfl) (Nat.le_of_ble_eq_true rfl) (d' := d - 1) (by omega) dX10_pasteOver_14 hv (fun v9 h2 q3 => ?_)
  obtain ⟨z1, rfl, hS4, q3⟩ := q3
  refine wq_st (st' := [vI z1]) rfl ?_
  refine wq_if_ne 24 rfl dX10_pasteOver_17 (fun c5 => ?_) (fun c5 => ?_)
  · refine wq_aload_n 0 rfl rfl dX10_pasteOver_24 ?_
    refine wq_getR fk_X10_18 tT_1 (fun _ _ _ => rfl) (sh_10_1 hS4) (by decide) dX10_pasteOver_25 ?_
    refine wq_getI fk_X10_95 tT_4 (fun _ _ _ => rfl) dX10_pasteOver_28 ?_
    refine wq_if_ne 38 rfl dX10_pasteOver_31 (fun c6 => ?_) (fun c6 => ?_)
    · refine wq_aload_n 0 rfl rfl dX10_pasteOver_38 ?_
      refine wq_getR fk_X10_18 tT_1 (fun _ _ _ => rfl) (sh_10_1 hS4) (by decide) dX10_pasteOver_39 ?_
      refine wq_getI fk_X10_95 tT_4 (fun _ _ _ => rfl) dX10_pasteOver_42 ?_
      refine wq_aload_n 2 rfl rfl dX10_pasteOver_45 ?_
      refine wq_getI fk_X10_95 tT_9 (fun _ _ _ => rfl) dX10_pasteOver_46 ?_
      refine wq_iload_n 1 rfl rfl dX10_pasteOver_49 ?_
      refine wq_isub ((q3.1 c5).1 c6).1 dX10_pasteOver_50 ?_
      refine wq_icmp_le 58 rfl dX10_pasteOver_51 (fun c7 => ?_) (fun c7 => ?_)
      · refine wq_aload_n 0 rfl rfl dX10_pasteOver_58 ?_
        refine wq_getR fk_X10_36 tT_1 (fun _ _ _ => rfl) (sh_10_4 hS4) (by decide) dX10_pasteOver_59 ?_
        refine wN_V (As := []) vm_X4_keep lk_X10_123 tT_13 rfl rfl (Nat.le_of_ble_eq_true rfl) (Nat.le_of_ble_eq_true rfl) (d' := d - 1) (by omega) dX10_pasteOver_62 (((q3.1 c5).1 c6).2.1 c7) (fun v9 h9 q10 => ?_)
        obtain ⟨rfl, hS11, q10⟩ := q10
        refine wq_st (st' := []) rfl ?_
        refine wq_aload_n 2 rfl rfl dX10_pasteOver_65 ?_
        refine wq_iload_n 1 rfl rfl dX10_pasteOver_66 ?_
        refine wq_aload_n 0 rfl rfl dX10_pasteOver_67 ?_
        refine wq_getR fk_X10_18 tT_1 (fun _ _ _ => rfl) (sh_10_1 hS11) (by decide) dX10_pasteOver_68 ?_
        refine wN_V (As := [vI p1, vR 4]) vm_X0_putAll lk_X10_150 tT_9 rfl rfl (Nat.le_of_ble_eq_true rfl) (Nat.le_of_ble_eq_true rfl) (d' := d - 1) (by omega) dX10_pasteOver_71 q10 (fun v9 h13 q14 => ?_)
        obtain ⟨rfl, hS15, q14⟩ := q14
        refine wq_st (st' := []) rfl ?_
        refine wq_aload_n 0 rfl rfl dX10_pasteOver_74 ?_
        refine wq_aload_n 0 rfl rfl dX10_pasteOver_75 ?_
        refine wq_getI fk_X10_83 tT_1 (fun _ _ _ => rfl) dX10_pasteOver_76 ?_
        refine wN_V (As := [vI (gI h13 1 11)]) vm_X10_endChange lk_X10_133 tT_1 rfl rfl (Nat.le_of_ble_eq_true rfl) (Nat.le_of_ble_eq_true rfl) (d' := d - 1) (by omega) dX10_pasteOver_79 q14 (fun v9 h17 q18 => ?_)
        obtain ⟨z16, rfl, hS19, q18⟩ := q18
        refine wq_st (st' := [vI z16]) rfl ?_
        refine wq_sipush (z := -1005) (zlit rfl) rfl dX10_pasteOver_82 ?_
        refine wq_icmp_ne 94 rfl dX10_pasteOver_85 (fun c20 => ?_) (fun c20 => ?_)
        · refine wq_aload_n 0 rfl rfl dX10_pasteOver_94 ?_
          refine wq_getR fk_X10_18 tT_1 (fun _ _ _ => rfl) (sh_10_1 hS19) (by decide) dX10_pasteOver_95 ?_
          refine wq_getI fk_X10_95 tT_4 (fun _ _ _ => rfl) dX10_pasteOver_98 ?_
          exact wp_iret rfl dX10_pasteOver_101 (q18.1 c20)
        · refine wq_sipush (z := -1005) (zlit rfl) rfl dX10_pasteOver_88 ?_
          refine wq_goto 101 rfl dX10_pasteOver_91 ?_
          exact wp_iret rfl dX10_pasteOver_101 (q18.2 c20)
      · refine wq_sipush (z := -1003) (zlit rfl) rfl dX10_pasteOver_54 ?_
        exact wp_iret rfl dX10_pasteOver_57 (((q3.1 c5).1 c6).2.2 c7)
    · refine wq_sipush (z := -1002) (zlit rfl) rfl dX10_pasteOver_34 ?_
      exact wp_iret rfl dX10_pasteOver_37 ((q3.1 c5).2 c6)
  · refine wq_sipush (z := -1001) (zlit rfl) rfl dX10_pasteOver_20 ?_
    exact wp_iret rfl dX10_pasteOver_23 (q3.2 c5)
