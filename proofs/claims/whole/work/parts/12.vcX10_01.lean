theorem dX10_lay_0 : decode cX10_lay 0 = .ok (.iload_n 1, 1) := by decide +kernel
theorem dX10_lay_1 : decode cX10_lay 1 = .ok (.iconst 0, 1) := by decide +kernel
theorem dX10_lay_2 : decode cX10_lay 2 = .ok (.iconst 3, 1) := by decide +kernel
theorem dX10_lay_3 : decode cX10_lay 3 = .ok (.invokestatic 87, 3) := by decide +kernel
theorem dX10_lay_6 : decode cX10_lay 6 = .ok (.ifCond .eq 30, 3) := by decide +kernel
theorem dX10_lay_9 : decode cX10_lay 9 = .ok (.iload_n 2, 1) := by decide +kernel
theorem dX10_lay_10 : decode cX10_lay 10 = .ok (.iconst 0, 1) := by decide +kernel
theorem dX10_lay_11 : decode cX10_lay 11 = .ok (.iconst 3, 1) := by decide +kernel
theorem dX10_lay_12 : decode cX10_lay 12 = .ok (.invokestatic 87, 3) := by decide +kernel
theorem dX10_lay_15 : decode cX10_lay 15 = .ok (.ifCond .eq 21, 3) := by decide +kernel
theorem dX10_lay_18 : decode cX10_lay 18 = .ok (.iload_n 3, 1) := by decide +kernel
theorem dX10_lay_19 : decode cX10_lay 19 = .ok (.iconst 0, 1) := by decide +kernel
theorem dX10_lay_20 : decode cX10_lay 20 = .ok (.aload_n 0, 1) := by decide +kernel
theorem dX10_lay_21 : decode cX10_lay 21 = .ok (.getfield 27, 3) := by decide +kernel
theorem dX10_lay_24 : decode cX10_lay 24 = .ok (.getfield 69, 3) := by decide +kernel
theorem dX10_lay_27 : decode cX10_lay 27 = .ok (.getfield 95, 3) := by decide +kernel
theorem dX10_lay_30 : decode cX10_lay 30 = .ok (.invokestatic 87, 3) := by decide +kernel
theorem dX10_lay_33 : decode cX10_lay 33 = .ok (.ifCond .ne 7, 3) := by decide +kernel
theorem dX10_lay_36 : decode cX10_lay 36 = .ok (.sipush (-1001), 3) := by decide +kernel
theorem dX10_lay_39 : decode cX10_lay 39 = .ok (.ireturn, 1) := by decide +kernel
theorem dX10_lay_40 : decode cX10_lay 40 = .ok (.aload_n 0, 1) := by decide +kernel
theorem dX10_lay_41 : decode cX10_lay 41 = .ok (.getfield 36, 3) := by decide +kernel
theorem dX10_lay_44 : decode cX10_lay 44 = .ok (.invokevirtual 123, 3) := by decide +kernel
theorem dX10_lay_47 : decode cX10_lay 47 = .ok (.aload_n 0, 1) := by decide +kernel
theorem dX10_lay_48 : decode cX10_lay 48 = .ok (.getfield 27, 3) := by decide +kernel
theorem dX10_lay_51 : decode cX10_lay 51 = .ok (.getfield 154, 3) := by decide +kernel
theorem dX10_lay_54 : decode cX10_lay 54 = .ok (.iload_n 1, 1) := by decide +kernel
theorem dX10_lay_55 : decode cX10_lay 55 = .ok (.iload_n 2, 1) := by decide +kernel
theorem dX10_lay_56 : decode cX10_lay 56 = .ok (.iastore, 1) := by decide +kernel
theorem dX10_lay_57 : decode cX10_lay 57 = .ok (.aload_n 0, 1) := by decide +kernel
theorem dX10_lay_58 : decode cX10_lay 58 = .ok (.getfield 27, 3) := by decide +kernel
theorem dX10_lay_61 : decode cX10_lay 61 = .ok (.getfield 157, 3) := by decide +kernel
theorem dX10_lay_64 : decode cX10_lay 64 = .ok (.iload_n 1, 1) := by decide +kernel
theorem dX10_lay_65 : decode cX10_lay 65 = .ok (.iload_n 3, 1) := by decide +kernel
theorem dX10_lay_66 : decode cX10_lay 66 = .ok (.iastore, 1) := by decide +kernel
theorem dX10_lay_67 : decode cX10_lay 67 = .ok (.aload_n 0, 1) := by decide +kernel
theorem dX10_lay_68 : decode cX10_lay 68 = .ok (.aload_n 0, 1) := by decide +kernel
theorem dX10_lay_69 : decode cX10_lay 69 = .ok (.getfield 83, 3) := by decide +kernel
theorem dX10_lay_72 : decode cX10_lay 72 = .ok (.invokevirtual 133, 3) := by decide +kernel
theorem dX10_lay_75 : decode cX10_lay 75 = .ok (.sipush (-1005), 3) := by decide +kernel
theorem dX10_lay_78 : decode cX10_lay 78 = .ok (.if_icmp .ne 9, 3) := by decide +kernel
theorem dX10_lay_81 : decode cX10_lay 81 = .ok (.sipush (-1005), 3) := by decide +kernel
theorem dX10_lay_84 : decode cX10_lay 84 = .ok (.goto 8, 3) := by decide +kernel
theorem dX10_lay_87 : decode cX10_lay 87 = .ok (.aload_n 0, 1) := by decide +kernel
theorem dX10_lay_88 : decode cX10_lay 88 = .ok (.iload_n 1, 1) := by decide +kernel
theorem dX10_lay_89 : decode cX10_lay 89 = .ok (.invokevirtual 160, 3) := by decide +kernel
theorem dX10_lay_92 : decode cX10_lay 92 = .ok (.ireturn, 1) := by decide +kernel
theorem vc_X10_lay_0 {G : zG} {d : Nat} {Q : Option zV → zHp → Prop} (p1 : Int) (p2 : Int) (p3 : Int) (h : zHp) (hS : zSh h) (hd : 8 ≤ d)  
    (hv : (wpN G (d - 1) M_X10_isWithin 0 (zar 0 [vI p1, vI 0, vI 3]) [] h (qI (fun z1 h2 => zSh h2 ∧ ((z1 = 0 → Q (some (vI (-1001))) h2) ∧ (z1 ≠ 0 → (wpN G (d - 1) M_X10_isWithin 0 (zar 0 [vI p2, vI 0, vI 3]) [] h2 (qI (fun z6 h7 => zSh h7 ∧ ((z6 = 0 → Q (some (vI (-1001))) h7) ∧ (z6 ≠ 0 → (wpN G (d - 1) M_X10_isWithin 0 (zar 0 [vI p3, vI 0, vI (gI h7 9 1)]) [] h7 (qI (fun z11 h12 => zSh h12 ∧ ((z11 ≠ 0 → (wpN G (d - 1) M_X4_keep 0 (zar 0 [vR 13]) [] h12 (qV (fun h17 => zSh h17 ∧ (((0 : Int) ≤ p1 ∧ p1 < ((4 : Nat) : Int)) ∧ (∀ h20 : zHp, h20 = sI h17 11 p1.toNat p2 → (((0 : Int) ≤ p1 ∧ p1 < ((4 : Nat) : Int)) ∧ (∀ h22 : zHp, h22 = sI h20 12 p1.toNat p3 → (wpN G (d - 1) M_X10_endChange 0 (zar 0 [vR 1, vI (gI h22 1 11)]) [] h22 (qI (fun z24 h25 => zSh h25 ∧ ((z24 ≠ (-1005) → (wpN G (d - 1) M_X10_fieldsOf 0 (zar 0 [vR 1, vI p1]) [] h25 (qI (fun z29 h30 => zSh h30 ∧ Q (some (vI z29)) h30)))) ∧ (z24 = (-1005) → Q (some (vI (-1005))) h25))))))))))))) ∧ (z11 = 0 → Q (some (vI (-1001))) h12)))))))))))))))) : wpN G d M_X10_lay 0 [(0, vR 1), (1, vI p1), (2, vI p2), (3, vI p3)] [] h Q := by
  refine wq_iload_n 1 rfl rfl dX10_lay_0 ?_
  refine wq_iconst (z := 0) (zlit rfl) dX10_lay_1 ?_
  refine wq_iconst (z := 3) (zlit rfl) dX10_lay_2 ?_
  refine wN_S (As := [vI p1, vI 0, vI 3]) md_X10_isWithin ms_X10_isWithin lk_X10_87 rfl rfl (Nat.le_of_ble_eq_true rfl) (Nat.le_of_ble_eq_true rfl) (d' := d - 1) (by omega) dX10_lay_3 hv (fun v9 h2 q3 => ?_)
  obtain ⟨z1, rfl, hS4, q3⟩ := q3
  refine wq_st (st' := [vI z1]) rfl ?_
  refine wq_if_eq 36 rfl dX10_lay_6 (fun c5 => ?_) (fun c5 => ?_)
  · refine wq_sipush (z := -1001) (zlit rfl) rfl dX10_lay_36 ?_
    exact wp_iret rfl dX10_lay_39 (q3.1 c5)
  · refine wq_iload_n 2 rfl rfl dX10_lay_9 ?_
    refine wq_iconst (z := 0) (zlit rfl) dX10_lay_10 ?_
    refine wq_iconst (z := 3) (zlit rfl) dX10_lay_11 ?_
    refine wN_S (As := [vI p2, vI 0, vI 3]) md_X10_isWithin ms_X10_isWithin lk_X10_87 rfl rfl (Nat.le_of_ble_eq_true rfl) (Nat.le_of_ble_eq_true rfl) (d' := d - 1) (by omega) dX10_lay_12 (q3.2 c5) (fun v9 h7 q8 => ?_)
    obtain ⟨z6, rfl, hS9, q8⟩ := q8
    refine wq_st (st' := [vI z6]) rfl ?_
    refine wq_if_eq 36 rfl dX10_lay_15 (fun c10 => ?_) (fun c10 => ?_)
    · refine wq_sipush (z := -1001) (zlit rfl) rfl dX10_lay_36 ?_
      exact wp_iret rfl dX10_lay_39 (q8.1 c10)
    · refine wq_iload_n 3 rfl rfl dX10_lay_18 ?_
      refine wq_iconst (z := 0) (zlit rfl) dX10_lay_19 ?_
      refine wq_aload_n 0 rfl rfl dX10_lay_20 ?_
      refine wq_getR fk_X10_27 tT_1 (fun _ _ _ => rfl) (sh_10_3 hS9) (by decide) dX10_lay_21 ?_
      refine wq_getR (r := 9) fk_X10_69 tT_8 (fun _ _ _ => rfl) (sh_2_0 hS9 tT_8) (by decide) dX10_lay_24 ?_
      refine wq_getI fk_X10_95 tT_9 (fun _ _ _ => rfl) dX10_lay_27 ?_
      refine wN_S (As := [vI p3, vI 0, vI (gI h7 9 1)]) md_X10_isWithin ms_X10_isWithin lk_X10_87 rfl rfl (Nat.le_of_ble_eq_true rfl) (Nat.le_of_ble_eq_true rfl) (d' := d - 1) (by omega) dX10_lay_30 (q8.2 c10) (fun v9 h12 q13 => ?_)
      obtain ⟨z11, rfl, hS14, q13⟩ := q13
      refine wq_st (st' := [vI z11]) rfl ?_
      refine wq_if_ne 40 rfl dX10_lay_33 (fun c15 => ?_) (fun c15 => ?_)
      · refine wq_aload_n 0 rfl rfl dX10_lay_40 ?_
        refine wq_getR fk_X10_36 tT_1 (fun _ _ _ => rfl) (sh_10_4 hS14) (by decide) dX10_lay_41 ?_
        refine wN_V (As := []) vm_X4_keep lk_X10_123 tT_13 rfl rfl (Nat.le_of_ble_eq_true rfl) (Nat.le_of_ble_eq_true rfl) (d' := d - 1) (by omega) dX10_lay_44 (q13.1 c15) (fun v9 h17 q18 => ?_)
        obtain ⟨rfl, hS19, q18⟩ := q18
        refine wq_st (st' := []) rfl ?_
        refine wq_aload_n 0 rfl rfl dX10_lay_47 ?_
        refine wq_getR fk_X10_27 tT_1 (fun _ _ _ => rfl) (sh_10_3 hS19) (by decide) dX10_lay_48 ?_
        refine wq_getR (r := 11) fk_X10_154 tT_8 (fun _ _ _ => rfl) (sh_2_1 hS19 tT_8) (by decide) dX10_lay_51 ?_
        refine wq_iload_n 1 rfl rfl dX10_lay_54 ?_
        refine wq_iload_n 2 rfl rfl dX10_lay_55 ?_
        refine wq_iast tT_11 q18.1.1 q18.1.2 dX10_lay_56 ?_
        refine wq_toph (fun h20 e21 => ?_)
        have sh20 : zSh h20 := zSh_of e21 hS19
        refine wq_aload_n 0 rfl rfl dX10_lay_57 ?_
        refine wq_getR fk_X10_27 tT_1 (fun _ _ _ => rfl) (sh_10_3 sh20) (by decide) dX10_lay_58 ?_
        refine wq_getR (r := 12) fk_X10_157 tT_8 (fun _ _ _ => rfl) (sh_2_2 sh20 tT_8) (by decide) dX10_lay_61 ?_
        refine wq_iload_n 1 rfl rfl dX10_lay_64 ?_
        refine wq_iload_n 3 rfl rfl dX10_lay_65 ?_
        refine wq_iast tT_12 (q18.2 h20 e21).1.1 (q18.2 h20 e21).1.2 dX10_lay_66 ?_
        refine wq_toph (fun h22 e23 => ?_)
        have sh22 : zSh h22 := zSh_of e23 sh20
        refine wq_aload_n 0 rfl rfl dX10_lay_67 ?_
        refine wq_aload_n 0 rfl rfl dX10_lay_68 ?_
        refine wq_getI fk_X10_83 tT_1 (fun _ _ _ => rfl) dX10_lay_69 ?_
        refine wN_V (As := [vI (gI h22 1 11)]) vm_X10_endChange lk_X10_133 tT_1 rfl rfl (Nat.le_of_ble_eq_true rfl) (Nat.le_of_ble_eq_true rfl) (d' := d - 1) (by omega) dX10_lay_72 ((q18.2 h20 e21).2 h22 e23) (fun v9 h25 q26 => ?_)
        obtain ⟨z24, rfl, hS27, q26⟩ := q26
        refine wq_st (st' := [vI z24]) rfl ?_
        refine wq_sipush (z := -1005) (zlit rfl) rfl dX10_lay_75 ?_
        refine wq_icmp_ne 87 rfl dX10_lay_78 (fun c28 => ?_) (fun c28 => ?_)
        · refine wq_aload_n 0 rfl rfl dX10_lay_87 ?_
          refine wq_iload_n 1 rfl rfl dX10_lay_88 ?_
          refine wN_V (As := [vI p1]) vm_X10_fieldsOf lk_X10_160 tT_1 rfl rfl (Nat.le_of_ble_eq_true rfl) (Nat.le_of_ble_eq_true rfl) (d' := d - 1) (by omega) dX10_lay_89 (q26.1 c28) (fun v9 h30 q31 => ?_)
          obtain ⟨z29, rfl, hS32, q31⟩ := q31
          refine wq_st (st' := [vI z29]) rfl ?_
          exact wp_iret rfl dX10_lay_92 q31
        · refine wq_sipush (z := -1005) (zlit rfl) rfl dX10_lay_81 ?_
          refine wq_goto 92 rfl dX10_lay_84 ?_
          exact wp_iret rfl dX10_lay_92 (q26.2 c28)
      · refine wq_sipush (z := -1001) (zlit rfl) rfl dX10_lay_36 ?_
        exact wp_iret rfl dX10_lay_39 (q13.2 c15)
theorem dX10_remove_0 : decode cX10_remove 0 = .ok (.aload_n 0, 1) := by decide +kernel
theorem dX10_remove_1 : decode cX10_remove 1 = .ok (.getfield 27, 3) := by decide +kernel
theorem dX10_remove_4 : decode cX10_remove 4 = .ok (.iload_n 1, 1) := by decide +kernel
theorem dX10_remove_5 : decode cX10_remove 5 = .ok (.invokevirtual 163, 3) := by decide +kernel
theorem dX10_remove_8 : decode cX10_remove 8 = .ok (.ifCond .ne 7, 3) := by decide +kernel
theorem dX10_remove_11 : decode cX10_remove 11 = .ok (.sipush (-1001), 3) := by decide +kernel
theorem dX10_remove_14 : decode cX10_remove 14 = .ok (.ireturn, 1) := by decide +kernel
theorem dX10_remove_15 : decode cX10_remove 15 = .ok (.aload_n 0, 1) := by decide +kernel
theorem dX10_remove_16 : decode cX10_remove 16 = .ok (.getfield 27, 3) := by decide +kernel
theorem dX10_remove_19 : decode cX10_remove 19 = .ok (.getfield 157, 3) := by decide +kernel
theorem dX10_remove_22 : decode cX10_remove 22 = .ok (.iload_n 1, 1) := by decide +kernel
theorem dX10_remove_23 : decode cX10_remove 23 = .ok (.iaload, 1) := by decide +kernel
theorem dX10_remove_24 : decode cX10_remove 24 = .ok (.istore_n 2, 1) := by decide +kernel
theorem dX10_remove_25 : decode cX10_remove 25 = .ok (.aload_n 0, 1) := by decide +kernel
theorem dX10_remove_26 : decode cX10_remove 26 = .ok (.getfield 36, 3) := by decide +kernel
theorem dX10_remove_29 : decode cX10_remove 29 = .ok (.invokevirtual 123, 3) := by decide +kernel
theorem dX10_remove_32 : decode cX10_remove 32 = .ok (.aload_n 0, 1) := by decide +kernel
theorem dX10_remove_33 : decode cX10_remove 33 = .ok (.getfield 27, 3) := by decide +kernel
theorem dX10_remove_36 : decode cX10_remove 36 = .ok (.iload_n 1, 1) := by decide +kernel
theorem dX10_remove_37 : decode cX10_remove 37 = .ok (.invokevirtual 166, 3) := by decide +kernel
theorem dX10_remove_40 : decode cX10_remove 40 = .ok (.aload_n 0, 1) := by decide +kernel
theorem dX10_remove_41 : decode cX10_remove 41 = .ok (.aload_n 0, 1) := by decide +kernel
theorem dX10_remove_42 : decode cX10_remove 42 = .ok (.getfield 83, 3) := by decide +kernel
theorem dX10_remove_45 : decode cX10_remove 45 = .ok (.invokevirtual 133, 3) := by decide +kernel
theorem dX10_remove_48 : decode cX10_remove 48 = .ok (.sipush (-1005), 3) := by decide +kernel
theorem dX10_remove_51 : decode cX10_remove 51 = .ok (.if_icmp .ne 9, 3) := by decide +kernel
theorem dX10_remove_54 : decode cX10_remove 54 = .ok (.sipush (-1005), 3) := by decide +kernel
theorem dX10_remove_57 : decode cX10_remove 57 = .ok (.goto 4, 3) := by decide +kernel
theorem dX10_remove_60 : decode cX10_remove 60 = .ok (.iload_n 2, 1) := by decide +kernel
theorem dX10_remove_61 : decode cX10_remove 61 = .ok (.ireturn, 1) := by decide +kernel
theorem vc_X10_remove_0 {G : zG} {d : Nat} {Q : Option zV → zHp → Prop} (p1 : Int) (h : zHp) (hS : zSh h) (hd : 8 ≤ d)  
    (hv : (wpN G (d - 1) M_X2_isPresent 0 (zar 0 [vR 8, vI p1]) [] h (qI (fun z1 h2 => zSh h2 ∧ ((z1 ≠ 0 → (((0 : Int) ≤ p1 ∧ p1 < ((4 : Nat) : Int)) ∧ (∀ x6 : Int, x6 = (gI h2 12 p1.toNat) → (wpN G (d - 1) M_X4_keep 0 (zar 0 [vR 13]) [] h2 (qV (fun h9 => zSh h9 ∧ (wpN G (d - 1) M_X2_drop 0 (zar 0 [vR 8, vI p1]) [] h9 (qV (fun h13 => zSh h13 ∧ (wpN G (d - 1) M_X10_endChange 0 (zar 0 [vR 1, vI (gI h13 1 11)]) [] h13 (qI (fun z16 h17 => zSh h17 ∧ ((z16 ≠ (-1005) → Q (some (vI x6)) h17) ∧ (z16 = (-1005) → Q (some (vI (-1005))) h17)))))))))))))) ∧ (z1 = 0 → Q (some (vI (-1001))) h2)))))) : wpN G d M_X10_remove 0 [(0, vR 1), (1, vI p1)] [] h Q := by
  refine wq_aload_n 0 rfl rfl dX10_remove_0 ?_
  refine wq_getR fk_X10_27 tT_1 (fun _ _ _ => rfl) (sh_10_3 hS) (by decide) dX10_remove_1 ?_
  refine wq_iload_n 1 rfl rfl dX10_remove_4 ?_
  refine wN_V (As := [vI p1]) vm_X2_isPresent lk_X10_163 tT_8 rfl rfl (Nat.le_of_ble_eq_true rfl) (Nat.le_of_ble_eq_true rfl) (d' := d - 1) (by omega) dX10_remove_5 hv (fun v9 h2 q3 => ?_)
  obtain ⟨z1, rfl, hS4, q3⟩ := q3
  refine wq_st (st' := [vI z1]) rfl ?_
  refine wq_if_ne 15 rfl dX10_remove_8 (fun c5 => ?_) (fun c5 => ?_)
  · refine wq_aload_n 0 rfl rfl dX10_remove_15 ?_
    refine wq_getR fk_X10_27 tT_1 (fun _ _ _ => rfl) (sh_10_3 hS4) (by decide) dX10_remove_16 ?_
    refine wq_getR (r := 12) fk_X10_157 tT_8 (fun _ _ _ => rfl) (sh_2_2 hS4 tT_8) (by decide) dX10_remove_19 ?_
    refine wq_iload_n 1 rfl rfl dX10_remove_22 ?_
    refine wq_iald tT_12 (q3.1 c5).1.1 (q3.1 c5).1.2 dX10_remove_23 ?_
    refine wq_topI (fun x6 e7 => ?_)
    refine wq_istore_n (ls' := [(0, vR 1), (1, vI p1), (2, vI x6)]) rfl (by decide) rfl dX10_remove_24 ?_
    refine wq_aload_n 0 rfl rfl dX10_remove_25 ?_
    refine wq_getR fk_X10_36 tT_1 (fun _ _ _ => rfl) (sh_10_4 hS4) (by decide) dX10_remove_26 ?_
    refine wN_V (As := []) vm_X4_keep lk_X10_123 tT_13 rfl rfl (Nat.le_of_ble_eq_true rfl) (Nat.le_of_ble_eq_true rfl) (d' := d - 1) (by omega) dX10_remove_29 ((q3.1 c5).2 x6 e7) (fun v9 h9 q10 => ?_)
    obtain ⟨rfl, hS11, q10⟩ := q10
    refine wq_st (st' := []) rfl ?_
    refine wq_aload_n 0 rfl rfl dX10_remove_32 ?_
    refine wq_getR fk_X10_27 tT_1 (fun _ _ _ => rfl) (sh_10_3 hS11) (by decide) dX10_remove_33 ?_
    refine wq_iload_n 1 rfl rfl dX10_remove_36 ?_
    refine wN_V (As := [vI p1]) vm_X2_drop lk_X10_166 tT_8 rfl rfl (Nat.le_of_ble_eq_true rfl) (Nat.le_of_ble_eq_true rfl) (d' := d - 1) (by omega) dX10_remove_37 q10 (fun v9 h13 q14 => ?_)
    obtain ⟨rfl, hS15, q14⟩ := q14
    refine wq_st (st' := []) rfl ?_
    refine wq_aload_n 0 rfl rfl dX10_remove_40 ?_
    refine wq_aload_n 0 rfl rfl dX10_remove_41 ?_
    refine wq_getI fk_X10_83 tT_1 (fun _ _ _ => rfl) dX10_remove_42 ?_
    refine wN_V (As := [vI (gI h13 1 11)]) vm_X10_endChange lk_X10_133 tT_1 rfl rfl (Nat.le_of_ble_eq_true rfl) (Nat.le_of_ble_eq_true rfl) (d' := d - 1) (by omega) dX10_remove_45 q14 (fun v9 h17 q18 => ?_)
    obtain ⟨z16, rfl, hS19, q18⟩ := q18
    refine wq_st (st' := [vI z16]) rfl ?_
    refine wq_sipush (z := -1005) (zlit rfl) rfl dX10_remove_48 ?_
    refine wq_icmp_ne 60 rfl dX10_remove_51 (fun c20 => ?_) (fun c20 => ?_)
    · refine wq_iload_n 2 rfl rfl dX10_remove_60 ?_
      exact wp_iret rfl dX10_remove_61 (q18.1 c20)
    · refine wq_sipush (z := -1005) (zlit rfl) rfl dX10_remove_54 ?_
      refine wq_goto 61 rfl dX10_remove_57 ?_
      exact wp_iret rfl dX10_remove_61 (q18.2 c20)
  · refine wq_sipush (z := -1001) (zlit rfl) rfl dX10_remove_11 ?_
    exact wp_iret rfl dX10_remove_14 (q3.2 c5)
theorem dX10_overlay_0 : decode cX10_overlay 0 = .ok (.iload_n 2, 1) := by decide +kernel
theorem dX10_overlay_1 : decode cX10_overlay 1 = .ok (.iconst 0, 1) := by decide +kernel
theorem dX10_overlay_2 : decode cX10_overlay 2 = .ok (.iconst 5, 1) := by decide +kernel
theorem dX10_overlay_3 : decode cX10_overlay 3 = .ok (.invokestatic 87, 3) := by decide +kernel
theorem dX10_overlay_6 : decode cX10_overlay 6 = .ok (.ifCond .eq 11, 3) := by decide +kernel
theorem dX10_overlay_9 : decode cX10_overlay 9 = .ok (.aload_n 0, 1) := by decide +kernel
theorem dX10_overlay_10 : decode cX10_overlay 10 = .ok (.iload_n 1, 1) := by decide +kernel
theorem dX10_overlay_11 : decode cX10_overlay 11 = .ok (.invokevirtual 169, 3) := by decide +kernel
theorem dX10_overlay_14 : decode cX10_overlay 14 = .ok (.ifCond .ne 7, 3) := by decide +kernel
theorem dX10_overlay_17 : decode cX10_overlay 17 = .ok (.sipush (-1001), 3) := by decide +kernel
theorem dX10_overlay_20 : decode cX10_overlay 20 = .ok (.ireturn, 1) := by decide +kernel
theorem dX10_overlay_21 : decode cX10_overlay 21 = .ok (.aload_n 0, 1) := by decide +kernel
theorem dX10_overlay_22 : decode cX10_overlay 22 = .ok (.iload_n 1, 1) := by decide +kernel
theorem dX10_overlay_23 : decode cX10_overlay 23 = .ok (.iload_n 2, 1) := by decide +kernel
theorem dX10_overlay_24 : decode cX10_overlay 24 = .ok (.invokevirtual 172, 3) := by decide +kernel
theorem dX10_overlay_27 : decode cX10_overlay 27 = .ok (.ireturn, 1) := by decide +kernel
theorem vc_X10_overlay_0 {G : zG} {d : Nat} {Q : Option zV → zHp → Prop} (p1 : Int) (p2 : Int) (h : zHp) (hS : zSh h) (hd : 6 ≤ d)  
    (hv : (wpN G (d - 1) M_X10_isWithin 0 (zar 0 [vI p2, vI 0, vI 5]) [] h (qI (fun z1 h2 => zSh h2 ∧ ((z1 = 0 → Q (some (vI (-1001))) h2) ∧ (z1 ≠ 0 → (wpN G (d - 1) M_X10_layOut 0 (zar 0 [vR 1, vI p1]) [] h2 (qI (fun z6 h7 => zSh h7 ∧ ((z6 ≠ 0 → (wpN G (d - 1) M_X10_overlayProperty 0 (zar 0 [vR 1, vI p1, vI p2]) [] h7 (qI (fun z11 h12 => zSh h12 ∧ Q (some (vI z11)) h12)))) ∧ (z6 = 0 → Q (some (vI (-1001))) h7))))))))))) : wpN G d M_X10_overlay 0 [(0, vR 1), (1, vI p1), (2, vI p2)] [] h Q := by
  refine wq_iload_n 2 rfl rfl dX10_overlay_0 ?_
  refine wq_iconst (z := 0) (zlit rfl) dX10_overlay_1 ?_
  refine wq_iconst (z := 5) (zlit rfl) dX10_overlay_2 ?_
  refine wN_S (As := [vI p2, vI 0, vI 5]) md_X10_isWithin ms_X10_isWithin lk_X10_87 rfl rfl (Nat.le_of_ble_eq_true rfl) (Nat.le_of_ble_eq_true rfl) (d' := d - 1) (by omega) dX10_overlay_3 hv (fun v9 h2 q3 => ?_)
  obtain ⟨z1, rfl, hS4, q3⟩ := q3
  refine wq_st (st' := [vI z1]) rfl ?_
  refine wq_if_eq 17 rfl dX10_overlay_6 (fun c5 => ?_) (fun c5 => ?_)
  · refine wq_sipush (z := -1001) (zlit rfl) rfl dX10_overlay_17 ?_
    exact wp_iret rfl dX10_overlay_20 (q3.1 c5)
  · refine wq_aload_n 0 rfl rfl dX10_overlay_9 ?_
    refine wq_iload_n 1 rfl rfl dX10_overlay_10 ?_
    refine wN_V (As := [vI p1]) vm_X10_layOut lk_X10_169 tT_1 rfl rfl (Nat.le_of_ble_eq_true rfl) (Nat.le_of_ble_eq_true rfl) (d' := d - 1) (by omega) dX10_overlay_11 (q3.2 c5) (fun v9 h7 q8 => ?_)
    obtain ⟨z6, rfl, hS9, q8⟩ := q8
    refine wq_st (st' := [vI z6]) rfl ?_
    refine wq_if_ne 21 rfl dX10_overlay_14 (fun c10 => ?_) (fun c10 => ?_)
    · refine wq_aload_n 0 rfl rfl dX10_overlay_21 ?_
      refine wq_iload_n 1 rfl rfl dX10_overlay_22 ?_
      refine wq_iload_n 2 rfl rfl dX10_overlay_23 ?_
      refine wN_V (As := [vI p1, vI p2]) vm_X10_overlayProperty lk_X10_172 tT_1 rfl rfl (Nat.le_of_ble_eq_true rfl) (Nat.le_of_ble_eq_true rfl) (d' := d - 1) (by omega) dX10_overlay_24 (q8.1 c10) (fun v9 h12 q13 => ?_)
      obtain ⟨z11, rfl, hS14, q13⟩ := q13
      refine wq_st (st' := [vI z11]) rfl ?_
      exact wp_iret rfl dX10_overlay_27 q13
    · refine wq_sipush (z := -1001) (zlit rfl) rfl dX10_overlay_17 ?_
      exact wp_iret rfl dX10_overlay_20 (q8.2 c10)
theorem dX10_field_0 : decode cX10_field 0 = .ok (.iload_n 3, 1) := by decide +kernel
theorem dX10_field_1 : decode cX10_field 1 = .ok (.iconst 0, 1) := by decide +kernel
theorem dX10_field_2 : decode cX10_field 2 = .ok (.bipush 6, 2) := by decide +kernel
theorem dX10_field_4 : decode cX10_field 4 = .ok (.invokestatic 87, 3) := by decide +kernel
theorem dX10_field_7 : decode cX10_field 7 = .ok (.ifCond .eq 12, 3) := by decide +kernel
theorem dX10_field_10 : decode cX10_field 10 = .ok (.aload_n 0, 1) := by decide +kernel
theorem dX10_field_11 : decode cX10_field 11 = .ok (.iload_n 1, 1) := by decide +kernel
theorem dX10_field_12 : decode cX10_field 12 = .ok (.iload_n 2, 1) := by decide +kernel
theorem dX10_field_13 : decode cX10_field 13 = .ok (.invokevirtual 175, 3) := by decide +kernel
theorem dX10_field_16 : decode cX10_field 16 = .ok (.ifCond .ne 7, 3) := by decide +kernel
theorem dX10_field_19 : decode cX10_field 19 = .ok (.sipush (-1001), 3) := by decide +kernel
theorem dX10_field_22 : decode cX10_field 22 = .ok (.ireturn, 1) := by decide +kernel
theorem dX10_field_23 : decode cX10_field 23 = .ok (.aload_n 0, 1) := by decide +kernel
theorem dX10_field_24 : decode cX10_field 24 = .ok (.getfield 75, 3) := by decide +kernel
theorem dX10_field_27 : decode cX10_field 27 = .ok (.getfield 179, 3) := by decide +kernel
theorem dX10_field_30 : decode cX10_field 30 = .ok (.iload_n 2, 1) := by decide +kernel
theorem dX10_field_31 : decode cX10_field 31 = .ok (.aaload, 1) := by decide +kernel
theorem dX10_field_32 : decode cX10_field 32 = .ok (.iload_n 3, 1) := by decide +kernel
theorem dX10_field_33 : decode cX10_field 33 = .ok (.invokevirtual 183, 3) := by decide +kernel
theorem dX10_field_36 : decode cX10_field 36 = .ok (.ireturn, 1) := by decide +kernel
theorem vc_X10_field_0 {G : zG} {d : Nat} {Q : Option zV → zHp → Prop} (p1 : Int) (p2 : Int) (p3 : Int) (h : zHp) (hS : zSh h) (hd : 7 ≤ d)  
    (hv : (wpN G (d - 1) M_X10_isWithin 0 (zar 0 [vI p3, vI 0, vI 6]) [] h (qI (fun z1 h2 => zSh h2 ∧ ((z1 = 0 → Q (some (vI (-1001))) h2) ∧ (z1 ≠ 0 → (wpN G (d - 1) M_X10_layOutField 0 (zar 0 [vR 1, vI p1, vI p2]) [] h2 (qI (fun z6 h7 => zSh h7 ∧ ((z6 ≠ 0 → (((0 : Int) ≤ p2 ∧ p2 < ((60 : Nat) : Int)) ∧ (wpN G (d - 1) M_X3_property 0 (zar 0 [vR (217 + 2 * p2.toNat), vI p3]) [] h7 (qI (fun z11 h12 => zSh h12 ∧ Q (some (vI z11)) h12))))) ∧ (z6 = 0 → Q (some (vI (-1001))) h7))))))))))) : wpN G d M_X10_field 0 [(0, vR 1), (1, vI p1), (2, vI p2), (3, vI p3)] [] h Q := by
  refine wq_iload_n 3 rfl rfl dX10_field_0 ?_
  refine wq_iconst (z := 0) (zlit rfl) dX10_field_1 ?_
  refine wq_bipush (z := 6) (zlit rfl) rfl dX10_field_2 ?_
  refine wN_S (As := [vI p3, vI 0, vI 6]) md_X10_isWithin ms_X10_isWithin lk_X10_87 rfl rfl (Nat.le_of_ble_eq_true rfl) (Nat.le_of_ble_eq_true rfl) (d' := d - 1) (by omega) dX10_field_4 hv (fun v9 h2 q3 => ?_)
  obtain ⟨z1, rfl, hS4, q3⟩ := q3
  refine wq_st (st' := [vI z1]) rfl ?_
  refine wq_if_eq 19 rfl dX10_field_7 (fun c5 => ?_) (fun c5 => ?_)
  · refine wq_sipush (z := -1001) (zlit rfl) rfl dX10_field_19 ?_
    exact wp_iret rfl dX10_field_22 (q3.1 c5)
  · refine wq_aload_n 0 rfl rfl dX10_field_10 ?_
    refine wq_iload_n 1 rfl rfl dX10_field_11 ?_
    refine wq_iload_n 2 rfl rfl dX10_field_12 ?_
    refine wN_V (As := [vI p1, vI p2]) vm_X10_layOutField lk_X10_175 tT_1 rfl rfl (Nat.le_of_ble_eq_true rfl) (Nat.le_of_ble_eq_true rfl) (d' := d - 1) (by omega) dX10_field_13 (q3.2 c5) (fun v9 h7 q8 => ?_)
    obtain ⟨z6, rfl, hS9, q8⟩ := q8
    refine wq_st (st' := [vI z6]) rfl ?_
    refine wq_if_ne 23 rfl dX10_field_16 (fun c10 => ?_) (fun c10 => ?_)
    · refine wq_aload_n 0 rfl rfl dX10_field_23 ?_
      refine wq_getR fk_X10_75 tT_1 (fun _ _ _ => rfl) (sh_10_8 hS9) (by decide) dX10_field_24 ?_
      refine wq_getR fk_X10_179 tT_215 (fun _ _ _ => rfl) (sh_6_0 hS9) (by decide) dX10_field_27 ?_
      refine wq_iload_n 2 rfl rfl dX10_field_30 ?_
      refine wq_aald (r := (217 + 2 * p2.toNat)) tT_216 (by decide) (by decide) rfl (q8.1 c10).1.1 (q8.1 c10).1.2 (sh_fds hS9 (zlt_n (q8.1 c10).1.1 (q8.1 c10).1.2)) (by omega) dX10_field_31 ?_
      refine wq_iload_n 3 rfl rfl dX10_field_32 ?_
      refine wN_V (As := [vI p3]) vm_X3_property lk_X10_183 (zfds (zlt_n (q8.1 c10).1.1 (q8.1 c10).1.2)) rfl rfl (Nat.le_of_ble_eq_true rfl) (Nat.le_of_ble_eq_true rfl) (d' := d - 1) (by omega) dX10_field_33 (q8.1 c10).2 (fun v9 h12 q13 => ?_)
      obtain ⟨z11, rfl, hS14, q13⟩ := q13
      refine wq_st (st' := [vI z11]) rfl ?_
      exact wp_iret rfl dX10_field_36 q13
    · refine wq_sipush (z := -1001) (zlit rfl) rfl dX10_field_19 ?_
      exact wp_iret rfl dX10_field_22 (q8.2 c10)
theorem dX10_value_0 : decode cX10_value 0 = .ok (.aload_n 0, 1) := by decide +kernel
theorem dX10_value_1 : decode cX10_value 1 = .ok (.iload_n 1, 1) := by decide +kernel
theorem dX10_value_2 : decode cX10_value 2 = .ok (.iload_n 2, 1) := by decide +kernel
theorem dX10_value_3 : decode cX10_value 3 = .ok (.invokevirtual 175, 3) := by decide +kernel
theorem dX10_value_6 : decode cX10_value 6 = .ok (.ifCond .eq 25, 3) := by decide +kernel
theorem dX10_value_9 : decode cX10_value 9 = .ok (.aload_n 0, 1) := by decide +kernel
theorem dX10_value_10 : decode cX10_value 10 = .ok (.getfield 27, 3) := by decide +kernel
theorem dX10_value_13 : decode cX10_value 13 = .ok (.getfield 69, 3) := by decide +kernel
theorem dX10_value_16 : decode cX10_value 16 = .ok (.aload_n 0, 1) := by decide +kernel
theorem dX10_value_17 : decode cX10_value 17 = .ok (.getfield 75, 3) := by decide +kernel
theorem dX10_value_20 : decode cX10_value 20 = .ok (.getfield 179, 3) := by decide +kernel
theorem dX10_value_23 : decode cX10_value 23 = .ok (.iload_n 2, 1) := by decide +kernel
theorem dX10_value_24 : decode cX10_value 24 = .ok (.aaload, 1) := by decide +kernel
theorem dX10_value_25 : decode cX10_value 25 = .ok (.invokevirtual 188, 3) := by decide +kernel
theorem dX10_value_28 : decode cX10_value 28 = .ok (.goto 6, 3) := by decide +kernel
theorem dX10_value_31 : decode cX10_value 31 = .ok (.ldc2_w 194, 3) := by decide +kernel
theorem dX10_value_34 : decode cX10_value 34 = .ok (.lreturn, 1) := by decide +kernel
theorem vc_X10_value_0 {G : zG} {d : Nat} {Q : Option zV → zHp → Prop} (p1 : Int) (p2 : Int) (h : zHp) (hS : zSh h) (hd : 7 ≤ d)  
    (hv : (wpN G (d - 1) M_X10_layOutField 0 (zar 0 [vR 1, vI p1, vI p2]) [] h (qI (fun z1 h2 => zSh h2 ∧ ((z1 = 0 → Q (some (vL (-9223372036854775808))) h2) ∧ (z1 ≠ 0 → (((0 : Int) ≤ p2 ∧ p2 < ((60 : Nat) : Int)) ∧ (wpN G (d - 1) M_X0_read 0 (zar 0 [vR 9, vR (217 + 2 * p2.toNat)]) [] h2 (qL (fun z6 h7 => zSh h7 ∧ Q (some (vL z6)) h7)))))))))) : wpN G d M_X10_value 0 [(0, vR 1), (1, vI p1), (2, vI p2)] [] h Q := by
  refine wq_aload_n 0 rfl rfl dX10_value_0 ?_
  refine wq_iload_n 1 rfl rfl dX10_value_1 ?_
  refine wq_iload_n 2 rfl rfl dX10_value_2 ?_
  refine wN_V (As := [vI p1, vI p2]) vm_X10_layOutField lk_X10_175 tT_1 rfl rfl (Nat.le_of_ble_eq_true rfl) (Nat.le_of_ble_eq_true rfl) (d' := d - 1) (by omega) dX10_value_3 hv (fun v9 h2 q3 => ?_)
  obtain ⟨z1, rfl, hS4, q3⟩ := q3
  refine wq_st (st' := [vI z1]) rfl ?_
  refine wq_if_eq 31 rfl dX10_value_6 (fun c5 => ?_) (fun c5 => ?_)
  · refine wq_ldc2_w (z := -9223372036854775808) (zlitL rfl) kc_X10_194 dX10_value_31 ?_
    exact wp_lret rfl dX10_value_34 (q3.1 c5)
  · refine wq_aload_n 0 rfl rfl dX10_value_9 ?_
    refine wq_getR fk_X10_27 tT_1 (fun _ _ _ => rfl) (sh_10_3 hS4) (by decide) dX10_value_10 ?_
    refine wq_getR (r := 9) fk_X10_69 tT_8 (fun _ _ _ => rfl) (sh_2_0 hS4 tT_8) (by decide) dX10_value_13 ?_
    refine wq_aload_n 0 rfl rfl dX10_value_16 ?_
    refine wq_getR fk_X10_75 tT_1 (fun _ _ _ => rfl) (sh_10_8 hS4) (by decide) dX10_value_17 ?_
    refine wq_getR fk_X10_179 tT_215 (fun _ _ _ => rfl) (sh_6_0 hS4) (by decide) dX10_value_20 ?_
    refine wq_iload_n 2 rfl rfl dX10_value_23 ?_
    refine wq_aald (r := (217 + 2 * p2.toNat)) tT_216 (by decide) (by decide) rfl (q3.2 c5).1.1 (q3.2 c5).1.2 (sh_fds hS4 (zlt_n (q3.2 c5).1.1 (q3.2 c5).1.2)) (by omega) dX10_value_24 ?_
    refine wN_V (As := [vR (217 + 2 * p2.toNat)]) vm_X0_read lk_X10_188 tT_9 rfl rfl (Nat.le_of_ble_eq_true rfl) (Nat.le_of_ble_eq_true rfl) (d' := d - 1) (by omega) dX10_value_25 (q3.2 c5).2 (fun v9 h7 q8 => ?_)
    obtain ⟨z6, rfl, hS9, q8⟩ := q8
    refine wq_st (st' := [vL z6]) rfl ?_
    refine wq_goto 34 rfl dX10_value_28 ?_
    exact wp_lret rfl dX10_value_34 q8
theorem dX10_path_0 : decode cX10_path 0 = .ok (.aload_n 0, 1) := by decide +kernel
theorem dX10_path_1 : decode cX10_path 1 = .ok (.iload_n 1, 1) := by decide +kernel
theorem dX10_path_2 : decode cX10_path 2 = .ok (.iload_n 2, 1) := by decide +kernel
theorem dX10_path_3 : decode cX10_path 3 = .ok (.invokevirtual 175, 3) := by decide +kernel
theorem dX10_path_6 : decode cX10_path 6 = .ok (.ifCond .ne 7, 3) := by decide +kernel
theorem dX10_path_9 : decode cX10_path 9 = .ok (.sipush (-1001), 3) := by decide +kernel
theorem dX10_path_12 : decode cX10_path 12 = .ok (.ireturn, 1) := by decide +kernel
theorem dX10_path_13 : decode cX10_path 13 = .ok (.aload_n 0, 1) := by decide +kernel
theorem dX10_path_14 : decode cX10_path 14 = .ok (.getfield 75, 3) := by decide +kernel
theorem dX10_path_17 : decode cX10_path 17 = .ok (.getfield 179, 3) := by decide +kernel
theorem dX10_path_20 : decode cX10_path 20 = .ok (.iload_n 2, 1) := by decide +kernel
theorem dX10_path_21 : decode cX10_path 21 = .ok (.aaload, 1) := by decide +kernel
theorem dX10_path_22 : decode cX10_path 22 = .ok (.iload_n 3, 1) := by decide +kernel
theorem dX10_path_23 : decode cX10_path 23 = .ok (.invokevirtual 196, 3) := by decide +kernel
theorem dX10_path_26 : decode cX10_path 26 = .ok (.ireturn, 1) := by decide +kernel
theorem vc_X10_path_0 {G : zG} {d : Nat} {Q : Option zV → zHp → Prop} (p1 : Int) (p2 : Int) (p3 : Int) (h : zHp) (hS : zSh h) (hd : 7 ≤ d)  
    (hv : (wpN G (d - 1) M_X10_layOutField 0 (zar 0 [vR 1, vI p1, vI p2]) [] h (qI (fun z1 h2 => zSh h2 ∧ ((z1 ≠ 0 → (((0 : Int) ≤ p2 ∧ p2 < ((60 : Nat) : Int)) ∧ (wpN G (d - 1) M_X3_pathName 0 (zar 0 [vR (217 + 2 * p2.toNat), vI p3]) [] h2 (qI (fun z6 h7 => zSh h7 ∧ Q (some (vI z6)) h7))))) ∧ (z1 = 0 → Q (some (vI (-1001))) h2)))))) : wpN G d M_X10_path 0 [(0, vR 1), (1, vI p1), (2, vI p2), (3, vI p3)] [] h Q := by
  refine wq_aload_n 0 rfl rfl dX10_path_0 ?_
  refine wq_iload_n 1 rfl rfl dX10_path_1 ?_
  refine wq_iload_n 2 rfl rfl dX10_path_2 ?_
  refine wN_V (As := [vI p1, vI p2]) vm_X10_layOutField lk_X10_175 tT_1 rfl rfl (Nat.le_of_ble_eq_true rfl) (Nat.le_of_ble_eq_true rfl) (d' := d - 1) (by omega) dX10_path_3 hv (fun v9 h2 q3 => ?_)
  obtain ⟨z1, rfl, hS4, q3⟩ := q3
  refine wq_st (st' := [vI z1]) rfl ?_
  refine wq_if_ne 13 rfl dX10_path_6 (fun c5 => ?_) (fun c5 => ?_)
  · refine wq_aload_n 0 rfl rfl dX10_path_13 ?_
    refine wq_getR fk_X10_75 tT_1 (fun _ _ _ => rfl) (sh_10_8 hS4) (by decide) dX10_path_14 ?_
    refine wq_getR fk_X10_179 tT_215 (fun _ _ _ => rfl) (sh_6_0 hS4) (by decide) dX10_path_17 ?_
    refine wq_iload_n 2 rfl rfl dX10_path_20 ?_
    refine wq_aald (r := (217 + 2 * p2.toNat)) tT_216 (by decide) (by decide) rfl (q3.1 c5).1.1 (q3.1 c5).1.2 (sh_fds hS4 (zlt_n (q3.1 c5).1.1 (q3.1 c5).1.2)) (by omega) dX10_path_21 ?_
    refine wq_iload_n 3 rfl rfl dX10_path_22 ?_
    refine wN_V (As := [vI p3]) vm_X3_pathName lk_X10_196 (zfds (zlt_n (q3.1 c5).1.1 (q3.1 c5).1.2)) rfl rfl (Nat.le_of_ble_eq_true rfl) (Nat.le_of_ble_eq_true rfl) (d' := d - 1) (by omega) dX10_path_23 (q3.1 c5).2 (fun v9 h7 q8 => ?_)
    obtain ⟨z6, rfl, hS9, q8⟩ := q8
    refine wq_st (st' := [vI z6]) rfl ?_
    exact wp_iret rfl dX10_path_26 q8
  · refine wq_sipush (z := -1001) (zlit rfl) rfl dX10_path_9 ?_
    exact wp_iret rfl dX10_path_12 (q3.2 c5)
theorem dX10_fieldAt_0 : decode cX10_fieldAt 0 = .ok (.aload_n 0, 1) := by decide +kernel
theorem dX10_fieldAt_1 : decode cX10_fieldAt 1 = .ok (.getfield 27, 3) := by decide +kernel
theorem dX10_fieldAt_4 : decode cX10_fieldAt 4 = .ok (.getfield 69, 3) := by decide +kernel
theorem dX10_fieldAt_7 : decode cX10_fieldAt 7 = .ok (.iload_n 2, 1) := by decide +kernel
theorem dX10_fieldAt_8 : decode cX10_fieldAt 8 = .ok (.invokevirtual 116, 3) := by decide +kernel
theorem dX10_fieldAt_11 : decode cX10_fieldAt 11 = .ok (.ifCond .eq 11, 3) := by decide +kernel
theorem dX10_fieldAt_14 : decode cX10_fieldAt 14 = .ok (.aload_n 0, 1) := by decide +kernel
theorem dX10_fieldAt_15 : decode cX10_fieldAt 15 = .ok (.iload_n 1, 1) := by decide +kernel
theorem dX10_fieldAt_16 : decode cX10_fieldAt 16 = .ok (.invokevirtual 169, 3) := by decide +kernel
theorem dX10_fieldAt_19 : decode cX10_fieldAt 19 = .ok (.ifCond .ne 7, 3) := by decide +kernel
theorem dX10_fieldAt_22 : decode cX10_fieldAt 22 = .ok (.sipush (-1001), 3) := by decide +kernel
theorem dX10_fieldAt_25 : decode cX10_fieldAt 25 = .ok (.ireturn, 1) := by decide +kernel
theorem dX10_fieldAt_26 : decode cX10_fieldAt 26 = .ok (.iconst 0, 1) := by decide +kernel
theorem dX10_fieldAt_27 : decode cX10_fieldAt 27 = .ok (.istore_n 3, 1) := by decide +kernel
theorem dX10_fieldAt_28 : decode cX10_fieldAt 28 = .ok (.iload_n 3, 1) := by decide +kernel
theorem dX10_fieldAt_29 : decode cX10_fieldAt 29 = .ok (.aload_n 0, 1) := by decide +kernel
theorem dX10_fieldAt_30 : decode cX10_fieldAt 30 = .ok (.getfield 75, 3) := by decide +kernel
theorem dX10_fieldAt_33 : decode cX10_fieldAt 33 = .ok (.getfield 199, 3) := by decide +kernel
theorem dX10_fieldAt_36 : decode cX10_fieldAt 36 = .ok (.if_icmp .ge 27, 3) := by decide +kernel
theorem dX10_fieldAt_39 : decode cX10_fieldAt 39 = .ok (.aload_n 0, 1) := by decide +kernel
theorem dX10_fieldAt_40 : decode cX10_fieldAt 40 = .ok (.getfield 75, 3) := by decide +kernel
theorem dX10_fieldAt_43 : decode cX10_fieldAt 43 = .ok (.getfield 179, 3) := by decide +kernel
theorem dX10_fieldAt_46 : decode cX10_fieldAt 46 = .ok (.iload_n 3, 1) := by decide +kernel
theorem dX10_fieldAt_47 : decode cX10_fieldAt 47 = .ok (.aaload, 1) := by decide +kernel
theorem dX10_fieldAt_48 : decode cX10_fieldAt 48 = .ok (.iload_n 2, 1) := by decide +kernel
theorem dX10_fieldAt_49 : decode cX10_fieldAt 49 = .ok (.invokevirtual 200, 3) := by decide +kernel
theorem dX10_fieldAt_52 : decode cX10_fieldAt 52 = .ok (.ifCond .eq 5, 3) := by decide +kernel
theorem dX10_fieldAt_55 : decode cX10_fieldAt 55 = .ok (.iload_n 3, 1) := by decide +kernel
theorem dX10_fieldAt_56 : decode cX10_fieldAt 56 = .ok (.ireturn, 1) := by decide +kernel
theorem dX10_fieldAt_57 : decode cX10_fieldAt 57 = .ok (.iinc 3 1, 3) := by decide +kernel
theorem dX10_fieldAt_60 : decode cX10_fieldAt 60 = .ok (.goto (-32), 3) := by decide +kernel
theorem dX10_fieldAt_63 : decode cX10_fieldAt 63 = .ok (.sipush (-1009), 3) := by decide +kernel
theorem dX10_fieldAt_66 : decode cX10_fieldAt 66 = .ok (.ireturn, 1) := by decide +kernel
theorem vc_X10_fieldAt_0 {G : zG} {d : Nat} {Q : Option zV → zHp → Prop} (p1 : Int) (p2 : Int) (h : zHp) (hS : zSh h) (hd : 6 ≤ d) (I_28 : Int → Int → Int → zHp → Prop) (hI_28 : ∀ (y1 : Int) (y2 : Int) (y3 : Int) (h' : zHp), I_28 y1 y2 y3 h' → wpN G d M_X10_fieldAt 28 [(0, vR 1), (1, vI y1), (2, vI y2), (3, vI y3)] [] h' Q) 
    (hv : (wpN G (d - 1) M_X0_has 0 (zar 0 [vR 9, vI p2]) [] h (qI (fun z1 h2 => zSh h2 ∧ ((z1 = 0 → Q (some (vI (-1001))) h2) ∧ (z1 ≠ 0 → (wpN G (d - 1) M_X10_layOut 0 (zar 0 [vR 1, vI p1]) [] h2 (qI (fun z6 h7 => zSh h7 ∧ ((z6 ≠ 0 → (zSh h7 → I_28 p1 p2 0 h7)) ∧ (z6 = 0 → Q (some (vI (-1001))) h7))))))))))) : wpN G d M_X10_fieldAt 0 [(0, vR 1), (1, vI p1), (2, vI p2)] [] h Q := by
  refine wq_aload_n 0 rfl rfl dX10_fieldAt_0 ?_
  refine wq_getR fk_X10_27 tT_1 (fun _ _ _ => rfl) (sh_10_3 hS) (by decide) dX10_fieldAt_1 ?_
  refine wq_getR (r := 9) fk_X10_69 tT_8 (fun _ _ _ => rfl) (sh_2_0 hS tT_8) (by decide) dX10_fieldAt_4 ?_
  refine wq_iload_n 2 rfl rfl dX10_fieldAt_7 ?_
  refine wN_V (As := [vI p2]) vm_X0_has lk_X10_116 tT_9 rfl rfl (Nat.le_of_ble_eq_true rfl) (Nat.le_of_ble_eq_true rfl) (d' := d - 1) (by omega) dX10_fieldAt_8 hv (fun v9 h2 q3 => ?_)
  obtain ⟨z1, rfl, hS4, q3⟩ := q3
  refine wq_st (st' := [vI z1]) rfl ?_
  refine wq_if_eq 22 rfl dX10_fieldAt_11 (fun c5 => ?_) (fun c5 => ?_)
  · refine wq_sipush (z := -1001) (zlit rfl) rfl dX10_fieldAt_22 ?_
    exact wp_iret rfl dX10_fieldAt_25 (q3.1 c5)
  · refine wq_aload_n 0 rfl rfl dX10_fieldAt_14 ?_
    refine wq_iload_n 1 rfl rfl dX10_fieldAt_15 ?_
    refine wN_V (As := [vI p1]) vm_X10_layOut lk_X10_169 tT_1 rfl rfl (Nat.le_of_ble_eq_true rfl) (Nat.le_of_ble_eq_true rfl) (d' := d - 1) (by omega) dX10_fieldAt_16 (q3.2 c5) (fun v9 h7 q8 => ?_)
    obtain ⟨z6, rfl, hS9, q8⟩ := q8
    refine wq_st (st' := [vI z6]) rfl ?_
    refine wq_if_ne 26 rfl dX10_fieldAt_19 (fun c10 => ?_) (fun c10 => ?_)
    · refine wq_iconst (z := 0) (zlit rfl) dX10_fieldAt_26 ?_
      refine wq_istore_n (ls' := [(0, vR 1), (1, vI p1), (2, vI p2), (3, vI 0)]) rfl (by decide) rfl dX10_fieldAt_27 ?_
      exact wq_pick [0, 1, 2, 3] rfl (hI_28 p1 p2 0 h7 ((q8.1 c10) hS9))
    · refine wq_sipush (z := -1001) (zlit rfl) rfl dX10_fieldAt_22 ?_
      exact wp_iret rfl dX10_fieldAt_25 (q8.2 c10)
theorem vc_X10_fieldAt_28 {G : zG} {d : Nat} {Q : Option zV → zHp → Prop} (y1 : Int) (y2 : Int) (y3 : Int) (h : zHp) (hS : zSh h) (hd : 6 ≤ d) (I_28 : Int → Int → Int → zHp → Prop) (hI_28 : ∀ (y1 : Int) (y2 : Int) (y3 : Int) (h' : zHp), I_28 y1 y2 y3 h' → wpN G d M_X10_fieldAt 28 [(0, vR 1), (1, vI y1), (2, vI y2), (3, vI y3)] [] h' Q) 
    (hv : (((gI h 215 1) ≤ y3 → Q (some (vI (-1009))) h) ∧ (y3 < (gI h 215 1) → (((0 : Int) ≤ y3 ∧ y3 < ((60 : Nat) : Int)) ∧ (wpN G (d - 1) M_X3_contains 0 (zar 0 [vR (217 + 2 * y3.toNat), vI y2]) [] h (qI (fun z2 h3 => zSh h3 ∧ ((z2 = 0 → ((-2147483648 ≤ y3 + 1 ∧ y3 + 1 ≤ 2147483647) ∧ ∀ x7 : Int, x7 = y3 + 1 → (zSh h3 → I_28 y1 y2 x7 h3))) ∧ (z2 ≠ 0 → Q (some (vI y3)) h3))))))))) : wpN G d M_X10_fieldAt 28 [(0, vR 1), (1, vI y1), (2, vI y2), (3, vI y3)] [] h Q := by
  refine wq_iload_n 3 rfl rfl dX10_fieldAt_28 ?_
  refine wq_aload_n 0 rfl rfl dX10_fieldAt_29 ?_
  refine wq_getR fk_X10_75 tT_1 (fun _ _ _ => rfl) (sh_10_8 hS) (by decide) dX10_fieldAt_30 ?_
  refine wq_getI fk_X10_199 tT_215 (fun _ _ _ => rfl) dX10_fieldAt_33 ?_
  refine wq_icmp_ge 63 rfl dX10_fieldAt_36 (fun c1 => ?_) (fun c1 => ?_)
  · refine wq_sipush (z := -1009) (zlit rfl) rfl dX10_fieldAt_63 ?_
    exact wp_iret rfl dX10_fieldAt_66 (hv.1 c1)
  · refine wq_aload_n 0 rfl rfl dX10_fieldAt_39 ?_
    refine wq_getR fk_X10_75 tT_1 (fun _ _ _ => rfl) (sh_10_8 hS) (by decide) dX10_fieldAt_40 ?_
    refine wq_getR fk_X10_179 tT_215 (fun _ _ _ => rfl) (sh_6_0 hS) (by decide) dX10_fieldAt_43 ?_
    refine wq_iload_n 3 rfl rfl dX10_fieldAt_46 ?_
    refine wq_aald (r := (217 + 2 * y3.toNat)) tT_216 (by decide) (by decide) rfl (hv.2 c1).1.1 (hv.2 c1).1.2 (sh_fds hS (zlt_n (hv.2 c1).1.1 (hv.2 c1).1.2)) (by omega) dX10_fieldAt_47 ?_
    refine wq_iload_n 2 rfl rfl dX10_fieldAt_48 ?_
    refine wN_V (As := [vI y2]) vm_X3_contains lk_X10_200 (zfds (zlt_n (hv.2 c1).1.1 (hv.2 c1).1.2)) rfl rfl (Nat.le_of_ble_eq_true rfl) (Nat.le_of_ble_eq_true rfl) (d' := d - 1) (by omega) dX10_fieldAt_49 (hv.2 c1).2 (fun v9 h3 q4 => ?_)
    obtain ⟨z2, rfl, hS5, q4⟩ := q4
    refine wq_st (st' := [vI z2]) rfl ?_
    refine wq_if_eq 57 rfl dX10_fieldAt_52 (fun c6 => ?_) (fun c6 => ?_)
    · refine z_nm (y3 + 1) (fun x7 e8 => ?_)
      refine wq_iinc (y := x7) (ls' := [(0, vR 1), (1, vI y1), (2, vI y2), (3, vI x7)]) 3 rfl e8.symm (by rw [e8]; exact (q4.1 c6).1) (by decide) rfl dX10_fieldAt_57 ?_
      refine wq_goto 28 rfl dX10_fieldAt_60 ?_
      exact wq_pick [0, 1, 2, 3] rfl (hI_28 y1 y2 x7 h3 (((q4.1 c6).2 x7 e8) hS5))
    · refine wq_iload_n 3 rfl rfl dX10_fieldAt_55 ?_
      exact wp_iret rfl dX10_fieldAt_56 (q4.2 c6)
theorem dX10_counterpart_0 : decode cX10_counterpart 0 = .ok (.aload_n 0, 1) := by decide +kernel
theorem dX10_counterpart_1 : decode cX10_counterpart 1 = .ok (.getfield 27, 3) := by decide +kernel
theorem dX10_counterpart_4 : decode cX10_counterpart 4 = .ok (.iload_n 3, 1) := by decide +kernel
theorem dX10_counterpart_5 : decode cX10_counterpart 5 = .ok (.invokevirtual 163, 3) := by decide +kernel
theorem dX10_counterpart_8 : decode cX10_counterpart 8 = .ok (.ifCond .eq 12, 3) := by decide +kernel
theorem dX10_counterpart_11 : decode cX10_counterpart 11 = .ok (.aload_n 0, 1) := by decide +kernel
theorem dX10_counterpart_12 : decode cX10_counterpart 12 = .ok (.iload_n 1, 1) := by decide +kernel
theorem dX10_counterpart_13 : decode cX10_counterpart 13 = .ok (.iload_n 2, 1) := by decide +kernel
theorem dX10_counterpart_14 : decode cX10_counterpart 14 = .ok (.invokevirtual 175, 3) := by decide +kernel
theorem dX10_counterpart_17 : decode cX10_counterpart 17 = .ok (.ifCond .ne 7, 3) := by decide +kernel
theorem dX10_counterpart_20 : decode cX10_counterpart 20 = .ok (.sipush (-1001), 3) := by decide +kernel
theorem dX10_counterpart_23 : decode cX10_counterpart 23 = .ok (.ireturn, 1) := by decide +kernel
theorem dX10_counterpart_24 : decode cX10_counterpart 24 = .ok (.aload_n 0, 1) := by decide +kernel
theorem dX10_counterpart_25 : decode cX10_counterpart 25 = .ok (.getfield 75, 3) := by decide +kernel
theorem dX10_counterpart_28 : decode cX10_counterpart 28 = .ok (.iload_n 2, 1) := by decide +kernel
theorem dX10_counterpart_29 : decode cX10_counterpart 29 = .ok (.invokevirtual 203, 3) := by decide +kernel
theorem dX10_counterpart_32 : decode cX10_counterpart 32 = .ok (.aload_n 0, 1) := by decide +kernel
theorem dX10_counterpart_33 : decode cX10_counterpart 33 = .ok (.iload_n 3, 1) := by decide +kernel
theorem dX10_counterpart_34 : decode cX10_counterpart 34 = .ok (.invokevirtual 169, 3) := by decide +kernel
theorem dX10_counterpart_37 : decode cX10_counterpart 37 = .ok (.pop, 1) := by decide +kernel
theorem dX10_counterpart_38 : decode cX10_counterpart 38 = .ok (.aload_n 0, 1) := by decide +kernel
theorem dX10_counterpart_39 : decode cX10_counterpart 39 = .ok (.getfield 75, 3) := by decide +kernel
theorem dX10_counterpart_42 : decode cX10_counterpart 42 = .ok (.invokevirtual 206, 3) := by decide +kernel
theorem dX10_counterpart_45 : decode cX10_counterpart 45 = .ok (.ireturn, 1) := by decide +kernel
theorem vc_X10_counterpart_0 {G : zG} {d : Nat} {Q : Option zV → zHp → Prop} (p1 : Int) (p2 : Int) (p3 : Int) (h : zHp) (hS : zSh h) (hd : 7 ≤ d)  
    (hv : (wpN G (d - 1) M_X2_isPresent 0 (zar 0 [vR 8, vI p3]) [] h (qI (fun z1 h2 => zSh h2 ∧ ((z1 = 0 → Q (some (vI (-1001))) h2) ∧ (z1 ≠ 0 → (wpN G (d - 1) M_X10_layOutField 0 (zar 0 [vR 1, vI p1, vI p2]) [] h2 (qI (fun z6 h7 => zSh h7 ∧ ((z6 ≠ 0 → (wpN G (d - 1) M_X6_seek 0 (zar 0 [vR 215, vI p2]) [] h7 (qV (fun h12 => zSh h12 ∧ (wpN G (d - 1) M_X10_layOut 0 (zar 0 [vR 1, vI p3]) [] h12 (qI (fun z15 h16 => zSh h16 ∧ (wpN G (d - 1) M_X6_firstSought 0 (zar 0 [vR 215]) [] h16 (qI (fun z19 h20 => zSh h20 ∧ Q (some (vI z19)) h20)))))))))) ∧ (z6 = 0 → Q (some (vI (-1001))) h7))))))))))) : wpN G d M_X10_counterpart 0 [(0, vR 1), (1, vI p1), (2, vI p2), (3, vI p3)] [] h Q := by
  refine wq_aload_n 0 rfl rfl dX10_counterpart_0 ?_
  refine wq_getR fk_X10_27 tT_1 (fun _ _ _ => rfl) (sh_10_3 hS) (by decide) dX10_counterpart_1 ?_
  refine wq_iload_n 3 rfl rfl dX10_counterpart_4 ?_
  refine wN_V (As := [vI p3]) vm_X2_isPresent lk_X10_163 tT_8 rfl rfl (Nat.le_of_ble_eq_true rfl) (Nat.le_of_ble_eq_true rfl) (d' := d - 1) (by omega) dX10_counterpart_5 hv (fun v9 h2 q3 => ?_)
  obtain ⟨z1, rfl, hS4, q3⟩ := q3
  refine wq_st (st' := [vI z1]) rfl ?_
  refine wq_if_eq 20 rfl dX10_counterpart_8 (fun c5 => ?_) (fun c5 => ?_)
  · refine wq_sipush (z := -1001) (zlit rfl) rfl dX10_counterpart_20 ?_
    exact wp_iret rfl dX10_counterpart_23 (q3.1 c5)
  · refine wq_aload_n 0 rfl rfl dX10_counterpart_11 ?_
    refine wq_iload_n 1 rfl rfl dX10_counterpart_12 ?_
    refine wq_iload_n 2 rfl rfl dX10_counterpart_13 ?_
    refine wN_V (As := [vI p1, vI p2]) vm_X10_layOutField lk_X10_175 tT_1 rfl rfl (Nat.le_of_ble_eq_true rfl) (Nat.le_of_ble_eq_true rfl) (d' := d - 1) (by omega) dX10_counterpart_14 (q3.2 c5) (fun v9 h7 q8 => ?_)
    obtain ⟨z6, rfl, hS9, q8⟩ := q8
    refine wq_st (st' := [vI z6]) rfl ?_
    refine wq_if_ne 24 rfl dX10_counterpart_17 (fun c10 => ?_) (fun c10 => ?_)
    · refine wq_aload_n 0 rfl rfl dX10_counterpart_24 ?_
      refine wq_getR fk_X10_75 tT_1 (fun _ _ _ => rfl) (sh_10_8 hS9) (by decide) dX10_counterpart_25 ?_
      refine wq_iload_n 2 rfl rfl dX10_counterpart_28 ?_
      refine wN_V (As := [vI p2]) vm_X6_seek lk_X10_203 tT_215 rfl rfl (Nat.le_of_ble_eq_true rfl) (Nat.le_of_ble_eq_true rfl) (d' := d - 1) (by omega) dX10_counterpart_29 (q8.1 c10) (fun v9 h12 q13 => ?_)
      obtain ⟨rfl, hS14, q13⟩ := q13
      refine wq_st (st' := []) rfl ?_
      refine wq_aload_n 0 rfl rfl dX10_counterpart_32 ?_
      refine wq_iload_n 3 rfl rfl dX10_counterpart_33 ?_
      refine wN_V (As := [vI p3]) vm_X10_layOut lk_X10_169 tT_1 rfl rfl (Nat.le_of_ble_eq_true rfl) (Nat.le_of_ble_eq_true rfl) (d' := d - 1) (by omega) dX10_counterpart_34 q13 (fun v9 h16 q17 => ?_)
      obtain ⟨z15, rfl, hS18, q17⟩ := q17
      refine wq_st (st' := [vI z15]) rfl ?_
      refine wq_pop rfl dX10_counterpart_37 ?_
      refine wq_aload_n 0 rfl rfl dX10_counterpart_38 ?_
      refine wq_getR fk_X10_75 tT_1 (fun _ _ _ => rfl) (sh_10_8 hS18) (by decide) dX10_counterpart_39 ?_
      refine wN_V (As := []) vm_X6_firstSought lk_X10_206 tT_215 rfl rfl (Nat.le_of_ble_eq_true rfl) (Nat.le_of_ble_eq_true rfl) (d' := d - 1) (by omega) dX10_counterpart_42 q17 (fun v9 h20 q21 => ?_)
      obtain ⟨z19, rfl, hS22, q21⟩ := q21
      refine wq_st (st' := [vI z19]) rfl ?_
      exact wp_iret rfl dX10_counterpart_45 q21
    · refine wq_sipush (z := -1001) (zlit rfl) rfl dX10_counterpart_20 ?_
      exact wp_iret rfl dX10_counterpart_23 (q8.2 c10)
theorem dX10_setField_0 : decode cX10_setField 0 = .ok (.aload_n 0, 1) := by decide +kernel
theorem dX10_setField_1 : decode cX10_setField 1 = .ok (.iload_n 1, 1) := by decide +kernel
theorem dX10_setField_2 : decode cX10_setField 2 = .ok (.iload_n 2, 1) := by decide +kernel
theorem dX10_setField_3 : decode cX10_setField 3 = .ok (.invokevirtual 175, 3) := by decide +kernel
theorem dX10_setField_6 : decode cX10_setField 6 = .ok (.ifCond .ne 7, 3) := by decide +kernel
theorem dX10_setField_9 : decode cX10_setField 9 = .ok (.sipush (-1001), 3) := by decide +kernel
theorem dX10_setField_12 : decode cX10_setField 12 = .ok (.ireturn, 1) := by decide +kernel
theorem dX10_setField_13 : decode cX10_setField 13 = .ok (.aload_n 0, 1) := by decide +kernel
theorem dX10_setField_14 : decode cX10_setField 14 = .ok (.getfield 75, 3) := by decide +kernel
theorem dX10_setField_17 : decode cX10_setField 17 = .ok (.getfield 179, 3) := by decide +kernel
theorem dX10_setField_20 : decode cX10_setField 20 = .ok (.iload_n 2, 1) := by decide +kernel
theorem dX10_setField_21 : decode cX10_setField 21 = .ok (.aaload, 1) := by decide +kernel
theorem dX10_setField_22 : decode cX10_setField 22 = .ok (.astore 5, 2) := by decide +kernel
theorem dX10_setField_24 : decode cX10_setField 24 = .ok (.aload 5, 2) := by decide +kernel
theorem dX10_setField_26 : decode cX10_setField 26 = .ok (.lload_n 3, 1) := by decide +kernel
theorem dX10_setField_27 : decode cX10_setField 27 = .ok (.invokevirtual 210, 3) := by decide +kernel
theorem dX10_setField_30 : decode cX10_setField 30 = .ok (.ifCond .ne 7, 3) := by decide +kernel
theorem dX10_setField_33 : decode cX10_setField 33 = .ok (.sipush (-1004), 3) := by decide +kernel
theorem dX10_setField_36 : decode cX10_setField 36 = .ok (.ireturn, 1) := by decide +kernel
theorem dX10_setField_37 : decode cX10_setField 37 = .ok (.aload_n 0, 1) := by decide +kernel
theorem dX10_setField_38 : decode cX10_setField 38 = .ok (.getfield 36, 3) := by decide +kernel
theorem dX10_setField_41 : decode cX10_setField 41 = .ok (.invokevirtual 123, 3) := by decide +kernel
theorem dX10_setField_44 : decode cX10_setField 44 = .ok (.aload_n 0, 1) := by decide +kernel
theorem dX10_setField_45 : decode cX10_setField 45 = .ok (.getfield 27, 3) := by decide +kernel
theorem dX10_setField_48 : decode cX10_setField 48 = .ok (.getfield 69, 3) := by decide +kernel
theorem dX10_setField_51 : decode cX10_setField 51 = .ok (.aload 5, 2) := by decide +kernel
theorem dX10_setField_53 : decode cX10_setField 53 = .ok (.lload_n 3, 1) := by decide +kernel
theorem dX10_setField_54 : decode cX10_setField 54 = .ok (.invokevirtual 214, 3) := by decide +kernel
theorem dX10_setField_57 : decode cX10_setField 57 = .ok (.aload_n 0, 1) := by decide +kernel
theorem dX10_setField_58 : decode cX10_setField 58 = .ok (.aload_n 0, 1) := by decide +kernel
theorem dX10_setField_59 : decode cX10_setField 59 = .ok (.getfield 83, 3) := by decide +kernel
theorem dX10_setField_62 : decode cX10_setField 62 = .ok (.invokevirtual 133, 3) := by decide +kernel
theorem dX10_setField_65 : decode cX10_setField 65 = .ok (.sipush (-1005), 3) := by decide +kernel
theorem dX10_setField_68 : decode cX10_setField 68 = .ok (.if_icmp .ne 9, 3) := by decide +kernel
theorem dX10_setField_71 : decode cX10_setField 71 = .ok (.sipush (-1005), 3) := by decide +kernel
theorem dX10_setField_74 : decode cX10_setField 74 = .ok (.goto 8, 3) := by decide +kernel
theorem dX10_setField_77 : decode cX10_setField 77 = .ok (.aload_n 0, 1) := by decide +kernel
theorem dX10_setField_78 : decode cX10_setField 78 = .ok (.iload_n 1, 1) := by decide +kernel
theorem dX10_setField_79 : decode cX10_setField 79 = .ok (.invokevirtual 160, 3) := by decide +kernel
theorem dX10_setField_82 : decode cX10_setField 82 = .ok (.ireturn, 1) := by decide +kernel
theorem vc_X10_setField_0 {G : zG} {d : Nat} {Q : Option zV → zHp → Prop} (p1 : Int) (p2 : Int) (p3 : Int) (h : zHp) (hS : zSh h) (hd : 8 ≤ d)  
    (hv : (wpN G (d - 1) M_X10_layOutField 0 (zar 0 [vR 1, vI p1, vI p2]) [] h (qI (fun z1 h2 => zSh h2 ∧ ((z1 ≠ 0 → (((0 : Int) ≤ p2 ∧ p2 < ((60 : Nat) : Int)) ∧ (wpN G (d - 1) M_X3_takes 0 (zar 0 [vR (217 + 2 * p2.toNat), vL p3]) [] h2 (qI (fun z6 h7 => zSh h7 ∧ ((z6 ≠ 0 → (wpN G (d - 1) M_X4_keep 0 (zar 0 [vR 13]) [] h7 (qV (fun h12 => zSh h12 ∧ (wpN G (d - 1) M_X0_write 0 (zar 0 [vR 9, vR (217 + 2 * p2.toNat), vL p3]) [] h12 (qV (fun h16 => zSh h16 ∧ (wpN G (d - 1) M_X10_endChange 0 (zar 0 [vR 1, vI (gI h16 1 11)]) [] h16 (qI (fun z19 h20 => zSh h20 ∧ ((z19 ≠ (-1005) → (wpN G (d - 1) M_X10_fieldsOf 0 (zar 0 [vR 1, vI p1]) [] h20 (qI (fun z24 h25 => zSh h25 ∧ Q (some (vI z24)) h25)))) ∧ (z19 = (-1005) → Q (some (vI (-1005))) h20)))))))))))) ∧ (z6 = 0 → Q (some (vI (-1004))) h7))))))) ∧ (z1 = 0 → Q (some (vI (-1001))) h2)))))) : wpN G d M_X10_setField 0 [(0, vR 1), (1, vI p1), (2, vI p2), (3, vL p3)] [] h Q := by
  refine wq_aload_n 0 rfl rfl dX10_setField_0 ?_
  refine wq_iload_n 1 rfl rfl dX10_setField_1 ?_
  refine wq_iload_n 2 rfl rfl dX10_setField_2 ?_
  refine wN_V (As := [vI p1, vI p2]) vm_X10_layOutField lk_X10_175 tT_1 rfl rfl (Nat.le_of_ble_eq_true rfl) (Nat.le_of_ble_eq_true rfl) (d' := d - 1) (by omega) dX10_setField_3 hv (fun v9 h2 q3 => ?_)
  obtain ⟨z1, rfl, hS4, q3⟩ := q3
  refine wq_st (st' := [vI z1]) rfl ?_
  refine wq_if_ne 13 rfl dX10_setField_6 (fun c5 => ?_) (fun c5 => ?_)
  · refine wq_aload_n 0 rfl rfl dX10_setField_13 ?_
    refine wq_getR fk_X10_75 tT_1 (fun _ _ _ => rfl) (sh_10_8 hS4) (by decide) dX10_setField_14 ?_
    refine wq_getR fk_X10_179 tT_215 (fun _ _ _ => rfl) (sh_6_0 hS4) (by decide) dX10_setField_17 ?_
    refine wq_iload_n 2 rfl rfl dX10_setField_20 ?_
    refine wq_aald (r := (217 + 2 * p2.toNat)) tT_216 (by decide) (by decide) rfl (q3.1 c5).1.1 (q3.1 c5).1.2 (sh_fds hS4 (zlt_n (q3.1 c5).1.1 (q3.1 c5).1.2)) (by omega) dX10_setField_21 ?_
    refine wq_astore (ls' := [(0, vR 1), (1, vI p1), (2, vI p2), (3, vL p3), (5, vR (217 + 2 * p2.toNat))]) (by decide) rfl dX10_setField_22 ?_
    refine wq_aload 4 rfl dX10_setField_24 ?_
    refine wq_lload_n 3 rfl rfl dX10_setField_26 ?_
    refine wN_V (As := [vL p3]) vm_X3_takes lk_X10_210 (zfds (zlt_n (q3.1 c5).1.1 (q3.1 c5).1.2)) rfl rfl (Nat.le_of_ble_eq_true rfl) (Nat.le_of_ble_eq_true rfl) (d' := d - 1) (by omega) dX10_setField_27 (q3.1 c5).2 (fun v9 h7 q8 => ?_)
    obtain ⟨z6, rfl, hS9, q8⟩ := q8
    refine wq_st (st' := [vI z6]) rfl ?_
    refine wq_if_ne 37 rfl dX10_setField_30 (fun c10 => ?_) (fun c10 => ?_)
    · refine wq_aload_n 0 rfl rfl dX10_setField_37 ?_
      refine wq_getR fk_X10_36 tT_1 (fun _ _ _ => rfl) (sh_10_4 hS9) (by decide) dX10_setField_38 ?_
      refine wN_V (As := []) vm_X4_keep lk_X10_123 tT_13 rfl rfl (Nat.le_of_ble_eq_true rfl) (Nat.le_of_ble_eq_true rfl) (d' := d - 1) (by omega) dX10_setField_41 (q8.1 c10) (fun v9 h12 q13 => ?_)
      obtain ⟨rfl, hS14, q13⟩ := q13
      refine wq_st (st' := []) rfl ?_
      refine wq_aload_n 0 rfl rfl dX10_setField_44 ?_
      refine wq_getR fk_X10_27 tT_1 (fun _ _ _ => rfl) (sh_10_3 hS14) (by decide) dX10_setField_45 ?_
      refine wq_getR (r := 9) fk_X10_69 tT_8 (fun _ _ _ => rfl) (sh_2_0 hS14 tT_8) (by decide) dX10_setField_48 ?_
      refine wq_aload 4 rfl dX10_setField_51 ?_
      refine wq_lload_n 3 rfl rfl dX10_setField_53 ?_
      refine wN_V (As := [vR (217 + 2 * p2.toNat), vL p3]) vm_X0_write lk_X10_214 tT_9 rfl rfl (Nat.le_of_ble_eq_true rfl) (Nat.le_of_ble_eq_true rfl) (d' := d - 1) (by omega) dX10_setField_54 q13 (fun v9 h16 q17 => ?_)
      obtain ⟨rfl, hS18, q17⟩ := q17
      refine wq_st (st' := []) rfl ?_
      refine wq_aload_n 0 rfl rfl dX10_setField_57 ?_
      refine wq_aload_n 0 rfl rfl dX10_setField_58 ?_
      refine wq_getI fk_X10_83 tT_1 (fun _ _ _ => rfl) dX10_setField_59 ?_
      refine wN_V (As := [vI (gI h16 1 11)]) vm_X10_endChange lk_X10_133 tT_1 rfl rfl (Nat.le_of_ble_eq_true rfl) (Nat.le_of_ble_eq_true rfl) (d' := d - 1) (by omega) dX10_setField_62 q17 (fun v9 h20 q21 => ?_)
      obtain ⟨z19, rfl, hS22, q21⟩ := q21
      refine wq_st (st' := [vI z19]) rfl ?_
      refine wq_sipush (z := -1005) (zlit rfl) rfl dX10_setField_65 ?_
      refine wq_icmp_ne 77 rfl dX10_setField_68 (fun c23 => ?_) (fun c23 => ?_)
      · refine wq_aload_n 0 rfl rfl dX10_setField_77 ?_
        refine wq_iload_n 1 rfl rfl dX10_setField_78 ?_
        refine wN_V (As := [vI p1]) vm_X10_fieldsOf lk_X10_160 tT_1 rfl rfl (Nat.le_of_ble_eq_true rfl) (Nat.le_of_ble_eq_true rfl) (d' := d - 1) (by omega) dX10_setField_79 (q21.1 c23) (fun v9 h25 q26 => ?_)
        obtain ⟨z24, rfl, hS27, q26⟩ := q26
        refine wq_st (st' := [vI z24]) rfl ?_
        exact wp_iret rfl dX10_setField_82 q26
      · refine wq_sipush (z := -1005) (zlit rfl) rfl dX10_setField_71 ?_
        refine wq_goto 82 rfl dX10_setField_74 ?_
        exact wp_iret rfl dX10_setField_82 (q21.2 c23)
    · refine wq_sipush (z := -1004) (zlit rfl) rfl dX10_setField_33 ?_
      exact wp_iret rfl dX10_setField_36 (q8.2 c10)
  · refine wq_sipush (z := -1001) (zlit rfl) rfl dX10_setField_9 ?_
    exact wp_iret rfl dX10_setField_12 (q3.2 c5)
theorem dX10_follow_0 : decode cX10_follow 0 = .ok (.aload_n 0, 1) := by decide +kernel
theorem dX10_follow_1 : decode cX10_follow 1 = .ok (.getfield 83, 3) := by decide +kernel
theorem dX10_follow_4 : decode cX10_follow 4 = .ok (.ifCond .eq 7, 3) := by decide +kernel
theorem dX10_follow_7 : decode cX10_follow 7 = .ok (.iconst 1, 1) := by decide +kernel
theorem dX10_follow_8 : decode cX10_follow 8 = .ok (.goto 4, 3) := by decide +kernel
theorem dX10_follow_11 : decode cX10_follow 11 = .ok (.iconst 0, 1) := by decide +kernel
theorem dX10_follow_12 : decode cX10_follow 12 = .ok (.istore_n 2, 1) := by decide +kernel
theorem dX10_follow_13 : decode cX10_follow 13 = .ok (.aload_n 0, 1) := by decide +kernel
theorem dX10_follow_14 : decode cX10_follow 14 = .ok (.iload_n 1, 1) := by decide +kernel
theorem dX10_follow_15 : decode cX10_follow 15 = .ok (.putfield 83, 3) := by decide +kernel
theorem dX10_follow_18 : decode cX10_follow 18 = .ok (.iload_n 2, 1) := by decide +kernel
theorem dX10_follow_19 : decode cX10_follow 19 = .ok (.ireturn, 1) := by decide +kernel
theorem vc_X10_follow_0 {G : zG} {d : Nat} {Q : Option zV → zHp → Prop} (p1 : Int) (h : zHp) (hS : zSh h) (hd : 0 ≤ d)  
    (hv : (((gI h 1 11) = 0 → ((p1 = 0 ∨ p1 = 1) ∧ (∀ h2 : zHp, h2 = sI h 1 11 p1 → Q (some (vI 0)) h2))) ∧ ((gI h 1 11) ≠ 0 → ((p1 = 0 ∨ p1 = 1) ∧ (∀ h4 : zHp, h4 = sI h 1 11 p1 → Q (some (vI 1)) h4))))) : wpN G d M_X10_follow 0 [(0, vR 1), (1, vI p1)] [] h Q := by
  refine wq_aload_n 0 rfl rfl dX10_follow_0 ?_
  refine wq_getI fk_X10_83 tT_1 (fun _ _ _ => rfl) dX10_follow_1 ?_
  refine wq_if_eq 11 rfl dX10_follow_4 (fun c1 => ?_) (fun c1 => ?_)
  · refine wq_iconst (z := 0) (zlit rfl) dX10_follow_11 ?_
    refine wq_istore_n (ls' := [(0, vR 1), (1, vI p1), (2, vI 0)]) rfl (by decide) rfl dX10_follow_12 ?_
    refine wq_aload_n 0 rfl rfl dX10_follow_13 ?_
    refine wq_iload_n 1 rfl rfl dX10_follow_14 ?_
    refine wq_putZ (hv.1 c1).1 fk_X10_83 tT_1 rfl rfl dX10_follow_15 ?_
    refine wq_toph (fun h2 e3 => ?_)
    have sh2 : zSh h2 := zSh_of e3 hS
    refine wq_iload_n 2 rfl rfl dX10_follow_18 ?_
    exact wp_iret rfl dX10_follow_19 ((hv.1 c1).2 h2 e3)
  · refine wq_iconst (z := 1) (zlit rfl) dX10_follow_7 ?_
    refine wq_goto 12 rfl dX10_follow_8 ?_
    refine wq_istore_n (ls' := [(0, vR 1), (1, vI p1), (2, vI 1)]) rfl (by decide) rfl dX10_follow_12 ?_
    refine wq_aload_n 0 rfl rfl dX10_follow_13 ?_
    refine wq_iload_n 1 rfl rfl dX10_follow_14 ?_
    refine wq_putZ (hv.2 c1).1 fk_X10_83 tT_1 rfl rfl dX10_follow_15 ?_
    refine wq_toph (fun h4 e5 => ?_)
    have sh4 : zSh h4 := zSh_of e5 hS
    refine wq_iload_n 2 rfl rfl dX10_follow_18 ?_
    exact wp_iret rfl dX10_follow_19 ((hv.2 c1).2 h4 e5)
theorem dX10_refresh_0 : decode cX10_refresh 0 = .ok (.aload_n 0, 1) := by decide +kernel
theorem dX10_refresh_1 : decode cX10_refresh 1 = .ok (.getfield 36, 3) := by decide +kernel
theorem dX10_refresh_4 : decode cX10_refresh 4 = .ok (.invokevirtual 123, 3) := by decide +kernel
theorem dX10_refresh_7 : decode cX10_refresh 7 = .ok (.aload_n 0, 1) := by decide +kernel
theorem dX10_refresh_8 : decode cX10_refresh 8 = .ok (.iconst 1, 1) := by decide +kernel
theorem dX10_refresh_9 : decode cX10_refresh 9 = .ok (.invokevirtual 133, 3) := by decide +kernel
theorem dX10_refresh_12 : decode cX10_refresh 12 = .ok (.ireturn, 1) := by decide +kernel
theorem vc_X10_refresh_0 {G : zG} {d : Nat} {Q : Option zV → zHp → Prop}  (h : zHp) (hS : zSh h) (hd : 8 ≤ d)  
    (hv : (wpN G (d - 1) M_X4_keep 0 (zar 0 [vR 13]) [] h (qV (fun h2 => zSh h2 ∧ (wpN G (d - 1) M_X10_endChange 0 (zar 0 [vR 1, vI 1]) [] h2 (qI (fun z5 h6 => zSh h6 ∧ Q (some (vI z5)) h6))))))) : wpN G d M_X10_refresh 0 [(0, vR 1)] [] h Q := by
  refine wq_aload_n 0 rfl rfl dX10_refresh_0 ?_
  refine wq_getR fk_X10_36 tT_1 (fun _ _ _ => rfl) (sh_10_4 hS) (by decide) dX10_refresh_1 ?_
  refine wN_V (As := []) vm_X4_keep lk_X10_123 tT_13 rfl rfl (Nat.le_of_ble_eq_true rfl) (Nat.le_of_ble_eq_true rfl) (d' := d - 1) (by omega) dX10_refresh_4 hv (fun v9 h2 q3 => ?_)
  obtain ⟨rfl, hS4, q3⟩ := q3
  refine wq_st (st' := []) rfl ?_
  refine wq_aload_n 0 rfl rfl dX10_refresh_7 ?_
  refine wq_iconst (z := 1) (zlit rfl) dX10_refresh_8 ?_
  refine wN_V (As := [vI 1]) vm_X10_endChange lk_X10_133 tT_1 rfl rfl (Nat.le_of_ble_eq_true rfl) (Nat.le_of_ble_eq_true rfl) (d' := d - 1) (by omega) dX10_refresh_9 q3 (fun v9 h6 q7 => ?_)
  obtain ⟨z5, rfl, hS8, q7⟩ := q7
  refine wq_st (st' := [vI z5]) rfl ?_
  exact wp_iret rfl dX10_refresh_12 q7
theorem dX10_expected_0 : decode cX10_expected 0 = .ok (.aload_n 0, 1) := by decide +kernel
theorem dX10_expected_1 : decode cX10_expected 1 = .ok (.iload_n 1, 1) := by decide +kernel
theorem dX10_expected_2 : decode cX10_expected 2 = .ok (.iload_n 2, 1) := by decide +kernel
theorem dX10_expected_3 : decode cX10_expected 3 = .ok (.invokevirtual 175, 3) := by decide +kernel
theorem dX10_expected_6 : decode cX10_expected 6 = .ok (.ifCond .ne 7, 3) := by decide +kernel
theorem dX10_expected_9 : decode cX10_expected 9 = .ok (.sipush (-1001), 3) := by decide +kernel
theorem dX10_expected_12 : decode cX10_expected 12 = .ok (.ireturn, 1) := by decide +kernel
theorem dX10_expected_13 : decode cX10_expected 13 = .ok (.aload_n 0, 1) := by decide +kernel
theorem dX10_expected_14 : decode cX10_expected 14 = .ok (.getfield 75, 3) := by decide +kernel
theorem dX10_expected_17 : decode cX10_expected 17 = .ok (.getfield 179, 3) := by decide +kernel
theorem dX10_expected_20 : decode cX10_expected 20 = .ok (.iload_n 2, 1) := by decide +kernel
theorem dX10_expected_21 : decode cX10_expected 21 = .ok (.aaload, 1) := by decide +kernel
theorem dX10_expected_22 : decode cX10_expected 22 = .ok (.astore_n 3, 1) := by decide +kernel
theorem dX10_expected_23 : decode cX10_expected 23 = .ok (.aload_n 3, 1) := by decide +kernel
theorem dX10_expected_24 : decode cX10_expected 24 = .ok (.invokevirtual 218, 3) := by decide +kernel
theorem dX10_expected_27 : decode cX10_expected 27 = .ok (.ifCond .eq 17, 3) := by decide +kernel
theorem dX10_expected_30 : decode cX10_expected 30 = .ok (.aload_n 3, 1) := by decide +kernel
theorem dX10_expected_31 : decode cX10_expected 31 = .ok (.aload_n 0, 1) := by decide +kernel
theorem dX10_expected_32 : decode cX10_expected 32 = .ok (.getfield 27, 3) := by decide +kernel
theorem dX10_expected_35 : decode cX10_expected 35 = .ok (.getfield 69, 3) := by decide +kernel
theorem dX10_expected_38 : decode cX10_expected 38 = .ok (.invokestatic 222, 3) := by decide +kernel
theorem dX10_expected_41 : decode cX10_expected 41 = .ok (.goto 6, 3) := by decide +kernel
theorem dX10_expected_44 : decode cX10_expected 44 = .ok (.sipush (-1009), 3) := by decide +kernel
theorem dX10_expected_47 : decode cX10_expected 47 = .ok (.ireturn, 1) := by decide +kernel
theorem vc_X10_expected_0 {G : zG} {d : Nat} {Q : Option zV → zHp → Prop} (p1 : Int) (p2 : Int) (h : zHp) (hS : zSh h) (hd : 7 ≤ d)  
    (hv : (wpN G (d - 1) M_X10_layOutField 0 (zar 0 [vR 1, vI p1, vI p2]) [] h (qI (fun z1 h2 => zSh h2 ∧ ((z1 ≠ 0 → (((0 : Int) ≤ p2 ∧ p2 < ((60 : Nat) : Int)) ∧ (wpN G (d - 1) M_X3_isCheck 0 (zar 0 [vR (217 + 2 * p2.toNat)]) [] h2 (qI (fun z6 h7 => zSh h7 ∧ ((z6 = 0 → Q (some (vI (-1009))) h7) ∧ (z6 ≠ 0 → (wpN G (d - 1) M_X1_expectedOf 0 (zar 0 [vR (217 + 2 * p2.toNat), vR 9]) [] h7 (qI (fun z11 h12 => zSh h12 ∧ Q (some (vI z11)) h12)))))))))) ∧ (z1 = 0 → Q (some (vI (-1001))) h2)))))) : wpN G d M_X10_expected 0 [(0, vR 1), (1, vI p1), (2, vI p2)] [] h Q := by
  refine wq_aload_n 0 rfl rfl dX10_expected_0 ?_
  refine wq_iload_n 1 rfl rfl dX10_expected_1 ?_
  refine wq_iload_n 2 rfl rfl dX10_expected_2 ?_
  refine wN_V (As := [vI p1, vI p2]) vm_X10_layOutField lk_X10_175 tT_1 rfl rfl (Nat.le_of_ble_eq_true rfl) (Nat.le_of_ble_eq_true rfl) (d' := d - 1) (by omega) dX10_expected_3 hv (fun v9 h2 q3 => ?_)
  obtain ⟨z1, rfl, hS4, q3⟩ := q3
  refine wq_st (st' := [vI z1]) rfl ?_
  refine wq_if_ne 13 rfl dX10_expected_6 (fun c5 => ?_) (fun c5 => ?_)
  · refine wq_aload_n 0 rfl rfl dX10_expected_13 ?_
    refine wq_getR fk_X10_75 tT_1 (fun _ _ _ => rfl) (sh_10_8 hS4) (by decide) dX10_expected_14 ?_
    refine wq_getR fk_X10_179 tT_215 (fun _ _ _ => rfl) (sh_6_0 hS4) (by decide) dX10_expected_17 ?_
    refine wq_iload_n 2 rfl rfl dX10_expected_20 ?_
    refine wq_aald (r := (217 + 2 * p2.toNat)) tT_216 (by decide) (by decide) rfl (q3.1 c5).1.1 (q3.1 c5).1.2 (sh_fds hS4 (zlt_n (q3.1 c5).1.1 (q3.1 c5).1.2)) (by omega) dX10_expected_21 ?_
    refine wq_astore_n (ls' := [(0, vR 1), (1, vI p1), (2, vI p2), (3, vR (217 + 2 * p2.toNat))]) rfl (by decide) rfl dX10_expected_22 ?_
    refine wq_aload_n 3 rfl rfl dX10_expected_23 ?_
    refine wN_V (As := []) vm_X3_isCheck lk_X10_218 (zfds (zlt_n (q3.1 c5).1.1 (q3.1 c5).1.2)) rfl rfl (Nat.le_of_ble_eq_true rfl) (Nat.le_of_ble_eq_true rfl) (d' := d - 1) (by omega) dX10_expected_24 (q3.1 c5).2 (fun v9 h7 q8 => ?_)
    obtain ⟨z6, rfl, hS9, q8⟩ := q8
    refine wq_st (st' := [vI z6]) rfl ?_
    refine wq_if_eq 44 rfl dX10_expected_27 (fun c10 => ?_) (fun c10 => ?_)
    · refine wq_sipush (z := -1009) (zlit rfl) rfl dX10_expected_44 ?_
      exact wp_iret rfl dX10_expected_47 (q8.1 c10)
    · refine wq_aload_n 3 rfl rfl dX10_expected_30 ?_
      refine wq_aload_n 0 rfl rfl dX10_expected_31 ?_
      refine wq_getR fk_X10_27 tT_1 (fun _ _ _ => rfl) (sh_10_3 hS9) (by decide) dX10_expected_32 ?_
      refine wq_getR (r := 9) fk_X10_69 tT_8 (fun _ _ _ => rfl) (sh_2_0 hS9 tT_8) (by decide) dX10_expected_35 ?_
      refine wN_S (As := [vR (217 + 2 * p2.toNat), vR 9]) md_X1_expectedOf ms_X1_expectedOf lk_X10_222 rfl rfl (Nat.le_of_ble_eq_true rfl) (Nat.le_of_ble_eq_true rfl) (d' := d - 1) (by omega) dX10_expected_38 (q8.2 c10) (fun v9 h12 q13 => ?_)
      obtain ⟨z11, rfl, hS14, q13⟩ := q13
      refine wq_st (st' := [vI z11]) rfl ?_
      refine wq_goto 47 rfl dX10_expected_41 ?_
      exact wp_iret rfl dX10_expected_47 q13
  · refine wq_sipush (z := -1001) (zlit rfl) rfl dX10_expected_9 ?_
    exact wp_iret rfl dX10_expected_12 (q3.2 c5)
theorem dX10_repair_0 : decode cX10_repair 0 = .ok (.aload_n 0, 1) := by decide +kernel
theorem dX10_repair_1 : decode cX10_repair 1 = .ok (.iload_n 1, 1) := by decide +kernel
theorem dX10_repair_2 : decode cX10_repair 2 = .ok (.iload_n 2, 1) := by decide +kernel
theorem dX10_repair_3 : decode cX10_repair 3 = .ok (.invokevirtual 175, 3) := by decide +kernel
theorem dX10_repair_6 : decode cX10_repair 6 = .ok (.ifCond .ne 7, 3) := by decide +kernel
theorem dX10_repair_9 : decode cX10_repair 9 = .ok (.sipush (-1001), 3) := by decide +kernel
theorem dX10_repair_12 : decode cX10_repair 12 = .ok (.ireturn, 1) := by decide +kernel
theorem dX10_repair_13 : decode cX10_repair 13 = .ok (.aload_n 0, 1) := by decide +kernel
theorem dX10_repair_14 : decode cX10_repair 14 = .ok (.getfield 75, 3) := by decide +kernel
theorem dX10_repair_17 : decode cX10_repair 17 = .ok (.getfield 179, 3) := by decide +kernel
theorem dX10_repair_20 : decode cX10_repair 20 = .ok (.iload_n 2, 1) := by decide +kernel
theorem dX10_repair_21 : decode cX10_repair 21 = .ok (.aaload, 1) := by decide +kernel
theorem dX10_repair_22 : decode cX10_repair 22 = .ok (.astore_n 3, 1) := by decide +kernel
theorem dX10_repair_23 : decode cX10_repair 23 = .ok (.aload_n 3, 1) := by decide +kernel
theorem dX10_repair_24 : decode cX10_repair 24 = .ok (.aload_n 0, 1) := by decide +kernel
theorem dX10_repair_25 : decode cX10_repair 25 = .ok (.getfield 27, 3) := by decide +kernel
theorem dX10_repair_28 : decode cX10_repair 28 = .ok (.getfield 69, 3) := by decide +kernel
theorem dX10_repair_31 : decode cX10_repair 31 = .ok (.invokestatic 228, 3) := by decide +kernel
theorem dX10_repair_34 : decode cX10_repair 34 = .ok (.ifCond .ne 7, 3) := by decide +kernel
theorem dX10_repair_37 : decode cX10_repair 37 = .ok (.sipush (-1002), 3) := by decide +kernel
theorem dX10_repair_40 : decode cX10_repair 40 = .ok (.ireturn, 1) := by decide +kernel
theorem dX10_repair_41 : decode cX10_repair 41 = .ok (.aload_n 3, 1) := by decide +kernel
theorem dX10_repair_42 : decode cX10_repair 42 = .ok (.aload_n 0, 1) := by decide +kernel
theorem dX10_repair_43 : decode cX10_repair 43 = .ok (.getfield 27, 3) := by decide +kernel
theorem dX10_repair_46 : decode cX10_repair 46 = .ok (.getfield 69, 3) := by decide +kernel
theorem dX10_repair_49 : decode cX10_repair 49 = .ok (.bipush 16, 2) := by decide +kernel
theorem dX10_repair_51 : decode cX10_repair 51 = .ok (.invokestatic 232, 3) := by decide +kernel
theorem dX10_repair_54 : decode cX10_repair 54 = .ok (.ireturn, 1) := by decide +kernel
theorem vc_X10_repair_0 {G : zG} {d : Nat} {Q : Option zV → zHp → Prop} (p1 : Int) (p2 : Int) (h : zHp) (hS : zSh h) (hd : 7 ≤ d)  
    (hv : (wpN G (d - 1) M_X10_layOutField 0 (zar 0 [vR 1, vI p1, vI p2]) [] h (qI (fun z1 h2 => zSh h2 ∧ ((z1 ≠ 0 → (((0 : Int) ≤ p2 ∧ p2 < ((60 : Nat) : Int)) ∧ (wpN G (d - 1) M_X1_isWrong 0 (zar 0 [vR (217 + 2 * p2.toNat), vR 9]) [] h2 (qI (fun z6 h7 => zSh h7 ∧ ((z6 ≠ 0 → (wpN G (d - 1) M_X1_repairOf 0 (zar 0 [vR (217 + 2 * p2.toNat), vR 9, vI 16]) [] h7 (qI (fun z11 h12 => zSh h12 ∧ Q (some (vI z11)) h12)))) ∧ (z6 = 0 → Q (some (vI (-1002))) h7))))))) ∧ (z1 = 0 → Q (some (vI (-1001))) h2)))))) : wpN G d M_X10_repair 0 [(0, vR 1), (1, vI p1), (2, vI p2)] [] h Q := by
  refine wq_aload_n 0 rfl rfl dX10_repair_0 ?_
  refine wq_iload_n 1 rfl rfl dX10_repair_1 ?_
  refine wq_iload_n 2 rfl rfl dX10_repair_2 ?_
  refine wN_V (As := [vI p1, vI p2]) vm_X10_layOutField lk_X10_175 tT_1 rfl rfl (Nat.le_of_ble_eq_true rfl) (Nat.le_of_ble_eq_true rfl) (d' := d - 1) (by omega) dX10_repair_3 hv (fun v9 h2 q3 => ?_)
  obtain ⟨z1, rfl, hS4, q3⟩ := q3
  refine wq_st (st' := [vI z1]) rfl ?_
  refine wq_if_ne 13 rfl dX10_repair_6 (fun c5 => ?_) (fun c5 => ?_)
  · refine wq_aload_n 0 rfl rfl dX10_repair_13 ?_
    refine wq_getR fk_X10_75 tT_1 (fun _ _ _ => rfl) (sh_10_8 hS4) (by decide) dX10_repair_14 ?_
    refine wq_getR fk_X10_179 tT_215 (fun _ _ _ => rfl) (sh_6_0 hS4) (by decide) dX10_repair_17 ?_
    refine wq_iload_n 2 rfl rfl dX10_repair_20 ?_
    refine wq_aald (r := (217 + 2 * p2.toNat)) tT_216 (by decide) (by decide) rfl (q3.1 c5).1.1 (q3.1 c5).1.2 (sh_fds hS4 (zlt_n (q3.1 c5).1.1 (q3.1 c5).1.2)) (by omega) dX10_repair_21 ?_
    refine wq_astore_n (ls' := [(0, vR 1), (1, vI p1), (2, vI p2), (3, vR (217 + 2 * p2.toNat))]) rfl (by decide) rfl dX10_repair_22 ?_
    refine wq_aload_n 3 rfl rfl dX10_repair_23 ?_
    refine wq_aload_n 0 rfl rfl dX10_repair_24 ?_
    refine wq_getR fk_X10_27 tT_1 (fun _ _ _ => rfl) (sh_10_3 hS4) (by decide) dX10_repair_25 ?_
    refine wq_getR (r := 9) fk_X10_69 tT_8 (fun _ _ _ => rfl) (sh_2_0 hS4 tT_8) (by decide) dX10_repair_28 ?_
    refine wN_S (As := [vR (217 + 2 * p2.toNat), vR 9]) md_X1_isWrong ms_X1_isWrong lk_X10_228 rfl rfl (Nat.le_of_ble_eq_true rfl) (Nat.le_of_ble_eq_true rfl) (d' := d - 1) (by omega) dX10_repair_31 (q3.1 c5).2 (fun v9 h7 q8 => ?_)
    obtain ⟨z6, rfl, hS9, q8⟩ := q8
    refine wq_st (st' := [vI z6]) rfl ?_
    refine wq_if_ne 41 rfl dX10_repair_34 (fun c10 => ?_) (fun c10 => ?_)
    · refine wq_aload_n 3 rfl rfl dX10_repair_41 ?_
      refine wq_aload_n 0 rfl rfl dX10_repair_42 ?_
      refine wq_getR fk_X10_27 tT_1 (fun _ _ _ => rfl) (sh_10_3 hS9) (by decide) dX10_repair_43 ?_
      refine wq_getR (r := 9) fk_X10_69 tT_8 (fun _ _ _ => rfl) (sh_2_0 hS9 tT_8) (by decide) dX10_repair_46 ?_
      refine wq_bipush (z := 16) (zlit rfl) rfl dX10_repair_49 ?_
      refine wN_S (As := [vR (217 + 2 * p2.toNat), vR 9, vI 16]) md_X1_repairOf ms_X1_repairOf lk_X10_232 rfl rfl (Nat.le_of_ble_eq_true rfl) (Nat.le_of_ble_eq_true rfl) (d' := d - 1) (by omega) dX10_repair_51 (q8.1 c10) (fun v9 h12 q13 => ?_)
      obtain ⟨z11, rfl, hS14, q13⟩ := q13
      refine wq_st (st' := [vI z11]) rfl ?_
      exact wp_iret rfl dX10_repair_54 q13
    · refine wq_sipush (z := -1002) (zlit rfl) rfl dX10_repair_37 ?_
      exact wp_iret rfl dX10_repair_40 (q8.2 c10)
  · refine wq_sipush (z := -1001) (zlit rfl) rfl dX10_repair_9 ?_
    exact wp_iret rfl dX10_repair_12 (q3.2 c5)
theorem dX10_undo_0 : decode cX10_undo 0 = .ok (.aload_n 0, 1) := by decide +kernel
theorem dX10_undo_1 : decode cX10_undo 1 = .ok (.getfield 36, 3) := by decide +kernel
theorem dX10_undo_4 : decode cX10_undo 4 = .ok (.invokevirtual 236, 3) := by decide +kernel
theorem dX10_undo_7 : decode cX10_undo 7 = .ok (.ifCond .eq 13, 3) := by decide +kernel
theorem dX10_undo_10 : decode cX10_undo 10 = .ok (.aload_n 0, 1) := by decide +kernel
theorem dX10_undo_11 : decode cX10_undo 11 = .ok (.getfield 36, 3) := by decide +kernel
theorem dX10_undo_14 : decode cX10_undo 14 = .ok (.getfield 239, 3) := by decide +kernel
theorem dX10_undo_17 : decode cX10_undo 17 = .ok (.goto 6, 3) := by decide +kernel
theorem dX10_undo_20 : decode cX10_undo 20 = .ok (.sipush (-1002), 3) := by decide +kernel
theorem dX10_undo_23 : decode cX10_undo 23 = .ok (.ireturn, 1) := by decide +kernel
theorem vc_X10_undo_0 {G : zG} {d : Nat} {Q : Option zV → zHp → Prop}  (h : zHp) (hS : zSh h) (hd : 5 ≤ d)  
    (hv : (wpN G (d - 1) M_X4_back 0 (zar 0 [vR 13]) [] h (qI (fun z1 h2 => zSh h2 ∧ ((z1 = 0 → Q (some (vI (-1002))) h2) ∧ (z1 ≠ 0 → Q (some (vI (gI h2 13 2))) h2)))))) : wpN G d M_X10_undo 0 [(0, vR 1)] [] h Q := by
  refine wq_aload_n 0 rfl rfl dX10_undo_0 ?_
  refine wq_getR fk_X10_36 tT_1 (fun _ _ _ => rfl) (sh_10_4 hS) (by decide) dX10_undo_1 ?_
  refine wN_V (As := []) vm_X4_back lk_X10_236 tT_13 rfl rfl (Nat.le_of_ble_eq_true rfl) (Nat.le_of_ble_eq_true rfl) (d' := d - 1) (by omega) dX10_undo_4 hv (fun v9 h2 q3 => ?_)
  obtain ⟨z1, rfl, hS4, q3⟩ := q3
  refine wq_st (st' := [vI z1]) rfl ?_
  refine wq_if_eq 20 rfl dX10_undo_7 (fun c5 => ?_) (fun c5 => ?_)
  · refine wq_sipush (z := -1002) (zlit rfl) rfl dX10_undo_20 ?_
    exact wp_iret rfl dX10_undo_23 (q3.1 c5)
  · refine wq_aload_n 0 rfl rfl dX10_undo_10 ?_
    refine wq_getR fk_X10_36 tT_1 (fun _ _ _ => rfl) (sh_10_4 hS4) (by decide) dX10_undo_11 ?_
    refine wq_getI fk_X10_239 tT_13 (fun _ _ _ => rfl) dX10_undo_14 ?_
    refine wq_goto 23 rfl dX10_undo_17 ?_
    exact wp_iret rfl dX10_undo_23 (q3.2 c5)
theorem dX10_redo_0 : decode cX10_redo 0 = .ok (.aload_n 0, 1) := by decide +kernel
theorem dX10_redo_1 : decode cX10_redo 1 = .ok (.getfield 36, 3) := by decide +kernel
theorem dX10_redo_4 : decode cX10_redo 4 = .ok (.invokevirtual 242, 3) := by decide +kernel
theorem dX10_redo_7 : decode cX10_redo 7 = .ok (.ifCond .eq 21, 3) := by decide +kernel
theorem dX10_redo_10 : decode cX10_redo 10 = .ok (.aload_n 0, 1) := by decide +kernel
theorem dX10_redo_11 : decode cX10_redo 11 = .ok (.getfield 36, 3) := by decide +kernel
theorem dX10_redo_14 : decode cX10_redo 14 = .ok (.getfield 245, 3) := by decide +kernel
theorem dX10_redo_17 : decode cX10_redo 17 = .ok (.aload_n 0, 1) := by decide +kernel
theorem dX10_redo_18 : decode cX10_redo 18 = .ok (.getfield 36, 3) := by decide +kernel
theorem dX10_redo_21 : decode cX10_redo 21 = .ok (.getfield 239, 3) := by decide +kernel
theorem dX10_redo_24 : decode cX10_redo 24 = .ok (.isub, 1) := by decide +kernel
theorem dX10_redo_25 : decode cX10_redo 25 = .ok (.goto 6, 3) := by decide +kernel
theorem dX10_redo_28 : decode cX10_redo 28 = .ok (.sipush (-1002), 3) := by decide +kernel
theorem dX10_redo_31 : decode cX10_redo 31 = .ok (.ireturn, 1) := by decide +kernel
theorem vc_X10_redo_0 {G : zG} {d : Nat} {Q : Option zV → zHp → Prop}  (h : zHp) (hS : zSh h) (hd : 5 ≤ d)  
    (hv : (wpN G (d - 1) M_X4_forward 0 (zar 0 [vR 13]) [] h (qI (fun z1 h2 => zSh h2 ∧ ((z1 = 0 → Q (some (vI (-1002))) h2) ∧ (z1 ≠ 0 → ((-2147483648 ≤ (gI h2 13 3) - (gI h2 13 2) ∧ (gI h2 13 3) - (gI h2 13 2) ≤ 2147483647) ∧ Q (some (vI ((gI h2 13 3) - (gI h2 13 2)))) h2))))))) : wpN G d M_X10_redo 0 [(0, vR 1)] [] h Q := by
  refine wq_aload_n 0 rfl rfl dX10_redo_0 ?_
  refine wq_getR fk_X10_36 tT_1 (fun _ _ _ => rfl) (sh_10_4 hS) (by decide) dX10_redo_1 ?_
  refine wN_V (As := []) vm_X4_forward lk_X10_242 tT_13 rfl rfl (Nat.le_of_ble_eq_true rfl) (Nat.le_of_ble_eq_true rfl) (d' := d - 1) (by omega) dX10_redo_4 hv (fun v9 h2 q3 => ?_)
  obtain ⟨z1, rfl, hS4, q3⟩ := q3
  refine wq_st (st' := [vI z1]) rfl ?_
  refine wq_if_eq 28 rfl dX10_redo_7 (fun c5 => ?_) (fun c5 => ?_)
  · refine wq_sipush (z := -1002) (zlit rfl) rfl dX10_redo_28 ?_
    exact wp_iret rfl dX10_redo_31 (q3.1 c5)
  · refine wq_aload_n 0 rfl rfl dX10_redo_10 ?_
    refine wq_getR fk_X10_36 tT_1 (fun _ _ _ => rfl) (sh_10_4 hS4) (by decide) dX10_redo_11 ?_
    refine wq_getI fk_X10_245 tT_13 (fun _ _ _ => rfl) dX10_redo_14 ?_
    refine wq_aload_n 0 rfl rfl dX10_redo_17 ?_
    refine wq_getR fk_X10_36 tT_1 (fun _ _ _ => rfl) (sh_10_4 hS4) (by decide) dX10_redo_18 ?_
    refine wq_getI fk_X10_239 tT_13 (fun _ _ _ => rfl) dX10_redo_21 ?_
    refine wq_isub (q3.2 c5).1 dX10_redo_24 ?_
    refine wq_goto 31 rfl dX10_redo_25 ?_
    exact wp_iret rfl dX10_redo_31 (q3.2 c5).2
theorem dX10_mark_0 : decode cX10_mark 0 = .ok (.aload_n 0, 1) := by decide +kernel
theorem dX10_mark_1 : decode cX10_mark 1 = .ok (.getfield 21, 3) := by decide +kernel
theorem dX10_mark_4 : decode cX10_mark 4 = .ok (.aload_n 0, 1) := by decide +kernel
theorem dX10_mark_5 : decode cX10_mark 5 = .ok (.getfield 27, 3) := by decide +kernel
theorem dX10_mark_8 : decode cX10_mark 8 = .ok (.getfield 69, 3) := by decide +kernel
theorem dX10_mark_11 : decode cX10_mark 11 = .ok (.iconst 0, 1) := by decide +kernel
theorem dX10_mark_12 : decode cX10_mark 12 = .ok (.aload_n 0, 1) := by decide +kernel
theorem dX10_mark_13 : decode cX10_mark 13 = .ok (.getfield 27, 3) := by decide +kernel
theorem dX10_mark_16 : decode cX10_mark 16 = .ok (.getfield 69, 3) := by decide +kernel
theorem dX10_mark_19 : decode cX10_mark 19 = .ok (.getfield 95, 3) := by decide +kernel
theorem dX10_mark_22 : decode cX10_mark 22 = .ok (.invokevirtual 146, 3) := by decide +kernel
theorem dX10_mark_25 : decode cX10_mark 25 = .ok (.aload_n 0, 1) := by decide +kernel
theorem dX10_mark_26 : decode cX10_mark 26 = .ok (.getfield 21, 3) := by decide +kernel
theorem dX10_mark_29 : decode cX10_mark 29 = .ok (.getfield 95, 3) := by decide +kernel
theorem dX10_mark_32 : decode cX10_mark 32 = .ok (.ireturn, 1) := by decide +kernel
theorem vc_X10_mark_0 {G : zG} {d : Nat} {Q : Option zV → zHp → Prop}  (h : zHp) (hS : zSh h) (hd : 2 ≤ d)  
    (hv : (wpN G (d - 1) M_X0_become 0 (zar 0 [vR 6, vR 9, vI 0, vI (gI h 9 1)]) [] h (qV (fun h2 => zSh h2 ∧ Q (some (vI (gI h2 6 1))) h2)))) : wpN G d M_X10_mark 0 [(0, vR 1)] [] h Q := by
  refine wq_aload_n 0 rfl rfl dX10_mark_0 ?_
  refine wq_getR fk_X10_21 tT_1 (fun _ _ _ => rfl) (sh_10_2 hS) (by decide) dX10_mark_1 ?_
  refine wq_aload_n 0 rfl rfl dX10_mark_4 ?_
  refine wq_getR fk_X10_27 tT_1 (fun _ _ _ => rfl) (sh_10_3 hS) (by decide) dX10_mark_5 ?_
  refine wq_getR (r := 9) fk_X10_69 tT_8 (fun _ _ _ => rfl) (sh_2_0 hS tT_8) (by decide) dX10_mark_8 ?_
  refine wq_iconst (z := 0) (zlit rfl) dX10_mark_11 ?_
  refine wq_aload_n 0 rfl rfl dX10_mark_12 ?_
  refine wq_getR fk_X10_27 tT_1 (fun _ _ _ => rfl) (sh_10_3 hS) (by decide) dX10_mark_13 ?_
  refine wq_getR (r := 9) fk_X10_69 tT_8 (fun _ _ _ => rfl) (sh_2_0 hS tT_8) (by decide) dX10_mark_16 ?_
  refine wq_getI fk_X10_95 tT_9 (fun _ _ _ => rfl) dX10_mark_19 ?_
  refine wN_V (As := [vR 9, vI 0, vI (gI h 9 1)]) vm_X0_become lk_X10_146 tT_6 rfl rfl (Nat.le_of_ble_eq_true rfl) (Nat.le_of_ble_eq_true rfl) (d' := d - 1) (by omega) dX10_mark_22 hv (fun v9 h2 q3 => ?_)
  obtain ⟨rfl, hS4, q3⟩ := q3
  refine wq_st (st' := []) rfl ?_
  refine wq_aload_n 0 rfl rfl dX10_mark_25 ?_
  refine wq_getR fk_X10_21 tT_1 (fun _ _ _ => rfl) (sh_10_2 hS4) (by decide) dX10_mark_26 ?_
  refine wq_getI fk_X10_95 tT_6 (fun _ _ _ => rfl) dX10_mark_29 ?_
  exact wp_iret rfl dX10_mark_32 q3
theorem dX10_difference_0 : decode cX10_difference 0 = .ok (.iload_n 1, 1) := by decide +kernel
theorem dX10_difference_1 : decode cX10_difference 1 = .ok (.iconst 0, 1) := by decide +kernel
theorem dX10_difference_2 : decode cX10_difference 2 = .ok (.sipush 200, 3) := by decide +kernel
theorem dX10_difference_5 : decode cX10_difference 5 = .ok (.invokestatic 87, 3) := by decide +kernel
theorem dX10_difference_8 : decode cX10_difference 8 = .ok (.ifCond .ne 7, 3) := by decide +kernel
theorem dX10_difference_11 : decode cX10_difference 11 = .ok (.sipush (-1001), 3) := by decide +kernel
theorem dX10_difference_14 : decode cX10_difference 14 = .ok (.ireturn, 1) := by decide +kernel
theorem dX10_difference_15 : decode cX10_difference 15 = .ok (.aload_n 0, 1) := by decide +kernel
theorem dX10_difference_16 : decode cX10_difference 16 = .ok (.getfield 27, 3) := by decide +kernel
theorem dX10_difference_19 : decode cX10_difference 19 = .ok (.getfield 69, 3) := by decide +kernel
theorem dX10_difference_22 : decode cX10_difference 22 = .ok (.getfield 95, 3) := by decide +kernel
theorem dX10_difference_25 : decode cX10_difference 25 = .ok (.aload_n 0, 1) := by decide +kernel
theorem dX10_difference_26 : decode cX10_difference 26 = .ok (.getfield 21, 3) := by decide +kernel
theorem dX10_difference_29 : decode cX10_difference 29 = .ok (.getfield 95, 3) := by decide +kernel
theorem dX10_difference_32 : decode cX10_difference 32 = .ok (.invokestatic 248, 3) := by decide +kernel
theorem dX10_difference_35 : decode cX10_difference 35 = .ok (.istore_n 2, 1) := by decide +kernel
theorem dX10_difference_36 : decode cX10_difference 36 = .ok (.iload_n 1, 1) := by decide +kernel
theorem dX10_difference_37 : decode cX10_difference 37 = .ok (.istore_n 3, 1) := by decide +kernel
theorem dX10_difference_38 : decode cX10_difference 38 = .ok (.iload_n 3, 1) := by decide +kernel
theorem dX10_difference_39 : decode cX10_difference 39 = .ok (.iload_n 2, 1) := by decide +kernel
theorem dX10_difference_40 : decode cX10_difference 40 = .ok (.if_icmp .ge 33, 3) := by decide +kernel
theorem dX10_difference_43 : decode cX10_difference 43 = .ok (.aload_n 0, 1) := by decide +kernel
theorem dX10_difference_44 : decode cX10_difference 44 = .ok (.getfield 27, 3) := by decide +kernel
theorem dX10_difference_47 : decode cX10_difference 47 = .ok (.getfield 69, 3) := by decide +kernel
theorem dX10_difference_50 : decode cX10_difference 50 = .ok (.iload_n 3, 1) := by decide +kernel
theorem dX10_difference_51 : decode cX10_difference 51 = .ok (.invokevirtual 119, 3) := by decide +kernel
theorem dX10_difference_54 : decode cX10_difference 54 = .ok (.aload_n 0, 1) := by decide +kernel
theorem dX10_difference_55 : decode cX10_difference 55 = .ok (.getfield 21, 3) := by decide +kernel
theorem dX10_difference_58 : decode cX10_difference 58 = .ok (.iload_n 3, 1) := by decide +kernel
theorem dX10_difference_59 : decode cX10_difference 59 = .ok (.invokevirtual 119, 3) := by decide +kernel
theorem dX10_difference_62 : decode cX10_difference 62 = .ok (.if_icmp .eq 5, 3) := by decide +kernel
theorem dX10_difference_65 : decode cX10_difference 65 = .ok (.iload_n 3, 1) := by decide +kernel
theorem dX10_difference_66 : decode cX10_difference 66 = .ok (.ireturn, 1) := by decide +kernel
theorem dX10_difference_67 : decode cX10_difference 67 = .ok (.iinc 3 1, 3) := by decide +kernel
theorem dX10_difference_70 : decode cX10_difference 70 = .ok (.goto (-32), 3) := by decide +kernel
theorem dX10_difference_73 : decode cX10_difference 73 = .ok (.sipush (-1009), 3) := by decide +kernel
theorem dX10_difference_76 : decode cX10_difference 76 = .ok (.ireturn, 1) := by decide +kernel
theorem vc_X10_difference_0 {G : zG} {d : Nat} {Q : Option zV → zHp → Prop} (p1 : Int) (h : zHp) (hS : zSh h) (hd : 1 ≤ d) (I_38 : Int → Int → Int → zHp → Prop) (hI_38 : ∀ (y1 : Int) (y2 : Int) (y3 : Int) (h' : zHp), I_38 y1 y2 y3 h' → wpN G d M_X10_difference 38 [(0, vR 1), (1, vI y1), (2, vI y2), (3, vI y3)] [] h' Q) 
    (hv : (wpN G (d - 1) M_X10_isWithin 0 (zar 0 [vI p1, vI 0, vI 200]) [] h (qI (fun z1 h2 => zSh h2 ∧ ((z1 ≠ 0 → (wpN G (d - 1) M_J9_max_7cf53 0 (zar 0 [vI (gI h2 9 1), vI (gI h2 6 1)]) [] h2 (qI (fun z6 h7 => zSh h7 ∧ (zSh h7 → I_38 p1 z6 p1 h7))))) ∧ (z1 = 0 → Q (some (vI (-1001))) h2)))))) : wpN G d M_X10_difference 0 [(0, vR 1), (1, vI p1)] [] h Q := by
  refine wq_iload_n 1 rfl rfl dX10_difference_0 ?_
  refine wq_iconst (z := 0) (zlit rfl) dX10_difference_1 ?_
  refine wq_sipush (z := 200) (zlit rfl) rfl dX10_difference_2 ?_
  refine wN_S (As := [vI p1, vI 0, vI 200]) md_X10_isWithin ms_X10_isWithin lk_X10_87 rfl rfl (Nat.le_of_ble_eq_true rfl) (Nat.le_of_ble_eq_true rfl) (d' := d - 1) (by omega) dX10_difference_5 hv (fun v9 h2 q3 => ?_)
  obtain ⟨z1, rfl, hS4, q3⟩ := q3
  refine wq_st (st' := [vI z1]) rfl ?_
  refine wq_if_ne 15 rfl dX10_difference_8 (fun c5 => ?_) (fun c5 => ?_)
  · refine wq_aload_n 0 rfl rfl dX10_difference_15 ?_
    refine wq_getR fk_X10_27 tT_1 (fun _ _ _ => rfl) (sh_10_3 hS4) (by decide) dX10_difference_16 ?_
    refine wq_getR (r := 9) fk_X10_69 tT_8 (fun _ _ _ => rfl) (sh_2_0 hS4 tT_8) (by decide) dX10_difference_19 ?_
    refine wq_getI fk_X10_95 tT_9 (fun _ _ _ => rfl) dX10_difference_22 ?_
    refine wq_aload_n 0 rfl rfl dX10_difference_25 ?_
    refine wq_getR fk_X10_21 tT_1 (fun _ _ _ => rfl) (sh_10_2 hS4) (by decide) dX10_difference_26 ?_
    refine wq_getI fk_X10_95 tT_6 (fun _ _ _ => rfl) dX10_difference_29 ?_
    refine wN_S (As := [vI (gI h2 9 1), vI (gI h2 6 1)]) md_J9_max_7cf53 ms_J9_max_7cf53 lk_X10_248 rfl rfl (Nat.le_of_ble_eq_true rfl) (Nat.le_of_ble_eq_true rfl) (d' := d - 1) (by omega) dX10_difference_32 (q3.1 c5) (fun v9 h7 q8 => ?_)
    obtain ⟨z6, rfl, hS9, q8⟩ := q8
    refine wq_st (st' := [vI z6]) rfl ?_
    refine wq_istore_n (ls' := [(0, vR 1), (1, vI p1), (2, vI z6)]) rfl (by decide) rfl dX10_difference_35 ?_
    refine wq_iload_n 1 rfl rfl dX10_difference_36 ?_
    refine wq_istore_n (ls' := [(0, vR 1), (1, vI p1), (2, vI z6), (3, vI p1)]) rfl (by decide) rfl dX10_difference_37 ?_
    exact wq_pick [0, 1, 2, 3] rfl (hI_38 p1 z6 p1 h7 (q8 hS9))
  · refine wq_sipush (z := -1001) (zlit rfl) rfl dX10_difference_11 ?_
    exact wp_iret rfl dX10_difference_14 (q3.2 c5)
theorem vc_X10_difference_38 {G : zG} {d : Nat} {Q : Option zV → zHp → Prop} (y1 : Int) (y2 : Int) (y3 : Int) (h : zHp) (hS : zSh h) (hd : 1 ≤ d) (I_38 : Int → Int → Int → zHp → Prop) (hI_38 : ∀ (y1 : Int) (y2 : Int) (y3 : Int) (h' : zHp), I_38 y1 y2 y3 h' → wpN G d M_X10_difference 38 [(0, vR 1), (1, vI y1), (2, vI y2), (3, vI y3)] [] h' Q) 
    (hv : ((y2 ≤ y3 → Q (some (vI (-1009))) h) ∧ (y3 < y2 → (wpN G (d - 1) M_X0_get 0 (zar 0 [vR 9, vI y3]) [] h (qI (fun z2 h3 => zSh h3 ∧ (wpN G (d - 1) M_X0_get 0 (zar 0 [vR 6, vI y3]) [] h3 (qI (fun z6 h7 => zSh h7 ∧ ((z2 = z6 → ((-2147483648 ≤ y3 + 1 ∧ y3 + 1 ≤ 2147483647) ∧ ∀ x11 : Int, x11 = y3 + 1 → (zSh h7 → I_38 y1 y2 x11 h7))) ∧ (z2 ≠ z6 → Q (some (vI y3)) h7))))))))))) : wpN G d M_X10_difference 38 [(0, vR 1), (1, vI y1), (2, vI y2), (3, vI y3)] [] h Q := by
  refine wq_iload_n 3 rfl rfl dX10_difference_38 ?_
  refine wq_iload_n 2 rfl rfl dX10_difference_39 ?_
  refine wq_icmp_ge 73 rfl dX10_difference_40 (fun c1 => ?_) (fun c1 => ?_)
  · refine wq_sipush (z := -1009) (zlit rfl) rfl dX10_difference_73 ?_
    exact wp_iret rfl dX10_difference_76 (hv.1 c1)
  · refine wq_aload_n 0 rfl rfl dX10_difference_43 ?_
    refine wq_getR fk_X10_27 tT_1 (fun _ _ _ => rfl) (sh_10_3 hS) (by decide) dX10_difference_44 ?_
    refine wq_getR (r := 9) fk_X10_69 tT_8 (fun _ _ _ => rfl) (sh_2_0 hS tT_8) (by decide) dX10_difference_47 ?_
    refine wq_iload_n 3 rfl rfl dX10_difference_50 ?_
    refine wN_V (As := [vI y3]) vm_X0_get lk_X10_119 tT_9 rfl rfl (Nat.le_of_ble_eq_true rfl) (Nat.le_of_ble_eq_true rfl) (d' := d - 1) (by omega) dX10_difference_51 (hv.2 c1) (fun v9 h3 q4 => ?_)
    obtain ⟨z2, rfl, hS5, q4⟩ := q4
    refine wq_st (st' := [vI z2]) rfl ?_
    refine wq_aload_n 0 rfl rfl dX10_difference_54 ?_
    refine wq_getR fk_X10_21 tT_1 (fun _ _ _ => rfl) (sh_10_2 hS5) (by decide) dX10_difference_55 ?_
    refine wq_iload_n 3 rfl rfl dX10_difference_58 ?_
    refine wN_V (As := [vI y3]) vm_X0_get lk_X10_119 tT_6 rfl rfl (Nat.le_of_ble_eq_true rfl) (Nat.le_of_ble_eq_true rfl) (d' := d - 1) (by omega) dX10_difference_59 q4 (fun v9 h7 q8 => ?_)
    obtain ⟨z6, rfl, hS9, q8⟩ := q8
    refine wq_st (st' := [vI z6, vI z2]) rfl ?_
    refine wq_icmp_eq 67 rfl dX10_difference_62 (fun c10 => ?_) (fun c10 => ?_)
    · refine z_nm (y3 + 1) (fun x11 e12 => ?_)
      refine wq_iinc (y := x11) (ls' := [(0, vR 1), (1, vI y1), (2, vI y2), (3, vI x11)]) 3 rfl e12.symm (by rw [e12]; exact (q8.1 c10).1) (by decide) rfl dX10_difference_67 ?_
      refine wq_goto 38 rfl dX10_difference_70 ?_
      exact wq_pick [0, 1, 2, 3] rfl (hI_38 y1 y2 x11 h7 (((q8.1 c10).2 x11 e12) hS9))
    · refine wq_iload_n 3 rfl rfl dX10_difference_65 ?_
      exact wp_iret rfl dX10_difference_66 (q8.2 c10)
theorem dX10_distance_0 : decode cX10_distance 0 = .ok (.aload_n 0, 1) := by decide +kernel
theorem dX10_distance_1 : decode cX10_distance 1 = .ok (.getfield 27, 3) := by decide +kernel
theorem dX10_distance_4 : decode cX10_distance 4 = .ok (.getfield 69, 3) := by decide +kernel
theorem dX10_distance_7 : decode cX10_distance 7 = .ok (.getfield 95, 3) := by decide +kernel
theorem dX10_distance_10 : decode cX10_distance 10 = .ok (.aload_n 0, 1) := by decide +kernel
theorem dX10_distance_11 : decode cX10_distance 11 = .ok (.getfield 79, 3) := by decide +kernel
theorem dX10_distance_14 : decode cX10_distance 14 = .ok (.arraylength, 1) := by decide +kernel
theorem dX10_distance_15 : decode cX10_distance 15 = .ok (.iconst 1, 1) := by decide +kernel
theorem dX10_distance_16 : decode cX10_distance 16 = .ok (.isub, 1) := by decide +kernel
theorem dX10_distance_17 : decode cX10_distance 17 = .ok (.invokestatic 140, 3) := by decide +kernel
theorem dX10_distance_20 : decode cX10_distance 20 = .ok (.istore_n 1, 1) := by decide +kernel
theorem dX10_distance_21 : decode cX10_distance 21 = .ok (.iconst 0, 1) := by decide +kernel
theorem dX10_distance_22 : decode cX10_distance 22 = .ok (.istore_n 2, 1) := by decide +kernel
theorem dX10_distance_23 : decode cX10_distance 23 = .ok (.iload_n 2, 1) := by decide +kernel
theorem dX10_distance_24 : decode cX10_distance 24 = .ok (.iload_n 1, 1) := by decide +kernel
theorem dX10_distance_25 : decode cX10_distance 25 = .ok (.if_icmp .gt 16, 3) := by decide +kernel
theorem dX10_distance_28 : decode cX10_distance 28 = .ok (.aload_n 0, 1) := by decide +kernel
theorem dX10_distance_29 : decode cX10_distance 29 = .ok (.getfield 79, 3) := by decide +kernel
theorem dX10_distance_32 : decode cX10_distance 32 = .ok (.iload_n 2, 1) := by decide +kernel
theorem dX10_distance_33 : decode cX10_distance 33 = .ok (.iload_n 2, 1) := by decide +kernel
theorem dX10_distance_34 : decode cX10_distance 34 = .ok (.iastore, 1) := by decide +kernel
theorem dX10_distance_35 : decode cX10_distance 35 = .ok (.iinc 2 1, 3) := by decide +kernel
theorem dX10_distance_38 : decode cX10_distance 38 = .ok (.goto (-15), 3) := by decide +kernel
theorem dX10_distance_41 : decode cX10_distance 41 = .ok (.iconst 1, 1) := by decide +kernel
theorem dX10_distance_42 : decode cX10_distance 42 = .ok (.istore_n 2, 1) := by decide +kernel
theorem dX10_distance_43 : decode cX10_distance 43 = .ok (.iload_n 2, 1) := by decide +kernel
theorem dX10_distance_44 : decode cX10_distance 44 = .ok (.aload_n 0, 1) := by decide +kernel
theorem dX10_distance_45 : decode cX10_distance 45 = .ok (.getfield 21, 3) := by decide +kernel
theorem dX10_distance_48 : decode cX10_distance 48 = .ok (.getfield 95, 3) := by decide +kernel
theorem dX10_distance_51 : decode cX10_distance 51 = .ok (.if_icmp .gt 15, 3) := by decide +kernel
theorem dX10_distance_54 : decode cX10_distance 54 = .ok (.aload_n 0, 1) := by decide +kernel
theorem dX10_distance_55 : decode cX10_distance 55 = .ok (.iload_n 2, 1) := by decide +kernel
theorem dX10_distance_56 : decode cX10_distance 56 = .ok (.iload_n 1, 1) := by decide +kernel
theorem dX10_distance_57 : decode cX10_distance 57 = .ok (.invokevirtual 251, 3) := by decide +kernel
theorem dX10_distance_60 : decode cX10_distance 60 = .ok (.iinc 2 1, 3) := by decide +kernel
theorem dX10_distance_63 : decode cX10_distance 63 = .ok (.goto (-20), 3) := by decide +kernel
theorem dX10_distance_66 : decode cX10_distance 66 = .ok (.aload_n 0, 1) := by decide +kernel
theorem dX10_distance_67 : decode cX10_distance 67 = .ok (.getfield 79, 3) := by decide +kernel
theorem dX10_distance_70 : decode cX10_distance 70 = .ok (.iload_n 1, 1) := by decide +kernel
theorem dX10_distance_71 : decode cX10_distance 71 = .ok (.iaload, 1) := by decide +kernel
theorem dX10_distance_72 : decode cX10_distance 72 = .ok (.ireturn, 1) := by decide +kernel
theorem vc_X10_distance_0 {G : zG} {d : Nat} {Q : Option zV → zHp → Prop}  (h : zHp) (hS : zSh h) (hd : 2 ≤ d) (I_23 : Int → Int → zHp → Prop) (hI_23 : ∀ (y1 : Int) (y2 : Int) (h' : zHp), I_23 y1 y2 h' → wpN G d M_X10_distance 23 [(0, vR 1), (1, vI y1), (2, vI y2)] [] h' Q) 
    (hv : ((-2147483648 ≤ ((201 : Nat) : Int) - 1 ∧ ((201 : Nat) : Int) - 1 ≤ 2147483647) ∧ (wpN G (d - 1) M_J9_min_7cf53 0 (zar 0 [vI (gI h 9 1), vI (((201 : Nat) : Int) - 1)]) [] h (qI (fun z1 h2 => zSh h2 ∧ (zSh h2 → I_23 z1 0 h2)))))) : wpN G d M_X10_distance 0 [(0, vR 1)] [] h Q := by
  refine wq_aload_n 0 rfl rfl dX10_distance_0 ?_
  refine wq_getR fk_X10_27 tT_1 (fun _ _ _ => rfl) (sh_10_3 hS) (by decide) dX10_distance_1 ?_
  refine wq_getR (r := 9) fk_X10_69 tT_8 (fun _ _ _ => rfl) (sh_2_0 hS tT_8) (by decide) dX10_distance_4 ?_
  refine wq_getI fk_X10_95 tT_9 (fun _ _ _ => rfl) dX10_distance_7 ?_
  refine wq_aload_n 0 rfl rfl dX10_distance_10 ?_
  refine wq_getR fk_X10_79 tT_1 (fun _ _ _ => rfl) (sh_10_9 hS) (by decide) dX10_distance_11 ?_
  refine wq_alen tT_342 (by decide) (by decide) dX10_distance_14 ?_
  refine wq_iconst (z := 1) (zlit rfl) dX10_distance_15 ?_
  refine wq_isub hv.1 dX10_distance_16 ?_
  refine wN_S (As := [vI (gI h 9 1), vI (((201 : Nat) : Int) - 1)]) md_J9_min_7cf53 ms_J9_min_7cf53 lk_X10_140 rfl rfl (Nat.le_of_ble_eq_true rfl) (Nat.le_of_ble_eq_true rfl) (d' := d - 1) (by omega) dX10_distance_17 hv.2 (fun v9 h2 q3 => ?_)
  obtain ⟨z1, rfl, hS4, q3⟩ := q3
  refine wq_st (st' := [vI z1]) rfl ?_
  refine wq_istore_n (ls' := [(0, vR 1), (1, vI z1)]) rfl (by decide) rfl dX10_distance_20 ?_
  refine wq_iconst (z := 0) (zlit rfl) dX10_distance_21 ?_
  refine wq_istore_n (ls' := [(0, vR 1), (1, vI z1), (2, vI 0)]) rfl (by decide) rfl dX10_distance_22 ?_
  exact wq_pick [0, 1, 2] rfl (hI_23 z1 0 h2 (q3 hS4))
theorem vc_X10_distance_23 {G : zG} {d : Nat} {Q : Option zV → zHp → Prop} (y1 : Int) (y2 : Int) (h : zHp) (hS : zSh h) (hd : 2 ≤ d) (I_23 : Int → Int → zHp → Prop) (hI_23 : ∀ (y1 : Int) (y2 : Int) (h' : zHp), I_23 y1 y2 h' → wpN G d M_X10_distance 23 [(0, vR 1), (1, vI y1), (2, vI y2)] [] h' Q) (I_43 : Int → Int → zHp → Prop) (hI_43 : ∀ (y1 : Int) (y2 : Int) (h' : zHp), I_43 y1 y2 h' → wpN G d M_X10_distance 43 [(0, vR 1), (1, vI y1), (2, vI y2)] [] h' Q) 
    (hv : ((y1 < y2 → (zSh h → I_43 y1 1 h)) ∧ (y2 ≤ y1 → (((0 : Int) ≤ y2 ∧ y2 < ((201 : Nat) : Int)) ∧ (∀ h2 : zHp, h2 = sI h 342 y2.toNat y2 → ((-2147483648 ≤ y2 + 1 ∧ y2 + 1 ≤ 2147483647) ∧ ∀ x4 : Int, x4 = y2 + 1 → (zSh h2 → I_23 y1 x4 h2))))))) : wpN G d M_X10_distance 23 [(0, vR 1), (1, vI y1), (2, vI y2)] [] h Q := by
  refine wq_iload_n 2 rfl rfl dX10_distance_23 ?_
  refine wq_iload_n 1 rfl rfl dX10_distance_24 ?_
  refine wq_icmp_gt 41 rfl dX10_distance_25 (fun c1 => ?_) (fun c1 => ?_)
  · refine wq_iconst (z := 1) (zlit rfl) dX10_distance_41 ?_
    refine wq_istore_n (ls' := [(0, vR 1), (1, vI y1), (2, vI 1)]) rfl (by decide) rfl dX10_distance_42 ?_
    exact wq_pick [0, 1, 2] rfl (hI_43 y1 1 h ((hv.1 c1) hS))
  · refine wq_aload_n 0 rfl rfl dX10_distance_28 ?_
    refine wq_getR fk_X10_79 tT_1 (fun _ _ _ => rfl) (sh_10_9 hS) (by decide) dX10_distance_29 ?_
    refine wq_iload_n 2 rfl rfl dX10_distance_32 ?_
    refine wq_iload_n 2 rfl rfl dX10_distance_33 ?_
    refine wq_iast tT_342 (hv.2 c1).1.1 (hv.2 c1).1.2 dX10_distance_34 ?_
    refine wq_toph (fun h2 e3 => ?_)
    have sh2 : zSh h2 := zSh_of e3 hS
    refine z_nm (y2 + 1) (fun x4 e5 => ?_)
    refine wq_iinc (y := x4) (ls' := [(0, vR 1), (1, vI y1), (2, vI x4)]) 2 rfl e5.symm (by rw [e5]; exact ((hv.2 c1).2 h2 e3).1) (by decide) rfl dX10_distance_35 ?_
    refine wq_goto 23 rfl dX10_distance_38 ?_
    exact wq_pick [0, 1, 2] rfl (hI_23 y1 x4 h2 ((((hv.2 c1).2 h2 e3).2 x4 e5) sh2))
theorem vc_X10_distance_43 {G : zG} {d : Nat} {Q : Option zV → zHp → Prop} (y1 : Int) (y2 : Int) (h : zHp) (hS : zSh h) (hd : 2 ≤ d) (I_43 : Int → Int → zHp → Prop) (hI_43 : ∀ (y1 : Int) (y2 : Int) (h' : zHp), I_43 y1 y2 h' → wpN G d M_X10_distance 43 [(0, vR 1), (1, vI y1), (2, vI y2)] [] h' Q) 
    (hv : (((gI h 6 1) < y2 → (((0 : Int) ≤ y1 ∧ y1 < ((201 : Nat) : Int)) ∧ Q (some (vI (gI h 342 y1.toNat))) h)) ∧ (y2 ≤ (gI h 6 1) → (wpN G (d - 1) M_X10_nextDistances 0 (zar 0 [vR 1, vI y2, vI y1]) [] h (qV (fun h3 => zSh h3 ∧ ((-2147483648 ≤ y2 + 1 ∧ y2 + 1 ≤ 2147483647) ∧ ∀ x6 : Int, x6 = y2 + 1 → (zSh h3 → I_43 y1 x6 h3)))))))) : wpN G d M_X10_distance 43 [(0, vR 1), (1, vI y1), (2, vI y2)] [] h Q := by
  refine wq_iload_n 2 rfl rfl dX10_distance_43 ?_
  refine wq_aload_n 0 rfl rfl dX10_distance_44 ?_
  refine wq_getR fk_X10_21 tT_1 (fun _ _ _ => rfl) (sh_10_2 hS) (by decide) dX10_distance_45 ?_
  refine wq_getI fk_X10_95 tT_6 (fun _ _ _ => rfl) dX10_distance_48 ?_
  refine wq_icmp_gt 66 rfl dX10_distance_51 (fun c1 => ?_) (fun c1 => ?_)
  · refine wq_aload_n 0 rfl rfl dX10_distance_66 ?_
    refine wq_getR fk_X10_79 tT_1 (fun _ _ _ => rfl) (sh_10_9 hS) (by decide) dX10_distance_67 ?_
    refine wq_iload_n 1 rfl rfl dX10_distance_70 ?_
    refine wq_iald tT_342 (hv.1 c1).1.1 (hv.1 c1).1.2 dX10_distance_71 ?_
    exact wp_iret rfl dX10_distance_72 (hv.1 c1).2
  · refine wq_aload_n 0 rfl rfl dX10_distance_54 ?_
    refine wq_iload_n 2 rfl rfl dX10_distance_55 ?_
    refine wq_iload_n 1 rfl rfl dX10_distance_56 ?_
    refine wN_V (As := [vI y2, vI y1]) vm_X10_nextDistances lk_X10_251 tT_1 rfl rfl (Nat.le_of_ble_eq_true rfl) (Nat.le_of_ble_eq_true rfl) (d' := d - 1) (by omega) dX10_distance_57 (hv.2 c1) (fun v9 h3 q4 => ?_)
    obtain ⟨rfl, hS5, q4⟩ := q4
    refine wq_st (st' := []) rfl ?_
    refine z_nm (y2 + 1) (fun x6 e7 => ?_)
    refine wq_iinc (y := x6) (ls' := [(0, vR 1), (1, vI y1), (2, vI x6)]) 2 rfl e7.symm (by rw [e7]; exact q4.1) (by decide) rfl dX10_distance_60 ?_
    refine wq_goto 43 rfl dX10_distance_63 ?_
    exact wq_pick [0, 1, 2] rfl (hI_43 y1 x6 h3 ((q4.2 x6 e7) hS5))
theorem dX10_count_0 : decode cX10_count 0 = .ok (.iload_n 1, 1) := by decide +kernel
theorem dX10_count_1 : decode cX10_count 1 = .ok (.iconst 0, 1) := by decide +kernel
theorem dX10_count_2 : decode cX10_count 2 = .ok (.bipush 7, 2) := by decide +kernel
theorem dX10_count_4 : decode cX10_count 4 = .ok (.invokestatic 87, 3) := by decide +kernel
theorem dX10_count_7 : decode cX10_count 7 = .ok (.ifCond .eq 11, 3) := by decide +kernel
theorem dX10_count_10 : decode cX10_count 10 = .ok (.aload_n 0, 1) := by decide +kernel
theorem dX10_count_11 : decode cX10_count 11 = .ok (.iload_n 1, 1) := by decide +kernel
theorem dX10_count_12 : decode cX10_count 12 = .ok (.invokevirtual 254, 3) := by decide +kernel
theorem dX10_count_15 : decode cX10_count 15 = .ok (.goto 6, 3) := by decide +kernel
theorem dX10_count_18 : decode cX10_count 18 = .ok (.sipush (-1001), 3) := by decide +kernel
theorem dX10_count_21 : decode cX10_count 21 = .ok (.ireturn, 1) := by decide +kernel
theorem vc_X10_count_0 {G : zG} {d : Nat} {Q : Option zV → zHp → Prop} (p1 : Int) (h : zHp) (hS : zSh h) (hd : 8 ≤ d)  
    (hv : (wpN G (d - 1) M_X10_isWithin 0 (zar 0 [vI p1, vI 0, vI 7]) [] h (qI (fun z1 h2 => zSh h2 ∧ ((z1 = 0 → Q (some (vI (-1001))) h2) ∧ (z1 ≠ 0 → (wpN G (d - 1) M_X10_numberOf 0 (zar 0 [vR 1, vI p1]) [] h2 (qI (fun z6 h7 => zSh h7 ∧ Q (some (vI z6)) h7))))))))) : wpN G d M_X10_count 0 [(0, vR 1), (1, vI p1)] [] h Q := by
  refine wq_iload_n 1 rfl rfl dX10_count_0 ?_
  refine wq_iconst (z := 0) (zlit rfl) dX10_count_1 ?_
  refine wq_bipush (z := 7) (zlit rfl) rfl dX10_count_2 ?_
  refine wN_S (As := [vI p1, vI 0, vI 7]) md_X10_isWithin ms_X10_isWithin lk_X10_87 rfl rfl (Nat.le_of_ble_eq_true rfl) (Nat.le_of_ble_eq_true rfl) (d' := d - 1) (by omega) dX10_count_4 hv (fun v9 h2 q3 => ?_)
  obtain ⟨z1, rfl, hS4, q3⟩ := q3
  refine wq_st (st' := [vI z1]) rfl ?_
  refine wq_if_eq 18 rfl dX10_count_7 (fun c5 => ?_) (fun c5 => ?_)
  · refine wq_sipush (z := -1001) (zlit rfl) rfl dX10_count_18 ?_
    exact wp_iret rfl dX10_count_21 (q3.1 c5)
  · refine wq_aload_n 0 rfl rfl dX10_count_10 ?_
    refine wq_iload_n 1 rfl rfl dX10_count_11 ?_
    refine wN_V (As := [vI p1]) vm_X10_numberOf lk_X10_254 tT_1 rfl rfl (Nat.le_of_ble_eq_true rfl) (Nat.le_of_ble_eq_true rfl) (d' := d - 1) (by omega) dX10_count_12 (q3.2 c5) (fun v9 h7 q8 => ?_)
    obtain ⟨z6, rfl, hS9, q8⟩ := q8
    refine wq_st (st' := [vI z6]) rfl ?_
    refine wq_goto 21 rfl dX10_count_15 ?_
    exact wp_iret rfl dX10_count_21 q8
