theorem dX7_faultOf_0 : decode cX7_faultOf 0 = .ok (.aload_n 0, 1) := by decide +kernel
theorem dX7_faultOf_1 : decode cX7_faultOf 1 = .ok (.iconst 0, 1) := by decide +kernel
theorem dX7_faultOf_2 : decode cX7_faultOf 2 = .ok (.putfield 18, 3) := by decide +kernel
theorem dX7_faultOf_5 : decode cX7_faultOf 5 = .ok (.iconst 0, 1) := by decide +kernel
theorem dX7_faultOf_6 : decode cX7_faultOf 6 = .ok (.istore_n 2, 1) := by decide +kernel
theorem dX7_faultOf_7 : decode cX7_faultOf 7 = .ok (.iload_n 2, 1) := by decide +kernel
theorem dX7_faultOf_8 : decode cX7_faultOf 8 = .ok (.aload_n 1, 1) := by decide +kernel
theorem dX7_faultOf_9 : decode cX7_faultOf 9 = .ok (.getfield 22, 3) := by decide +kernel
theorem dX7_faultOf_12 : decode cX7_faultOf 12 = .ok (.if_icmp .ge 103, 3) := by decide +kernel
theorem dX7_faultOf_15 : decode cX7_faultOf 15 = .ok (.aload_n 1, 1) := by decide +kernel
theorem dX7_faultOf_16 : decode cX7_faultOf 16 = .ok (.iload_n 2, 1) := by decide +kernel
theorem dX7_faultOf_17 : decode cX7_faultOf 17 = .ok (.invokevirtual 27, 3) := by decide +kernel
theorem dX7_faultOf_20 : decode cX7_faultOf 20 = .ok (.bipush 32, 2) := by decide +kernel
theorem dX7_faultOf_22 : decode cX7_faultOf 22 = .ok (.if_icmp .ne 9, 3) := by decide +kernel
theorem dX7_faultOf_25 : decode cX7_faultOf 25 = .ok (.iinc 2 1, 3) := by decide +kernel
theorem dX7_faultOf_28 : decode cX7_faultOf 28 = .ok (.goto (-21), 3) := by decide +kernel
theorem dX7_faultOf_31 : decode cX7_faultOf 31 = .ok (.aload_n 1, 1) := by decide +kernel
theorem dX7_faultOf_32 : decode cX7_faultOf 32 = .ok (.iload_n 2, 1) := by decide +kernel
theorem dX7_faultOf_33 : decode cX7_faultOf 33 = .ok (.invokevirtual 27, 3) := by decide +kernel
theorem dX7_faultOf_36 : decode cX7_faultOf 36 = .ok (.invokestatic 31, 3) := by decide +kernel
theorem dX7_faultOf_39 : decode cX7_faultOf 39 = .ok (.istore_n 3, 1) := by decide +kernel
theorem dX7_faultOf_40 : decode cX7_faultOf 40 = .ok (.aload_n 1, 1) := by decide +kernel
theorem dX7_faultOf_41 : decode cX7_faultOf 41 = .ok (.iload_n 2, 1) := by decide +kernel
theorem dX7_faultOf_42 : decode cX7_faultOf 42 = .ok (.iconst 1, 1) := by decide +kernel
theorem dX7_faultOf_43 : decode cX7_faultOf 43 = .ok (.iadd, 1) := by decide +kernel
theorem dX7_faultOf_44 : decode cX7_faultOf 44 = .ok (.invokevirtual 27, 3) := by decide +kernel
theorem dX7_faultOf_47 : decode cX7_faultOf 47 = .ok (.invokestatic 31, 3) := by decide +kernel
theorem dX7_faultOf_50 : decode cX7_faultOf 50 = .ok (.istore 4, 2) := by decide +kernel
theorem dX7_faultOf_52 : decode cX7_faultOf 52 = .ok (.aload_n 0, 1) := by decide +kernel
theorem dX7_faultOf_53 : decode cX7_faultOf 53 = .ok (.getfield 18, 3) := by decide +kernel
theorem dX7_faultOf_56 : decode cX7_faultOf 56 = .ok (.bipush 16, 2) := by decide +kernel
theorem dX7_faultOf_58 : decode cX7_faultOf 58 = .ok (.if_icmp .ge 8, 3) := by decide +kernel
theorem dX7_faultOf_61 : decode cX7_faultOf 61 = .ok (.iload_n 3, 1) := by decide +kernel
theorem dX7_faultOf_62 : decode cX7_faultOf 62 = .ok (.iconst (-1), 1) := by decide +kernel
theorem dX7_faultOf_63 : decode cX7_faultOf 63 = .ok (.if_icmp .ne 5, 3) := by decide +kernel
theorem dX7_faultOf_66 : decode cX7_faultOf 66 = .ok (.iload_n 2, 1) := by decide +kernel
theorem dX7_faultOf_67 : decode cX7_faultOf 67 = .ok (.ireturn, 1) := by decide +kernel
theorem dX7_faultOf_68 : decode cX7_faultOf 68 = .ok (.iload 4, 2) := by decide +kernel
theorem dX7_faultOf_70 : decode cX7_faultOf 70 = .ok (.iconst (-1), 1) := by decide +kernel
theorem dX7_faultOf_71 : decode cX7_faultOf 71 = .ok (.if_icmp .ne 7, 3) := by decide +kernel
theorem dX7_faultOf_74 : decode cX7_faultOf 74 = .ok (.iload_n 2, 1) := by decide +kernel
theorem dX7_faultOf_75 : decode cX7_faultOf 75 = .ok (.iconst 1, 1) := by decide +kernel
theorem dX7_faultOf_76 : decode cX7_faultOf 76 = .ok (.iadd, 1) := by decide +kernel
theorem dX7_faultOf_77 : decode cX7_faultOf 77 = .ok (.ireturn, 1) := by decide +kernel
theorem dX7_faultOf_78 : decode cX7_faultOf 78 = .ok (.aload_n 0, 1) := by decide +kernel
theorem dX7_faultOf_79 : decode cX7_faultOf 79 = .ok (.getfield 11, 3) := by decide +kernel
theorem dX7_faultOf_82 : decode cX7_faultOf 82 = .ok (.aload_n 0, 1) := by decide +kernel
theorem dX7_faultOf_83 : decode cX7_faultOf 83 = .ok (.getfield 18, 3) := by decide +kernel
theorem dX7_faultOf_86 : decode cX7_faultOf 86 = .ok (.iload_n 3, 1) := by decide +kernel
theorem dX7_faultOf_87 : decode cX7_faultOf 87 = .ok (.iastore, 1) := by decide +kernel
theorem dX7_faultOf_88 : decode cX7_faultOf 88 = .ok (.aload_n 0, 1) := by decide +kernel
theorem dX7_faultOf_89 : decode cX7_faultOf 89 = .ok (.getfield 15, 3) := by decide +kernel
theorem dX7_faultOf_92 : decode cX7_faultOf 92 = .ok (.aload_n 0, 1) := by decide +kernel
theorem dX7_faultOf_93 : decode cX7_faultOf 93 = .ok (.getfield 18, 3) := by decide +kernel
theorem dX7_faultOf_96 : decode cX7_faultOf 96 = .ok (.iload 4, 2) := by decide +kernel
theorem dX7_faultOf_98 : decode cX7_faultOf 98 = .ok (.iastore, 1) := by decide +kernel
theorem dX7_faultOf_99 : decode cX7_faultOf 99 = .ok (.aload_n 0, 1) := by decide +kernel
theorem dX7_faultOf_100 : decode cX7_faultOf 100 = .ok (.dup, 1) := by decide +kernel
theorem dX7_faultOf_101 : decode cX7_faultOf 101 = .ok (.getfield 18, 3) := by decide +kernel
theorem dX7_faultOf_104 : decode cX7_faultOf 104 = .ok (.iconst 1, 1) := by decide +kernel
theorem dX7_faultOf_105 : decode cX7_faultOf 105 = .ok (.iadd, 1) := by decide +kernel
theorem dX7_faultOf_106 : decode cX7_faultOf 106 = .ok (.putfield 18, 3) := by decide +kernel
theorem dX7_faultOf_109 : decode cX7_faultOf 109 = .ok (.iinc 2 2, 3) := by decide +kernel
theorem dX7_faultOf_112 : decode cX7_faultOf 112 = .ok (.goto (-105), 3) := by decide +kernel
theorem dX7_faultOf_115 : decode cX7_faultOf 115 = .ok (.aload_n 0, 1) := by decide +kernel
theorem dX7_faultOf_116 : decode cX7_faultOf 116 = .ok (.getfield 18, 3) := by decide +kernel
theorem dX7_faultOf_119 : decode cX7_faultOf 119 = .ok (.ifCond .ne 10, 3) := by decide +kernel
theorem dX7_faultOf_122 : decode cX7_faultOf 122 = .ok (.aload_n 1, 1) := by decide +kernel
theorem dX7_faultOf_123 : decode cX7_faultOf 123 = .ok (.getfield 22, 3) := by decide +kernel
theorem dX7_faultOf_126 : decode cX7_faultOf 126 = .ok (.goto 6, 3) := by decide +kernel
theorem dX7_faultOf_129 : decode cX7_faultOf 129 = .ok (.sipush (-1009), 3) := by decide +kernel
theorem dX7_faultOf_132 : decode cX7_faultOf 132 = .ok (.ireturn, 1) := by decide +kernel
theorem vc_X7_faultOf_0 {G : zG} {d : Nat} {Q : Option zV → zHp → Prop} (p1 : Nat) (hT_p1 : zT 369 p1 = (100, 2)) (h : zHp) (hS : zSh h) (hd : 1 ≤ d) (I_7 : Nat → Int → zHp → Prop) (hI_7 : ∀ (y1 : Nat) (y2 : Int) (h' : zHp), I_7 y1 y2 h' → wpN G d M_X7_faultOf 7 [(0, vR 212), (1, vR y1), (2, vI y2)] [] h' Q) 
    (hv : (∀ h1 : zHp, h1 = sI h 212 2 0 → (zSh h1 → I_7 p1 0 h1))) : wpN G d M_X7_faultOf 0 [(0, vR 212), (1, vR p1)] [] h Q := by
  refine wq_aload_n 0 rfl rfl dX7_faultOf_0 ?_
  refine wq_iconst (z := 0) (zlit rfl) dX7_faultOf_1 ?_
  refine wq_putI fk_X7_18 tT_212 rfl rfl dX7_faultOf_2 ?_
  refine wq_toph (fun h1 e2 => ?_)
  have sh1 : zSh h1 := zSh_of e2 hS
  refine wq_iconst (z := 0) (zlit rfl) dX7_faultOf_5 ?_
  refine wq_istore_n (ls' := [(0, vR 212), (1, vR p1), (2, vI 0)]) rfl (by decide) rfl dX7_faultOf_6 ?_
  exact wq_pick [0, 1, 2] rfl (hI_7 p1 0 h1 ((hv h1 e2) sh1))
theorem vc_X7_faultOf_7 {G : zG} {d : Nat} {Q : Option zV → zHp → Prop} (y1 : Nat) (hT_y1 : zT 369 y1 = (100, 2)) (y2 : Int) (h : zHp) (hS : zSh h) (hd : 1 ≤ d) (I_7 : Nat → Int → zHp → Prop) (hI_7 : ∀ (y1 : Nat) (y2 : Int) (h' : zHp), I_7 y1 y2 h' → wpN G d M_X7_faultOf 7 [(0, vR 212), (1, vR y1), (2, vI y2)] [] h' Q) 
    (hv : (((gI h y1 1) ≤ y2 → (((gI h 212 2) ≠ 0 → Q (some (vI (-1009))) h) ∧ ((gI h 212 2) = 0 → Q (some (vI (gI h y1 1))) h))) ∧ (y2 < (gI h y1 1) → (wpN G (d - 1) M_X0_get 0 (zar 0 [vR y1, vI y2]) [] h (qI (fun z3 h4 => zSh h4 ∧ ((z3 ≠ 32 → (wpN G (d - 1) M_X0_get 0 (zar 0 [vR y1, vI y2]) [] h4 (qI (fun z8 h9 => zSh h9 ∧ (wpN G (d - 1) M_X7_digitOf 0 (zar 0 [vI z8]) [] h9 (qI (fun z12 h13 => zSh h13 ∧ ((-2147483648 ≤ y2 + 1 ∧ y2 + 1 ≤ 2147483647) ∧ (wpN G (d - 1) M_X0_get 0 (zar 0 [vR y1, vI (y2 + 1)]) [] h13 (qI (fun z16 h17 => zSh h17 ∧ (wpN G (d - 1) M_X7_digitOf 0 (zar 0 [vI z16]) [] h17 (qI (fun z20 h21 => zSh h21 ∧ ((16 ≤ (gI h21 212 2) → Q (some (vI y2)) h21) ∧ ((gI h21 212 2) < 16 → ((z12 ≠ (-1) → ((z20 ≠ (-1) → (((0 : Int) ≤ (gI h21 212 2) ∧ (gI h21 212 2) < ((16 : Nat) : Int)) ∧ (∀ h27 : zHp, h27 = sI h21 213 (gI h21 212 2).toNat z12 → (((0 : Int) ≤ (gI h27 212 2) ∧ (gI h27 212 2) < ((16 : Nat) : Int)) ∧ (∀ h29 : zHp, h29 = sI h27 214 (gI h27 212 2).toNat z20 → ((-2147483648 ≤ (gI h29 212 2) + 1 ∧ (gI h29 212 2) + 1 ≤ 2147483647) ∧ (∀ h31 : zHp, h31 = sI h29 212 2 ((gI h29 212 2) + 1) → ((-2147483648 ≤ y2 + 2 ∧ y2 + 2 ≤ 2147483647) ∧ ∀ x33 : Int, x33 = y2 + 2 → (zSh h31 → I_7 y1 x33 h31))))))))) ∧ (z20 = (-1) → ((-2147483648 ≤ y2 + 1 ∧ y2 + 1 ≤ 2147483647) ∧ Q (some (vI (y2 + 1))) h21)))) ∧ (z12 = (-1) → Q (some (vI y2)) h21)))))))))))))))))) ∧ (z3 = 32 → ((-2147483648 ≤ y2 + 1 ∧ y2 + 1 ≤ 2147483647) ∧ ∀ x35 : Int, x35 = y2 + 1 → (zSh h4 → I_7 y1 x35 h4)))))))))) : wpN G d M_X7_faultOf 7 [(0, vR 212), (1, vR y1), (2, vI y2)] [] h Q := by
  refine wq_iload_n 2 rfl rfl dX7_faultOf_7 ?_
  refine wq_aload_n 1 rfl rfl dX7_faultOf_8 ?_
  refine wq_getI fk_X7_22 hT_y1 (fun _ _ _ => rfl) dX7_faultOf_9 ?_
  refine wq_icmp_ge 115 rfl dX7_faultOf_12 (fun c1 => ?_) (fun c1 => ?_)
  · refine wq_aload_n 0 rfl rfl dX7_faultOf_115 ?_
    refine wq_getI fk_X7_18 tT_212 (fun _ _ _ => rfl) dX7_faultOf_116 ?_
    refine wq_if_ne 129 rfl dX7_faultOf_119 (fun c2 => ?_) (fun c2 => ?_)
    · refine wq_sipush (z := -1009) (zlit rfl) rfl dX7_faultOf_129 ?_
      exact wp_iret rfl dX7_faultOf_132 ((hv.1 c1).1 c2)
    · refine wq_aload_n 1 rfl rfl dX7_faultOf_122 ?_
      refine wq_getI fk_X7_22 hT_y1 (fun _ _ _ => rfl) dX7_faultOf_123 ?_
      refine wq_goto 132 rfl dX7_faultOf_126 ?_
      exact wp_iret rfl dX7_faultOf_132 ((hv.1 c1).2 c2)
  · refine wq_aload_n 1 rfl rfl dX7_faultOf_15 ?_
    refine wq_iload_n 2 rfl rfl dX7_faultOf_16 ?_
    refine wN_V (As := [vI y2]) vm_X0_get lk_X7_27 hT_y1 rfl rfl (Nat.le_of_ble_eq_true rfl) (Nat.le_of_ble_eq_true rfl) (d' := d - 1) (by omega) dX7_faultOf_17 (hv.2 c1) (fun v9 h4 q5 => ?_)
    obtain ⟨z3, rfl, hS6, q5⟩ := q5
    refine wq_st (st' := [vI z3]) rfl ?_
    refine wq_bipush (z := 32) (zlit rfl) rfl dX7_faultOf_20 ?_
    refine wq_icmp_ne 31 rfl dX7_faultOf_22 (fun c7 => ?_) (fun c7 => ?_)
    · refine wq_aload_n 1 rfl rfl dX7_faultOf_31 ?_
      refine wq_iload_n 2 rfl rfl dX7_faultOf_32 ?_
      refine wN_V (As := [vI y2]) vm_X0_get lk_X7_27 hT_y1 rfl rfl (Nat.le_of_ble_eq_true rfl) (Nat.le_of_ble_eq_true rfl) (d' := d - 1) (by omega) dX7_faultOf_33 (q5.1 c7) (fun v9 h9 q10 => ?_)
      obtain ⟨z8, rfl, hS11, q10⟩ := q10
      refine wq_st (st' := [vI z8]) rfl ?_
      refine wN_S (As := [vI z8]) md_X7_digitOf ms_X7_digitOf lk_X7_31 rfl rfl (Nat.le_of_ble_eq_true rfl) (Nat.le_of_ble_eq_true rfl) (d' := d - 1) (by omega) dX7_faultOf_36 q10 (fun v9 h13 q14 => ?_)
      obtain ⟨z12, rfl, hS15, q14⟩ := q14
      refine wq_st (st' := [vI z12]) rfl ?_
      refine wq_istore_n (ls' := [(0, vR 212), (1, vR y1), (2, vI y2), (3, vI z12)]) rfl (by decide) rfl dX7_faultOf_39 ?_
      refine wq_aload_n 1 rfl rfl dX7_faultOf_40 ?_
      refine wq_iload_n 2 rfl rfl dX7_faultOf_41 ?_
      refine wq_iconst (z := 1) (zlit rfl) dX7_faultOf_42 ?_
      refine wq_iadd q14.1 dX7_faultOf_43 ?_
      refine wN_V (As := [vI (y2 + 1)]) vm_X0_get lk_X7_27 hT_y1 rfl rfl (Nat.le_of_ble_eq_true rfl) (Nat.le_of_ble_eq_true rfl) (d' := d - 1) (by omega) dX7_faultOf_44 q14.2 (fun v9 h17 q18 => ?_)
      obtain ⟨z16, rfl, hS19, q18⟩ := q18
      refine wq_st (st' := [vI z16]) rfl ?_
      refine wN_S (As := [vI z16]) md_X7_digitOf ms_X7_digitOf lk_X7_31 rfl rfl (Nat.le_of_ble_eq_true rfl) (Nat.le_of_ble_eq_true rfl) (d' := d - 1) (by omega) dX7_faultOf_47 q18 (fun v9 h21 q22 => ?_)
      obtain ⟨z20, rfl, hS23, q22⟩ := q22
      refine wq_st (st' := [vI z20]) rfl ?_
      refine wq_istore (ls' := [(0, vR 212), (1, vR y1), (2, vI y2), (3, vI z12), (4, vI z20)]) (by decide) rfl dX7_faultOf_50 ?_
      refine wq_aload_n 0 rfl rfl dX7_faultOf_52 ?_
      refine wq_getI fk_X7_18 tT_212 (fun _ _ _ => rfl) dX7_faultOf_53 ?_
      refine wq_bipush (z := 16) (zlit rfl) rfl dX7_faultOf_56 ?_
      refine wq_icmp_ge 66 rfl dX7_faultOf_58 (fun c24 => ?_) (fun c24 => ?_)
      · refine wq_iload_n 2 rfl rfl dX7_faultOf_66 ?_
        exact wp_iret rfl dX7_faultOf_67 (q22.1 c24)
      · refine wq_iload_n 3 rfl rfl dX7_faultOf_61 ?_
        refine wq_iconst (z := -1) (zlit rfl) dX7_faultOf_62 ?_
        refine wq_icmp_ne 68 rfl dX7_faultOf_63 (fun c25 => ?_) (fun c25 => ?_)
        · refine wq_iload 4 rfl dX7_faultOf_68 ?_
          refine wq_iconst (z := -1) (zlit rfl) dX7_faultOf_70 ?_
          refine wq_icmp_ne 78 rfl dX7_faultOf_71 (fun c26 => ?_) (fun c26 => ?_)
          · refine wq_aload_n 0 rfl rfl dX7_faultOf_78 ?_
            refine wq_getR fk_X7_11 tT_212 (fun _ _ _ => rfl) (sh_7_0 hS23) (by decide) dX7_faultOf_79 ?_
            refine wq_aload_n 0 rfl rfl dX7_faultOf_82 ?_
            refine wq_getI fk_X7_18 tT_212 (fun _ _ _ => rfl) dX7_faultOf_83 ?_
            refine wq_iload_n 3 rfl rfl dX7_faultOf_86 ?_
            refine wq_iast tT_213 (((q22.2 c24).1 c25).1 c26).1.1 (((q22.2 c24).1 c25).1 c26).1.2 dX7_faultOf_87 ?_
            refine wq_toph (fun h27 e28 => ?_)
            have sh27 : zSh h27 := zSh_of e28 hS23
            refine wq_aload_n 0 rfl rfl dX7_faultOf_88 ?_
            refine wq_getR fk_X7_15 tT_212 (fun _ _ _ => rfl) (sh_7_1 sh27) (by decide) dX7_faultOf_89 ?_
            refine wq_aload_n 0 rfl rfl dX7_faultOf_92 ?_
            refine wq_getI fk_X7_18 tT_212 (fun _ _ _ => rfl) dX7_faultOf_93 ?_
            refine wq_iload 4 rfl dX7_faultOf_96 ?_
            refine wq_iast tT_214 ((((q22.2 c24).1 c25).1 c26).2 h27 e28).1.1 ((((q22.2 c24).1 c25).1 c26).2 h27 e28).1.2 dX7_faultOf_98 ?_
            refine wq_toph (fun h29 e30 => ?_)
            have sh29 : zSh h29 := zSh_of e30 sh27
            refine wq_aload_n 0 rfl rfl dX7_faultOf_99 ?_
            refine wq_dup rfl dX7_faultOf_100 ?_
            refine wq_getI fk_X7_18 tT_212 (fun _ _ _ => rfl) dX7_faultOf_101 ?_
            refine wq_iconst (z := 1) (zlit rfl) dX7_faultOf_104 ?_
            refine wq_iadd (((((q22.2 c24).1 c25).1 c26).2 h27 e28).2 h29 e30).1 dX7_faultOf_105 ?_
            refine wq_putI fk_X7_18 tT_212 rfl rfl dX7_faultOf_106 ?_
            refine wq_toph (fun h31 e32 => ?_)
            have sh31 : zSh h31 := zSh_of e32 sh29
            refine z_nm (y2 + 2) (fun x33 e34 => ?_)
            refine wq_iinc (y := x33) (ls' := [(0, vR 212), (1, vR y1), (2, vI x33), (3, vI z12), (4, vI z20)]) 2 rfl e34.symm (by rw [e34]; exact ((((((q22.2 c24).1 c25).1 c26).2 h27 e28).2 h29 e30).2 h31 e32).1) (by decide) rfl dX7_faultOf_109 ?_
            refine wq_goto 7 rfl dX7_faultOf_112 ?_
            exact wq_pick [0, 1, 2] rfl (hI_7 y1 x33 h31 ((((((((q22.2 c24).1 c25).1 c26).2 h27 e28).2 h29 e30).2 h31 e32).2 x33 e34) sh31))
          · refine wq_iload_n 2 rfl rfl dX7_faultOf_74 ?_
            refine wq_iconst (z := 1) (zlit rfl) dX7_faultOf_75 ?_
            refine wq_iadd (((q22.2 c24).1 c25).2 c26).1 dX7_faultOf_76 ?_
            exact wp_iret rfl dX7_faultOf_77 (((q22.2 c24).1 c25).2 c26).2
        · refine wq_iload_n 2 rfl rfl dX7_faultOf_66 ?_
          exact wp_iret rfl dX7_faultOf_67 ((q22.2 c24).2 c25)
    · refine z_nm (y2 + 1) (fun x35 e36 => ?_)
      refine wq_iinc (y := x35) (ls' := [(0, vR 212), (1, vR y1), (2, vI x35)]) 2 rfl e36.symm (by rw [e36]; exact (q5.2 c7).1) (by decide) rfl dX7_faultOf_25 ?_
      refine wq_goto 7 rfl dX7_faultOf_28 ?_
      exact wq_pick [0, 1, 2] rfl (hI_7 y1 x35 h4 (((q5.2 c7).2 x35 e36) hS6))
theorem dX7_fits_0 : decode cX7_fits 0 = .ok (.iload_n 2, 1) := by decide +kernel
theorem dX7_fits_1 : decode cX7_fits 1 = .ok (.ifCond .lt 16, 3) := by decide +kernel
theorem dX7_fits_4 : decode cX7_fits 4 = .ok (.aload_n 0, 1) := by decide +kernel
theorem dX7_fits_5 : decode cX7_fits 5 = .ok (.getfield 18, 3) := by decide +kernel
theorem dX7_fits_8 : decode cX7_fits 8 = .ok (.aload_n 1, 1) := by decide +kernel
theorem dX7_fits_9 : decode cX7_fits 9 = .ok (.getfield 22, 3) := by decide +kernel
theorem dX7_fits_12 : decode cX7_fits 12 = .ok (.iload_n 2, 1) := by decide +kernel
theorem dX7_fits_13 : decode cX7_fits 13 = .ok (.isub, 1) := by decide +kernel
theorem dX7_fits_14 : decode cX7_fits 14 = .ok (.if_icmp .le 5, 3) := by decide +kernel
theorem dX7_fits_17 : decode cX7_fits 17 = .ok (.iconst 0, 1) := by decide +kernel
theorem dX7_fits_18 : decode cX7_fits 18 = .ok (.ireturn, 1) := by decide +kernel
theorem dX7_fits_19 : decode cX7_fits 19 = .ok (.iconst 0, 1) := by decide +kernel
theorem dX7_fits_20 : decode cX7_fits 20 = .ok (.istore_n 3, 1) := by decide +kernel
theorem dX7_fits_21 : decode cX7_fits 21 = .ok (.iload_n 3, 1) := by decide +kernel
theorem dX7_fits_22 : decode cX7_fits 22 = .ok (.aload_n 0, 1) := by decide +kernel
theorem dX7_fits_23 : decode cX7_fits 23 = .ok (.getfield 18, 3) := by decide +kernel
theorem dX7_fits_26 : decode cX7_fits 26 = .ok (.if_icmp .ge 54, 3) := by decide +kernel
theorem dX7_fits_29 : decode cX7_fits 29 = .ok (.aload_n 1, 1) := by decide +kernel
theorem dX7_fits_30 : decode cX7_fits 30 = .ok (.iload_n 2, 1) := by decide +kernel
theorem dX7_fits_31 : decode cX7_fits 31 = .ok (.iload_n 3, 1) := by decide +kernel
theorem dX7_fits_32 : decode cX7_fits 32 = .ok (.iadd, 1) := by decide +kernel
theorem dX7_fits_33 : decode cX7_fits 33 = .ok (.invokevirtual 27, 3) := by decide +kernel
theorem dX7_fits_36 : decode cX7_fits 36 = .ok (.istore 4, 2) := by decide +kernel
theorem dX7_fits_38 : decode cX7_fits 38 = .ok (.aload_n 0, 1) := by decide +kernel
theorem dX7_fits_39 : decode cX7_fits 39 = .ok (.getfield 11, 3) := by decide +kernel
theorem dX7_fits_42 : decode cX7_fits 42 = .ok (.iload_n 3, 1) := by decide +kernel
theorem dX7_fits_43 : decode cX7_fits 43 = .ok (.iaload, 1) := by decide +kernel
theorem dX7_fits_44 : decode cX7_fits 44 = .ok (.iload 4, 2) := by decide +kernel
theorem dX7_fits_46 : decode cX7_fits 46 = .ok (.bipush 16, 2) := by decide +kernel
theorem dX7_fits_48 : decode cX7_fits 48 = .ok (.idiv, 1) := by decide +kernel
theorem dX7_fits_49 : decode cX7_fits 49 = .ok (.invokestatic 34, 3) := by decide +kernel
theorem dX7_fits_52 : decode cX7_fits 52 = .ok (.ifCond .eq 20, 3) := by decide +kernel
theorem dX7_fits_55 : decode cX7_fits 55 = .ok (.aload_n 0, 1) := by decide +kernel
theorem dX7_fits_56 : decode cX7_fits 56 = .ok (.getfield 15, 3) := by decide +kernel
theorem dX7_fits_59 : decode cX7_fits 59 = .ok (.iload_n 3, 1) := by decide +kernel
theorem dX7_fits_60 : decode cX7_fits 60 = .ok (.iaload, 1) := by decide +kernel
theorem dX7_fits_61 : decode cX7_fits 61 = .ok (.iload 4, 2) := by decide +kernel
theorem dX7_fits_63 : decode cX7_fits 63 = .ok (.bipush 16, 2) := by decide +kernel
theorem dX7_fits_65 : decode cX7_fits 65 = .ok (.irem, 1) := by decide +kernel
theorem dX7_fits_66 : decode cX7_fits 66 = .ok (.invokestatic 34, 3) := by decide +kernel
theorem dX7_fits_69 : decode cX7_fits 69 = .ok (.ifCond .ne 5, 3) := by decide +kernel
theorem dX7_fits_72 : decode cX7_fits 72 = .ok (.iconst 0, 1) := by decide +kernel
theorem dX7_fits_73 : decode cX7_fits 73 = .ok (.ireturn, 1) := by decide +kernel
theorem dX7_fits_74 : decode cX7_fits 74 = .ok (.iinc 3 1, 3) := by decide +kernel
theorem dX7_fits_77 : decode cX7_fits 77 = .ok (.goto (-56), 3) := by decide +kernel
theorem dX7_fits_80 : decode cX7_fits 80 = .ok (.iconst 1, 1) := by decide +kernel
theorem dX7_fits_81 : decode cX7_fits 81 = .ok (.ireturn, 1) := by decide +kernel
theorem vc_X7_fits_0 {G : zG} {d : Nat} {Q : Option zV → zHp → Prop} (p1 : Nat) (hT_p1 : zT 369 p1 = (100, 2)) (p2 : Int) (h : zHp) (hS : zSh h) (hd : 1 ≤ d) (I_21 : Nat → Int → Int → zHp → Prop) (hI_21 : ∀ (y1 : Nat) (y2 : Int) (y3 : Int) (h' : zHp), I_21 y1 y2 y3 h' → wpN G d M_X7_fits 21 [(0, vR 212), (1, vR y1), (2, vI y2), (3, vI y3)] [] h' Q) 
    (hv : ((p2 < 0 → Q (some (vI 0)) h) ∧ (0 ≤ p2 → ((-2147483648 ≤ (gI h p1 1) - p2 ∧ (gI h p1 1) - p2 ≤ 2147483647) ∧ (((gI h 212 2) ≤ ((gI h p1 1) - p2) → (zSh h → I_21 p1 p2 0 h)) ∧ (((gI h p1 1) - p2) < (gI h 212 2) → Q (some (vI 0)) h)))))) : wpN G d M_X7_fits 0 [(0, vR 212), (1, vR p1), (2, vI p2)] [] h Q := by
  refine wq_iload_n 2 rfl rfl dX7_fits_0 ?_
  refine wq_if_lt 17 rfl dX7_fits_1 (fun c1 => ?_) (fun c1 => ?_)
  · refine wq_iconst (z := 0) (zlit rfl) dX7_fits_17 ?_
    exact wp_zret (Or.inl rfl) rfl dX7_fits_18 (hv.1 c1)
  · refine wq_aload_n 0 rfl rfl dX7_fits_4 ?_
    refine wq_getI fk_X7_18 tT_212 (fun _ _ _ => rfl) dX7_fits_5 ?_
    refine wq_aload_n 1 rfl rfl dX7_fits_8 ?_
    refine wq_getI fk_X7_22 hT_p1 (fun _ _ _ => rfl) dX7_fits_9 ?_
    refine wq_iload_n 2 rfl rfl dX7_fits_12 ?_
    refine wq_isub (hv.2 c1).1 dX7_fits_13 ?_
    refine wq_icmp_le 19 rfl dX7_fits_14 (fun c2 => ?_) (fun c2 => ?_)
    · refine wq_iconst (z := 0) (zlit rfl) dX7_fits_19 ?_
      refine wq_istore_n (ls' := [(0, vR 212), (1, vR p1), (2, vI p2), (3, vI 0)]) rfl (by decide) rfl dX7_fits_20 ?_
      exact wq_pick [0, 1, 2, 3] rfl (hI_21 p1 p2 0 h (((hv.2 c1).2.1 c2) hS))
    · refine wq_iconst (z := 0) (zlit rfl) dX7_fits_17 ?_
      exact wp_zret (Or.inl rfl) rfl dX7_fits_18 ((hv.2 c1).2.2 c2)
theorem vc_X7_fits_21 {G : zG} {d : Nat} {Q : Option zV → zHp → Prop} (y1 : Nat) (hT_y1 : zT 369 y1 = (100, 2)) (y2 : Int) (y3 : Int) (h : zHp) (hS : zSh h) (hd : 1 ≤ d) (I_21 : Nat → Int → Int → zHp → Prop) (hI_21 : ∀ (y1 : Nat) (y2 : Int) (y3 : Int) (h' : zHp), I_21 y1 y2 y3 h' → wpN G d M_X7_fits 21 [(0, vR 212), (1, vR y1), (2, vI y2), (3, vI y3)] [] h' Q) 
    (hv : (((gI h 212 2) ≤ y3 → Q (some (vI 1)) h) ∧ (y3 < (gI h 212 2) → ((-2147483648 ≤ y2 + y3 ∧ y2 + y3 ≤ 2147483647) ∧ (wpN G (d - 1) M_X0_get 0 (zar 0 [vR y1, vI (y2 + y3)]) [] h (qI (fun z2 h3 => zSh h3 ∧ (((0 : Int) ≤ y3 ∧ y3 < ((16 : Nat) : Int)) ∧ (wpN G (d - 1) M_X7_fitsDigit 0 (zar 0 [vI (gI h3 213 y3.toNat), vI (z2.tdiv 16)]) [] h3 (qI (fun z6 h7 => zSh h7 ∧ ((z6 = 0 → Q (some (vI 0)) h7) ∧ (z6 ≠ 0 → (((0 : Int) ≤ y3 ∧ y3 < ((16 : Nat) : Int)) ∧ (wpN G (d - 1) M_X7_fitsDigit 0 (zar 0 [vI (gI h7 214 y3.toNat), vI (z2.tmod 16)]) [] h7 (qI (fun z11 h12 => zSh h12 ∧ ((z11 ≠ 0 → ((-2147483648 ≤ y3 + 1 ∧ y3 + 1 ≤ 2147483647) ∧ ∀ x16 : Int, x16 = y3 + 1 → (zSh h12 → I_21 y1 y2 x16 h12))) ∧ (z11 = 0 → Q (some (vI 0)) h12))))))))))))))))))) : wpN G d M_X7_fits 21 [(0, vR 212), (1, vR y1), (2, vI y2), (3, vI y3)] [] h Q := by
  refine wq_iload_n 3 rfl rfl dX7_fits_21 ?_
  refine wq_aload_n 0 rfl rfl dX7_fits_22 ?_
  refine wq_getI fk_X7_18 tT_212 (fun _ _ _ => rfl) dX7_fits_23 ?_
  refine wq_icmp_ge 80 rfl dX7_fits_26 (fun c1 => ?_) (fun c1 => ?_)
  · refine wq_iconst (z := 1) (zlit rfl) dX7_fits_80 ?_
    exact wp_zret (Or.inr rfl) rfl dX7_fits_81 (hv.1 c1)
  · refine wq_aload_n 1 rfl rfl dX7_fits_29 ?_
    refine wq_iload_n 2 rfl rfl dX7_fits_30 ?_
    refine wq_iload_n 3 rfl rfl dX7_fits_31 ?_
    refine wq_iadd (hv.2 c1).1 dX7_fits_32 ?_
    refine wN_V (As := [vI (y2 + y3)]) vm_X0_get lk_X7_27 hT_y1 rfl rfl (Nat.le_of_ble_eq_true rfl) (Nat.le_of_ble_eq_true rfl) (d' := d - 1) (by omega) dX7_fits_33 (hv.2 c1).2 (fun v9 h3 q4 => ?_)
    obtain ⟨z2, rfl, hS5, q4⟩ := q4
    refine wq_st (st' := [vI z2]) rfl ?_
    refine wq_istore (ls' := [(0, vR 212), (1, vR y1), (2, vI y2), (3, vI y3), (4, vI z2)]) (by decide) rfl dX7_fits_36 ?_
    refine wq_aload_n 0 rfl rfl dX7_fits_38 ?_
    refine wq_getR fk_X7_11 tT_212 (fun _ _ _ => rfl) (sh_7_0 hS5) (by decide) dX7_fits_39 ?_
    refine wq_iload_n 3 rfl rfl dX7_fits_42 ?_
    refine wq_iald tT_213 q4.1.1 q4.1.2 dX7_fits_43 ?_
    refine wq_iload 4 rfl dX7_fits_44 ?_
    refine wq_bipush (z := 16) (zlit rfl) rfl dX7_fits_46 ?_
    refine wq_idiv (by decide) dX7_fits_48 ?_
    refine wN_S (As := [vI (gI h3 213 y3.toNat), vI (z2.tdiv 16)]) md_X7_fitsDigit ms_X7_fitsDigit lk_X7_34 rfl rfl (Nat.le_of_ble_eq_true rfl) (Nat.le_of_ble_eq_true rfl) (d' := d - 1) (by omega) dX7_fits_49 q4.2 (fun v9 h7 q8 => ?_)
    obtain ⟨z6, rfl, hS9, q8⟩ := q8
    refine wq_st (st' := [vI z6]) rfl ?_
    refine wq_if_eq 72 rfl dX7_fits_52 (fun c10 => ?_) (fun c10 => ?_)
    · refine wq_iconst (z := 0) (zlit rfl) dX7_fits_72 ?_
      exact wp_zret (Or.inl rfl) rfl dX7_fits_73 (q8.1 c10)
    · refine wq_aload_n 0 rfl rfl dX7_fits_55 ?_
      refine wq_getR fk_X7_15 tT_212 (fun _ _ _ => rfl) (sh_7_1 hS9) (by decide) dX7_fits_56 ?_
      refine wq_iload_n 3 rfl rfl dX7_fits_59 ?_
      refine wq_iald tT_214 (q8.2 c10).1.1 (q8.2 c10).1.2 dX7_fits_60 ?_
      refine wq_iload 4 rfl dX7_fits_61 ?_
      refine wq_bipush (z := 16) (zlit rfl) rfl dX7_fits_63 ?_
      refine wq_irem (by decide) dX7_fits_65 ?_
      refine wN_S (As := [vI (gI h7 214 y3.toNat), vI (z2.tmod 16)]) md_X7_fitsDigit ms_X7_fitsDigit lk_X7_34 rfl rfl (Nat.le_of_ble_eq_true rfl) (Nat.le_of_ble_eq_true rfl) (d' := d - 1) (by omega) dX7_fits_66 (q8.2 c10).2 (fun v9 h12 q13 => ?_)
      obtain ⟨z11, rfl, hS14, q13⟩ := q13
      refine wq_st (st' := [vI z11]) rfl ?_
      refine wq_if_ne 74 rfl dX7_fits_69 (fun c15 => ?_) (fun c15 => ?_)
      · refine z_nm (y3 + 1) (fun x16 e17 => ?_)
        refine wq_iinc (y := x16) (ls' := [(0, vR 212), (1, vR y1), (2, vI y2), (3, vI x16), (4, vI z2)]) 3 rfl e17.symm (by rw [e17]; exact (q13.1 c15).1) (by decide) rfl dX7_fits_74 ?_
        refine wq_goto 21 rfl dX7_fits_77 ?_
        exact wq_pick [0, 1, 2, 3] rfl (hI_21 y1 y2 x16 h12 (((q13.1 c15).2 x16 e17) hS14))
      · refine wq_iconst (z := 0) (zlit rfl) dX7_fits_72 ?_
        exact wp_zret (Or.inl rfl) rfl dX7_fits_73 (q13.2 c15)
theorem dX7_fitsDigit_0 : decode cX7_fitsDigit 0 = .ok (.iload_n 0, 1) := by decide +kernel
theorem dX7_fitsDigit_1 : decode cX7_fitsDigit 1 = .ok (.bipush 16, 2) := by decide +kernel
theorem dX7_fitsDigit_3 : decode cX7_fitsDigit 3 = .ok (.if_icmp .eq 8, 3) := by decide +kernel
theorem dX7_fitsDigit_6 : decode cX7_fitsDigit 6 = .ok (.iload_n 0, 1) := by decide +kernel
theorem dX7_fitsDigit_7 : decode cX7_fitsDigit 7 = .ok (.iload_n 1, 1) := by decide +kernel
theorem dX7_fitsDigit_8 : decode cX7_fitsDigit 8 = .ok (.if_icmp .ne 7, 3) := by decide +kernel
theorem dX7_fitsDigit_11 : decode cX7_fitsDigit 11 = .ok (.iconst 1, 1) := by decide +kernel
theorem dX7_fitsDigit_12 : decode cX7_fitsDigit 12 = .ok (.goto 4, 3) := by decide +kernel
theorem dX7_fitsDigit_15 : decode cX7_fitsDigit 15 = .ok (.iconst 0, 1) := by decide +kernel
theorem dX7_fitsDigit_16 : decode cX7_fitsDigit 16 = .ok (.ireturn, 1) := by decide +kernel
theorem vc_X7_fitsDigit_0 {G : zG} {d : Nat} {Q : Option zV → zHp → Prop} (p1 : Int) (p2 : Int) (h : zHp) (hS : zSh h) (hd : 0 ≤ d)  
    (hv : ((p1 = 16 → Q (some (vI 1)) h) ∧ (p1 ≠ 16 → ((p1 ≠ p2 → Q (some (vI 0)) h) ∧ (p1 = p2 → Q (some (vI 1)) h))))) : wpN G d M_X7_fitsDigit 0 [(0, vI p1), (1, vI p2)] [] h Q := by
  refine wq_iload_n 0 rfl rfl dX7_fitsDigit_0 ?_
  refine wq_bipush (z := 16) (zlit rfl) rfl dX7_fitsDigit_1 ?_
  refine wq_icmp_eq 11 rfl dX7_fitsDigit_3 (fun c1 => ?_) (fun c1 => ?_)
  · refine wq_iconst (z := 1) (zlit rfl) dX7_fitsDigit_11 ?_
    refine wq_goto 16 rfl dX7_fitsDigit_12 ?_
    exact wp_zret (Or.inr rfl) rfl dX7_fitsDigit_16 (hv.1 c1)
  · refine wq_iload_n 0 rfl rfl dX7_fitsDigit_6 ?_
    refine wq_iload_n 1 rfl rfl dX7_fitsDigit_7 ?_
    refine wq_icmp_ne 15 rfl dX7_fitsDigit_8 (fun c2 => ?_) (fun c2 => ?_)
    · refine wq_iconst (z := 0) (zlit rfl) dX7_fitsDigit_15 ?_
      exact wp_zret (Or.inl rfl) rfl dX7_fitsDigit_16 ((hv.2 c1).1 c2)
    · refine wq_iconst (z := 1) (zlit rfl) dX7_fitsDigit_11 ?_
      refine wq_goto 16 rfl dX7_fitsDigit_12 ?_
      exact wp_zret (Or.inr rfl) rfl dX7_fitsDigit_16 ((hv.2 c1).2 c2)
theorem dX7_digitOf_0 : decode cX7_digitOf 0 = .ok (.iload_n 0, 1) := by decide +kernel
theorem dX7_digitOf_1 : decode cX7_digitOf 1 = .ok (.bipush 48, 2) := by decide +kernel
theorem dX7_digitOf_3 : decode cX7_digitOf 3 = .ok (.if_icmp .lt 14, 3) := by decide +kernel
theorem dX7_digitOf_6 : decode cX7_digitOf 6 = .ok (.iload_n 0, 1) := by decide +kernel
theorem dX7_digitOf_7 : decode cX7_digitOf 7 = .ok (.bipush 57, 2) := by decide +kernel
theorem dX7_digitOf_9 : decode cX7_digitOf 9 = .ok (.if_icmp .gt 8, 3) := by decide +kernel
theorem dX7_digitOf_12 : decode cX7_digitOf 12 = .ok (.iload_n 0, 1) := by decide +kernel
theorem dX7_digitOf_13 : decode cX7_digitOf 13 = .ok (.bipush 48, 2) := by decide +kernel
theorem dX7_digitOf_15 : decode cX7_digitOf 15 = .ok (.isub, 1) := by decide +kernel
theorem dX7_digitOf_16 : decode cX7_digitOf 16 = .ok (.ireturn, 1) := by decide +kernel
theorem dX7_digitOf_17 : decode cX7_digitOf 17 = .ok (.iload_n 0, 1) := by decide +kernel
theorem dX7_digitOf_18 : decode cX7_digitOf 18 = .ok (.bipush 97, 2) := by decide +kernel
theorem dX7_digitOf_20 : decode cX7_digitOf 20 = .ok (.if_icmp .lt 17, 3) := by decide +kernel
theorem dX7_digitOf_23 : decode cX7_digitOf 23 = .ok (.iload_n 0, 1) := by decide +kernel
theorem dX7_digitOf_24 : decode cX7_digitOf 24 = .ok (.bipush 102, 2) := by decide +kernel
theorem dX7_digitOf_26 : decode cX7_digitOf 26 = .ok (.if_icmp .gt 11, 3) := by decide +kernel
theorem dX7_digitOf_29 : decode cX7_digitOf 29 = .ok (.iload_n 0, 1) := by decide +kernel
theorem dX7_digitOf_30 : decode cX7_digitOf 30 = .ok (.bipush 97, 2) := by decide +kernel
theorem dX7_digitOf_32 : decode cX7_digitOf 32 = .ok (.isub, 1) := by decide +kernel
theorem dX7_digitOf_33 : decode cX7_digitOf 33 = .ok (.bipush 10, 2) := by decide +kernel
theorem dX7_digitOf_35 : decode cX7_digitOf 35 = .ok (.iadd, 1) := by decide +kernel
theorem dX7_digitOf_36 : decode cX7_digitOf 36 = .ok (.ireturn, 1) := by decide +kernel
theorem dX7_digitOf_37 : decode cX7_digitOf 37 = .ok (.iload_n 0, 1) := by decide +kernel
theorem dX7_digitOf_38 : decode cX7_digitOf 38 = .ok (.bipush 63, 2) := by decide +kernel
theorem dX7_digitOf_40 : decode cX7_digitOf 40 = .ok (.if_icmp .ne 8, 3) := by decide +kernel
theorem dX7_digitOf_43 : decode cX7_digitOf 43 = .ok (.bipush 16, 2) := by decide +kernel
theorem dX7_digitOf_45 : decode cX7_digitOf 45 = .ok (.goto 4, 3) := by decide +kernel
theorem dX7_digitOf_48 : decode cX7_digitOf 48 = .ok (.iconst (-1), 1) := by decide +kernel
theorem dX7_digitOf_49 : decode cX7_digitOf 49 = .ok (.ireturn, 1) := by decide +kernel
theorem vc_X7_digitOf_0 {G : zG} {d : Nat} {Q : Option zV → zHp → Prop} (p1 : Int) (h : zHp) (hS : zSh h) (hd : 0 ≤ d)  
    (hv : ((p1 < 48 → ((p1 < 97 → ((p1 ≠ 63 → Q (some (vI (-1))) h) ∧ (p1 = 63 → Q (some (vI 16)) h))) ∧ (97 ≤ p1 → ((102 < p1 → ((p1 ≠ 63 → Q (some (vI (-1))) h) ∧ (p1 = 63 → Q (some (vI 16)) h))) ∧ (p1 ≤ 102 → ((-2147483648 ≤ p1 - 97 ∧ p1 - 97 ≤ 2147483647) ∧ ((-2147483648 ≤ (p1 - 97) + 10 ∧ (p1 - 97) + 10 ≤ 2147483647) ∧ Q (some (vI ((p1 - 97) + 10))) h))))))) ∧ (48 ≤ p1 → ((57 < p1 → ((p1 < 97 → ((p1 ≠ 63 → Q (some (vI (-1))) h) ∧ (p1 = 63 → Q (some (vI 16)) h))) ∧ (97 ≤ p1 → ((102 < p1 → ((p1 ≠ 63 → Q (some (vI (-1))) h) ∧ (p1 = 63 → Q (some (vI 16)) h))) ∧ (p1 ≤ 102 → ((-2147483648 ≤ p1 - 97 ∧ p1 - 97 ≤ 2147483647) ∧ ((-2147483648 ≤ (p1 - 97) + 10 ∧ (p1 - 97) + 10 ≤ 2147483647) ∧ Q (some (vI ((p1 - 97) + 10))) h))))))) ∧ (p1 ≤ 57 → ((-2147483648 ≤ p1 - 48 ∧ p1 - 48 ≤ 2147483647) ∧ Q (some (vI (p1 - 48))) h)))))) : wpN G d M_X7_digitOf 0 [(0, vI p1)] [] h Q := by
  refine wq_iload_n 0 rfl rfl dX7_digitOf_0 ?_
  refine wq_bipush (z := 48) (zlit rfl) rfl dX7_digitOf_1 ?_
  refine wq_icmp_lt 17 rfl dX7_digitOf_3 (fun c1 => ?_) (fun c1 => ?_)
  · refine wq_iload_n 0 rfl rfl dX7_digitOf_17 ?_
    refine wq_bipush (z := 97) (zlit rfl) rfl dX7_digitOf_18 ?_
    refine wq_icmp_lt 37 rfl dX7_digitOf_20 (fun c2 => ?_) (fun c2 => ?_)
    · refine wq_iload_n 0 rfl rfl dX7_digitOf_37 ?_
      refine wq_bipush (z := 63) (zlit rfl) rfl dX7_digitOf_38 ?_
      refine wq_icmp_ne 48 rfl dX7_digitOf_40 (fun c3 => ?_) (fun c3 => ?_)
      · refine wq_iconst (z := -1) (zlit rfl) dX7_digitOf_48 ?_
        exact wp_iret rfl dX7_digitOf_49 (((hv.1 c1).1 c2).1 c3)
      · refine wq_bipush (z := 16) (zlit rfl) rfl dX7_digitOf_43 ?_
        refine wq_goto 49 rfl dX7_digitOf_45 ?_
        exact wp_iret rfl dX7_digitOf_49 (((hv.1 c1).1 c2).2 c3)
    · refine wq_iload_n 0 rfl rfl dX7_digitOf_23 ?_
      refine wq_bipush (z := 102) (zlit rfl) rfl dX7_digitOf_24 ?_
      refine wq_icmp_gt 37 rfl dX7_digitOf_26 (fun c4 => ?_) (fun c4 => ?_)
      · refine wq_iload_n 0 rfl rfl dX7_digitOf_37 ?_
        refine wq_bipush (z := 63) (zlit rfl) rfl dX7_digitOf_38 ?_
        refine wq_icmp_ne 48 rfl dX7_digitOf_40 (fun c5 => ?_) (fun c5 => ?_)
        · refine wq_iconst (z := -1) (zlit rfl) dX7_digitOf_48 ?_
          exact wp_iret rfl dX7_digitOf_49 ((((hv.1 c1).2 c2).1 c4).1 c5)
        · refine wq_bipush (z := 16) (zlit rfl) rfl dX7_digitOf_43 ?_
          refine wq_goto 49 rfl dX7_digitOf_45 ?_
          exact wp_iret rfl dX7_digitOf_49 ((((hv.1 c1).2 c2).1 c4).2 c5)
      · refine wq_iload_n 0 rfl rfl dX7_digitOf_29 ?_
        refine wq_bipush (z := 97) (zlit rfl) rfl dX7_digitOf_30 ?_
        refine wq_isub (((hv.1 c1).2 c2).2 c4).1 dX7_digitOf_32 ?_
        refine wq_bipush (z := 10) (zlit rfl) rfl dX7_digitOf_33 ?_
        refine wq_iadd (((hv.1 c1).2 c2).2 c4).2.1 dX7_digitOf_35 ?_
        exact wp_iret rfl dX7_digitOf_36 (((hv.1 c1).2 c2).2 c4).2.2
  · refine wq_iload_n 0 rfl rfl dX7_digitOf_6 ?_
    refine wq_bipush (z := 57) (zlit rfl) rfl dX7_digitOf_7 ?_
    refine wq_icmp_gt 17 rfl dX7_digitOf_9 (fun c6 => ?_) (fun c6 => ?_)
    · refine wq_iload_n 0 rfl rfl dX7_digitOf_17 ?_
      refine wq_bipush (z := 97) (zlit rfl) rfl dX7_digitOf_18 ?_
      refine wq_icmp_lt 37 rfl dX7_digitOf_20 (fun c7 => ?_) (fun c7 => ?_)
      · refine wq_iload_n 0 rfl rfl dX7_digitOf_37 ?_
        refine wq_bipush (z := 63) (zlit rfl) rfl dX7_digitOf_38 ?_
        refine wq_icmp_ne 48 rfl dX7_digitOf_40 (fun c8 => ?_) (fun c8 => ?_)
        · refine wq_iconst (z := -1) (zlit rfl) dX7_digitOf_48 ?_
          exact wp_iret rfl dX7_digitOf_49 ((((hv.2 c1).1 c6).1 c7).1 c8)
        · refine wq_bipush (z := 16) (zlit rfl) rfl dX7_digitOf_43 ?_
          refine wq_goto 49 rfl dX7_digitOf_45 ?_
          exact wp_iret rfl dX7_digitOf_49 ((((hv.2 c1).1 c6).1 c7).2 c8)
      · refine wq_iload_n 0 rfl rfl dX7_digitOf_23 ?_
        refine wq_bipush (z := 102) (zlit rfl) rfl dX7_digitOf_24 ?_
        refine wq_icmp_gt 37 rfl dX7_digitOf_26 (fun c9 => ?_) (fun c9 => ?_)
        · refine wq_iload_n 0 rfl rfl dX7_digitOf_37 ?_
          refine wq_bipush (z := 63) (zlit rfl) rfl dX7_digitOf_38 ?_
          refine wq_icmp_ne 48 rfl dX7_digitOf_40 (fun c10 => ?_) (fun c10 => ?_)
          · refine wq_iconst (z := -1) (zlit rfl) dX7_digitOf_48 ?_
            exact wp_iret rfl dX7_digitOf_49 (((((hv.2 c1).1 c6).2 c7).1 c9).1 c10)
          · refine wq_bipush (z := 16) (zlit rfl) rfl dX7_digitOf_43 ?_
            refine wq_goto 49 rfl dX7_digitOf_45 ?_
            exact wp_iret rfl dX7_digitOf_49 (((((hv.2 c1).1 c6).2 c7).1 c9).2 c10)
        · refine wq_iload_n 0 rfl rfl dX7_digitOf_29 ?_
          refine wq_bipush (z := 97) (zlit rfl) rfl dX7_digitOf_30 ?_
          refine wq_isub ((((hv.2 c1).1 c6).2 c7).2 c9).1 dX7_digitOf_32 ?_
          refine wq_bipush (z := 10) (zlit rfl) rfl dX7_digitOf_33 ?_
          refine wq_iadd ((((hv.2 c1).1 c6).2 c7).2 c9).2.1 dX7_digitOf_35 ?_
          exact wp_iret rfl dX7_digitOf_36 ((((hv.2 c1).1 c6).2 c7).2 c9).2.2
    · refine wq_iload_n 0 rfl rfl dX7_digitOf_12 ?_
      refine wq_bipush (z := 48) (zlit rfl) rfl dX7_digitOf_13 ?_
      refine wq_isub ((hv.2 c1).2 c6).1 dX7_digitOf_15 ?_
      exact wp_iret rfl dX7_digitOf_16 ((hv.2 c1).2 c6).2
