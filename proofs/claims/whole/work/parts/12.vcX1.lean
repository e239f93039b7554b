theorem dX1_expectedOf_0 : decode cX1_expectedOf 0 = .ok (.aload_n 0, 1) := by decide +kernel
theorem dX1_expectedOf_1 : decode cX1_expectedOf 1 = .ok (.getfield 9, 3) := by decide +kernel
theorem dX1_expectedOf_4 : decode cX1_expectedOf 4 = .ok (.iconst 4, 1) := by decide +kernel
theorem dX1_expectedOf_5 : decode cX1_expectedOf 5 = .ok (.if_icmp .ne 8, 3) := by decide +kernel
theorem dX1_expectedOf_8 : decode cX1_expectedOf 8 = .ok (.ldc 19, 2) := by decide +kernel
theorem dX1_expectedOf_10 : decode cX1_expectedOf 10 = .ok (.goto 4, 3) := by decide +kernel
theorem dX1_expectedOf_13 : decode cX1_expectedOf 13 = .ok (.iconst 0, 1) := by decide +kernel
theorem dX1_expectedOf_14 : decode cX1_expectedOf 14 = .ok (.istore_n 2, 1) := by decide +kernel
theorem dX1_expectedOf_15 : decode cX1_expectedOf 15 = .ok (.aload_n 0, 1) := by decide +kernel
theorem dX1_expectedOf_16 : decode cX1_expectedOf 16 = .ok (.getfield 20, 3) := by decide +kernel
theorem dX1_expectedOf_19 : decode cX1_expectedOf 19 = .ok (.istore_n 3, 1) := by decide +kernel
theorem dX1_expectedOf_20 : decode cX1_expectedOf 20 = .ok (.iload_n 3, 1) := by decide +kernel
theorem dX1_expectedOf_21 : decode cX1_expectedOf 21 = .ok (.aload_n 0, 1) := by decide +kernel
theorem dX1_expectedOf_22 : decode cX1_expectedOf 22 = .ok (.getfield 23, 3) := by decide +kernel
theorem dX1_expectedOf_25 : decode cX1_expectedOf 25 = .ok (.if_icmp .ge 62, 3) := by decide +kernel
theorem dX1_expectedOf_28 : decode cX1_expectedOf 28 = .ok (.aload_n 1, 1) := by decide +kernel
theorem dX1_expectedOf_29 : decode cX1_expectedOf 29 = .ok (.iload_n 3, 1) := by decide +kernel
theorem dX1_expectedOf_30 : decode cX1_expectedOf 30 = .ok (.invokevirtual 26, 3) := by decide +kernel
theorem dX1_expectedOf_33 : decode cX1_expectedOf 33 = .ok (.iconst 0, 1) := by decide +kernel
theorem dX1_expectedOf_34 : decode cX1_expectedOf 34 = .ok (.invokestatic 32, 3) := by decide +kernel
theorem dX1_expectedOf_37 : decode cX1_expectedOf 37 = .ok (.istore 4, 2) := by decide +kernel
theorem dX1_expectedOf_39 : decode cX1_expectedOf 39 = .ok (.aload_n 0, 1) := by decide +kernel
theorem dX1_expectedOf_40 : decode cX1_expectedOf 40 = .ok (.getfield 9, 3) := by decide +kernel
theorem dX1_expectedOf_43 : decode cX1_expectedOf 43 = .ok (.iconst 2, 1) := by decide +kernel
theorem dX1_expectedOf_44 : decode cX1_expectedOf 44 = .ok (.if_icmp .ne 11, 3) := by decide +kernel
theorem dX1_expectedOf_47 : decode cX1_expectedOf 47 = .ok (.iload_n 2, 1) := by decide +kernel
theorem dX1_expectedOf_48 : decode cX1_expectedOf 48 = .ok (.iload 4, 2) := by decide +kernel
theorem dX1_expectedOf_50 : decode cX1_expectedOf 50 = .ok (.ixor, 1) := by decide +kernel
theorem dX1_expectedOf_51 : decode cX1_expectedOf 51 = .ok (.istore_n 2, 1) := by decide +kernel
theorem dX1_expectedOf_52 : decode cX1_expectedOf 52 = .ok (.goto 29, 3) := by decide +kernel
theorem dX1_expectedOf_55 : decode cX1_expectedOf 55 = .ok (.aload_n 0, 1) := by decide +kernel
theorem dX1_expectedOf_56 : decode cX1_expectedOf 56 = .ok (.getfield 9, 3) := by decide +kernel
theorem dX1_expectedOf_59 : decode cX1_expectedOf 59 = .ok (.iconst 3, 1) := by decide +kernel
theorem dX1_expectedOf_60 : decode cX1_expectedOf 60 = .ok (.if_icmp .ne 14, 3) := by decide +kernel
theorem dX1_expectedOf_63 : decode cX1_expectedOf 63 = .ok (.iload_n 2, 1) := by decide +kernel
theorem dX1_expectedOf_64 : decode cX1_expectedOf 64 = .ok (.iload 4, 2) := by decide +kernel
theorem dX1_expectedOf_66 : decode cX1_expectedOf 66 = .ok (.iadd, 1) := by decide +kernel
theorem dX1_expectedOf_67 : decode cX1_expectedOf 67 = .ok (.ldc 38, 2) := by decide +kernel
theorem dX1_expectedOf_69 : decode cX1_expectedOf 69 = .ok (.irem, 1) := by decide +kernel
theorem dX1_expectedOf_70 : decode cX1_expectedOf 70 = .ok (.istore_n 2, 1) := by decide +kernel
theorem dX1_expectedOf_71 : decode cX1_expectedOf 71 = .ok (.goto 10, 3) := by decide +kernel
theorem dX1_expectedOf_74 : decode cX1_expectedOf 74 = .ok (.iload_n 2, 1) := by decide +kernel
theorem dX1_expectedOf_75 : decode cX1_expectedOf 75 = .ok (.iload 4, 2) := by decide +kernel
theorem dX1_expectedOf_77 : decode cX1_expectedOf 77 = .ok (.invokestatic 39, 3) := by decide +kernel
theorem dX1_expectedOf_80 : decode cX1_expectedOf 80 = .ok (.istore_n 2, 1) := by decide +kernel
theorem dX1_expectedOf_81 : decode cX1_expectedOf 81 = .ok (.iinc 3 1, 3) := by decide +kernel
theorem dX1_expectedOf_84 : decode cX1_expectedOf 84 = .ok (.goto (-64), 3) := by decide +kernel
theorem dX1_expectedOf_87 : decode cX1_expectedOf 87 = .ok (.iload_n 2, 1) := by decide +kernel
theorem dX1_expectedOf_88 : decode cX1_expectedOf 88 = .ok (.ireturn, 1) := by decide +kernel
theorem vc_X1_expectedOf_0 {G : zG} {d : Nat} {Q : Option zV → zHp → Prop} (p1 : Nat) (hT_p1 : zT 369 p1 = (103, 8)) (p2 : Nat) (hT_p2 : zT 369 p2 = (100, 2)) (h : zHp) (hS : zSh h) (hd : 1 ≤ d) (I_20 : Nat → Nat → Int → Int → zHp → Prop) (hI_20 : ∀ (y0 : Nat) (y1 : Nat) (y2 : Int) (y3 : Int) (h' : zHp), I_20 y0 y1 y2 y3 h' → wpN G d M_X1_expectedOf 20 [(0, vR y0), (1, vR y1), (2, vI y2), (3, vI y3)] [] h' Q) 
    (hv : (((gI h p1 2) ≠ 4 → (∀ x2 : Int, x2 = (gI h p1 4) → (zSh h → I_20 p1 p2 0 x2 h))) ∧ ((gI h p1 2) = 4 → (∀ x4 : Int, x4 = (gI h p1 4) → (zSh h → I_20 p1 p2 65535 x4 h))))) : wpN G d M_X1_expectedOf 0 [(0, vR p1), (1, vR p2)] [] h Q := by
  refine wq_aload_n 0 rfl rfl dX1_expectedOf_0 ?_
  refine wq_getI fk_X1_9 hT_p1 (fun _ _ _ => rfl) dX1_expectedOf_1 ?_
  refine wq_iconst (z := 4) (zlit rfl) dX1_expectedOf_4 ?_
  refine wq_icmp_ne 13 rfl dX1_expectedOf_5 (fun c1 => ?_) (fun c1 => ?_)
  · refine wq_iconst (z := 0) (zlit rfl) dX1_expectedOf_13 ?_
    refine wq_istore_n (ls' := [(0, vR p1), (1, vR p2), (2, vI 0)]) rfl (by decide) rfl dX1_expectedOf_14 ?_
    refine wq_aload_n 0 rfl rfl dX1_expectedOf_15 ?_
    refine wq_getI fk_X1_20 hT_p1 (fun _ _ _ => rfl) dX1_expectedOf_16 ?_
    refine wq_topI (fun x2 e3 => ?_)
    refine wq_istore_n (ls' := [(0, vR p1), (1, vR p2), (2, vI 0), (3, vI x2)]) rfl (by decide) rfl dX1_expectedOf_19 ?_
    exact wq_pick [0, 1, 2, 3] rfl (hI_20 p1 p2 0 x2 h (((hv.1 c1) x2 e3) hS))
  · refine wq_ldc (z := 65535) (zlit rfl) kc_X1_19 dX1_expectedOf_8 ?_
    refine wq_goto 14 rfl dX1_expectedOf_10 ?_
    refine wq_istore_n (ls' := [(0, vR p1), (1, vR p2), (2, vI 65535)]) rfl (by decide) rfl dX1_expectedOf_14 ?_
    refine wq_aload_n 0 rfl rfl dX1_expectedOf_15 ?_
    refine wq_getI fk_X1_20 hT_p1 (fun _ _ _ => rfl) dX1_expectedOf_16 ?_
    refine wq_topI (fun x4 e5 => ?_)
    refine wq_istore_n (ls' := [(0, vR p1), (1, vR p2), (2, vI 65535), (3, vI x4)]) rfl (by decide) rfl dX1_expectedOf_19 ?_
    exact wq_pick [0, 1, 2, 3] rfl (hI_20 p1 p2 65535 x4 h (((hv.2 c1) x4 e5) hS))
theorem vc_X1_expectedOf_20 {G : zG} {d : Nat} {Q : Option zV → zHp → Prop} (y0 : Nat) (hT_y0 : zT 369 y0 = (103, 8)) (y1 : Nat) (hT_y1 : zT 369 y1 = (100, 2)) (y2 : Int) (y3 : Int) (h : zHp) (hS : zSh h) (hd : 1 ≤ d) (I_20 : Nat → Nat → Int → Int → zHp → Prop) (hI_20 : ∀ (y0 : Nat) (y1 : Nat) (y2 : Int) (y3 : Int) (h' : zHp), I_20 y0 y1 y2 y3 h' → wpN G d M_X1_expectedOf 20 [(0, vR y0), (1, vR y1), (2, vI y2), (3, vI y3)] [] h' Q) 
    (hv : (((gI h y0 5) ≤ y3 → Q (some (vI y2)) h) ∧ (y3 < (gI h y0 5) → (wpN G (d - 1) M_X0_get 0 (zar 0 [vR y1, vI y3]) [] h (qI (fun z2 h3 => zSh h3 ∧ (wpN G (d - 1) M_J9_max_7cf53 0 (zar 0 [vI z2, vI 0]) [] h3 (qI (fun z6 h7 => zSh h7 ∧ (((gI h7 y0 2) ≠ 2 → (((gI h7 y0 2) ≠ 3 → (wpN G (d - 1) M_X1_feed 0 (zar 0 [vI y2, vI z6]) [] h7 (qI (fun z12 h13 => zSh h13 ∧ ((-2147483648 ≤ y3 + 1 ∧ y3 + 1 ≤ 2147483647) ∧ ∀ x16 : Int, x16 = y3 + 1 → (zSh h13 → I_20 y0 y1 z12 x16 h13)))))) ∧ ((gI h7 y0 2) = 3 → ((-2147483648 ≤ y2 + z6 ∧ y2 + z6 ≤ 2147483647) ∧ (∀ x18 : Int, x18 = ((y2 + z6).tmod 65536) → ((-2147483648 ≤ y3 + 1 ∧ y3 + 1 ≤ 2147483647) ∧ ∀ x20 : Int, x20 = y3 + 1 → (zSh h7 → I_20 y0 y1 x18 x20 h7))))))) ∧ ((gI h7 y0 2) = 2 → (∀ x22 : Int, x22 = (zxor y2 z6) → ((-2147483648 ≤ y3 + 1 ∧ y3 + 1 ≤ 2147483647) ∧ ∀ x24 : Int, x24 = y3 + 1 → (zSh h7 → I_20 y0 y1 x22 x24 h7)))))))))))))) : wpN G d M_X1_expectedOf 20 [(0, vR y0), (1, vR y1), (2, vI y2), (3, vI y3)] [] h Q := by
  refine wq_iload_n 3 rfl rfl dX1_expectedOf_20 ?_
  refine wq_aload_n 0 rfl rfl dX1_expectedOf_21 ?_
  refine wq_getI fk_X1_23 hT_y0 (fun _ _ _ => rfl) dX1_expectedOf_22 ?_
  refine wq_icmp_ge 87 rfl dX1_expectedOf_25 (fun c1 => ?_) (fun c1 => ?_)
  · refine wq_iload_n 2 rfl rfl dX1_expectedOf_87 ?_
    exact wp_iret rfl dX1_expectedOf_88 (hv.1 c1)
  · refine wq_aload_n 1 rfl rfl dX1_expectedOf_28 ?_
    refine wq_iload_n 3 rfl rfl dX1_expectedOf_29 ?_
    refine wN_V (As := [vI y3]) vm_X0_get lk_X1_26 hT_y1 rfl rfl (Nat.le_of_ble_eq_true rfl) (Nat.le_of_ble_eq_true rfl) (d' := d - 1) (by omega) dX1_expectedOf_30 (hv.2 c1) (fun v9 h3 q4 => ?_)
    obtain ⟨z2, rfl, hS5, q4⟩ := q4
    refine wq_st (st' := [vI z2]) rfl ?_
    refine wq_iconst (z := 0) (zlit rfl) dX1_expectedOf_33 ?_
    refine wN_S (As := [vI z2, vI 0]) md_J9_max_7cf53 ms_J9_max_7cf53 lk_X1_32 rfl rfl (Nat.le_of_ble_eq_true rfl) (Nat.le_of_ble_eq_true rfl) (d' := d - 1) (by omega) dX1_expectedOf_34 q4 (fun v9 h7 q8 => ?_)
    obtain ⟨z6, rfl, hS9, q8⟩ := q8
    refine wq_st (st' := [vI z6]) rfl ?_
    refine wq_istore (ls' := [(0, vR y0), (1, vR y1), (2, vI y2), (3, vI y3), (4, vI z6)]) (by decide) rfl dX1_expectedOf_37 ?_
    refine wq_aload_n 0 rfl rfl dX1_expectedOf_39 ?_
    refine wq_getI fk_X1_9 hT_y0 (fun _ _ _ => rfl) dX1_expectedOf_40 ?_
    refine wq_iconst (z := 2) (zlit rfl) dX1_expectedOf_43 ?_
    refine wq_icmp_ne 55 rfl dX1_expectedOf_44 (fun c10 => ?_) (fun c10 => ?_)
    · refine wq_aload_n 0 rfl rfl dX1_expectedOf_55 ?_
      refine wq_getI fk_X1_9 hT_y0 (fun _ _ _ => rfl) dX1_expectedOf_56 ?_
      refine wq_iconst (z := 3) (zlit rfl) dX1_expectedOf_59 ?_
      refine wq_icmp_ne 74 rfl dX1_expectedOf_60 (fun c11 => ?_) (fun c11 => ?_)
      · refine wq_iload_n 2 rfl rfl dX1_expectedOf_74 ?_
        refine wq_iload 4 rfl dX1_expectedOf_75 ?_
        refine wN_S (As := [vI y2, vI z6]) md_X1_feed ms_X1_feed lk_X1_39 rfl rfl (Nat.le_of_ble_eq_true rfl) (Nat.le_of_ble_eq_true rfl) (d' := d - 1) (by omega) dX1_expectedOf_77 ((q8.1 c10).1 c11) (fun v9 h13 q14 => ?_)
        obtain ⟨z12, rfl, hS15, q14⟩ := q14
        refine wq_st (st' := [vI z12]) rfl ?_
        refine wq_istore_n (ls' := [(0, vR y0), (1, vR y1), (2, vI z12), (3, vI y3), (4, vI z6)]) rfl (by decide) rfl dX1_expectedOf_80 ?_
        refine z_nm (y3 + 1) (fun x16 e17 => ?_)
        refine wq_iinc (y := x16) (ls' := [(0, vR y0), (1, vR y1), (2, vI z12), (3, vI x16), (4, vI z6)]) 3 rfl e17.symm (by rw [e17]; exact q14.1) (by decide) rfl dX1_expectedOf_81 ?_
        refine wq_goto 20 rfl dX1_expectedOf_84 ?_
        exact wq_pick [0, 1, 2, 3] rfl (hI_20 y0 y1 z12 x16 h13 ((q14.2 x16 e17) hS15))
      · refine wq_iload_n 2 rfl rfl dX1_expectedOf_63 ?_
        refine wq_iload 4 rfl dX1_expectedOf_64 ?_
        refine wq_iadd ((q8.1 c10).2 c11).1 dX1_expectedOf_66 ?_
        refine wq_ldc (z := 65536) (zlit rfl) kc_X1_38 dX1_expectedOf_67 ?_
        refine wq_irem (by decide) dX1_expectedOf_69 ?_
        refine wq_topI (fun x18 e19 => ?_)
        refine wq_istore_n (ls' := [(0, vR y0), (1, vR y1), (2, vI x18), (3, vI y3), (4, vI z6)]) rfl (by decide) rfl dX1_expectedOf_70 ?_
        refine wq_goto 81 rfl dX1_expectedOf_71 ?_
        refine z_nm (y3 + 1) (fun x20 e21 => ?_)
        refine wq_iinc (y := x20) (ls' := [(0, vR y0), (1, vR y1), (2, vI x18), (3, vI x20), (4, vI z6)]) 3 rfl e21.symm (by rw [e21]; exact (((q8.1 c10).2 c11).2 x18 e19).1) (by decide) rfl dX1_expectedOf_81 ?_
        refine wq_goto 20 rfl dX1_expectedOf_84 ?_
        exact wq_pick [0, 1, 2, 3] rfl (hI_20 y0 y1 x18 x20 h7 (((((q8.1 c10).2 c11).2 x18 e19).2 x20 e21) hS9))
    · refine wq_iload_n 2 rfl rfl dX1_expectedOf_47 ?_
      refine wq_iload 4 rfl dX1_expectedOf_48 ?_
      refine wq_ixor dX1_expectedOf_50 ?_
      refine wq_topI (fun x22 e23 => ?_)
      refine wq_istore_n (ls' := [(0, vR y0), (1, vR y1), (2, vI x22), (3, vI y3), (4, vI z6)]) rfl (by decide) rfl dX1_expectedOf_51 ?_
      refine wq_goto 81 rfl dX1_expectedOf_52 ?_
      refine z_nm (y3 + 1) (fun x24 e25 => ?_)
      refine wq_iinc (y := x24) (ls' := [(0, vR y0), (1, vR y1), (2, vI x22), (3, vI x24), (4, vI z6)]) 3 rfl e25.symm (by rw [e25]; exact ((q8.2 c10) x22 e23).1) (by decide) rfl dX1_expectedOf_81 ?_
      refine wq_goto 20 rfl dX1_expectedOf_84 ?_
      exact wq_pick [0, 1, 2, 3] rfl (hI_20 y0 y1 x22 x24 h7 ((((q8.2 c10) x22 e23).2 x24 e25) hS9))
theorem dX1_isWrong_0 : decode cX1_isWrong 0 = .ok (.aload_n 0, 1) := by decide +kernel
theorem dX1_isWrong_1 : decode cX1_isWrong 1 = .ok (.invokevirtual 42, 3) := by decide +kernel
theorem dX1_isWrong_4 : decode cX1_isWrong 4 = .ok (.ifCond .eq 22, 3) := by decide +kernel
theorem dX1_isWrong_7 : decode cX1_isWrong 7 = .ok (.aload_n 1, 1) := by decide +kernel
theorem dX1_isWrong_8 : decode cX1_isWrong 8 = .ok (.aload_n 0, 1) := by decide +kernel
theorem dX1_isWrong_9 : decode cX1_isWrong 9 = .ok (.invokevirtual 46, 3) := by decide +kernel
theorem dX1_isWrong_12 : decode cX1_isWrong 12 = .ok (.aload_n 0, 1) := by decide +kernel
theorem dX1_isWrong_13 : decode cX1_isWrong 13 = .ok (.aload_n 1, 1) := by decide +kernel
theorem dX1_isWrong_14 : decode cX1_isWrong 14 = .ok (.invokestatic 50, 3) := by decide +kernel
theorem dX1_isWrong_17 : decode cX1_isWrong 17 = .ok (.i2l, 1) := by decide +kernel
theorem dX1_isWrong_18 : decode cX1_isWrong 18 = .ok (.lcmp, 1) := by decide +kernel
theorem dX1_isWrong_19 : decode cX1_isWrong 19 = .ok (.ifCond .eq 7, 3) := by decide +kernel
theorem dX1_isWrong_22 : decode cX1_isWrong 22 = .ok (.iconst 1, 1) := by decide +kernel
theorem dX1_isWrong_23 : decode cX1_isWrong 23 = .ok (.goto 4, 3) := by decide +kernel
theorem dX1_isWrong_26 : decode cX1_isWrong 26 = .ok (.iconst 0, 1) := by decide +kernel
theorem dX1_isWrong_27 : decode cX1_isWrong 27 = .ok (.ireturn, 1) := by decide +kernel
theorem vc_X1_isWrong_0 {G : zG} {d : Nat} {Q : Option zV → zHp → Prop} (p1 : Nat) (hT_p1 : zT 369 p1 = (103, 8)) (p2 : Nat) (hT_p2 : zT 369 p2 = (100, 2)) (h : zHp) (hS : zSh h) (hd : 2 ≤ d)  
    (hv : (wpN G (d - 1) M_X3_isCheck 0 (zar 0 [vR p1]) [] h (qI (fun z1 h2 => zSh h2 ∧ ((z1 = 0 → Q (some (vI 0)) h2) ∧ (z1 ≠ 0 → (wpN G (d - 1) M_X0_read 0 (zar 0 [vR p2, vR p1]) [] h2 (qL (fun z6 h7 => zSh h7 ∧ (wpN G (d - 1) M_X1_expectedOf 0 (zar 0 [vR p1, vR p2]) [] h7 (qI (fun z10 h11 => zSh h11 ∧ ((z6 = z10 → Q (some (vI 0)) h11) ∧ (z6 ≠ z10 → Q (some (vI 1)) h11)))))))))))))) : wpN G d M_X1_isWrong 0 [(0, vR p1), (1, vR p2)] [] h Q := by
  refine wq_aload_n 0 rfl rfl dX1_isWrong_0 ?_
  refine wN_V (As := []) vm_X3_isCheck lk_X1_42 hT_p1 rfl rfl (Nat.le_of_ble_eq_true rfl) (Nat.le_of_ble_eq_true rfl) (d' := d - 1) (by omega) dX1_isWrong_1 hv (fun v9 h2 q3 => ?_)
  obtain ⟨z1, rfl, hS4, q3⟩ := q3
  refine wq_st (st' := [vI z1]) rfl ?_
  refine wq_if_eq 26 rfl dX1_isWrong_4 (fun c5 => ?_) (fun c5 => ?_)
  · refine wq_iconst (z := 0) (zlit rfl) dX1_isWrong_26 ?_
    exact wp_zret (Or.inl rfl) rfl dX1_isWrong_27 (q3.1 c5)
  · refine wq_aload_n 1 rfl rfl dX1_isWrong_7 ?_
    refine wq_aload_n 0 rfl rfl dX1_isWrong_8 ?_
    refine wN_V (As := [vR p1]) vm_X0_read lk_X1_46 hT_p2 rfl rfl (Nat.le_of_ble_eq_true rfl) (Nat.le_of_ble_eq_true rfl) (d' := d - 1) (by omega) dX1_isWrong_9 (q3.2 c5) (fun v9 h7 q8 => ?_)
    obtain ⟨z6, rfl, hS9, q8⟩ := q8
    refine wq_st (st' := [vL z6]) rfl ?_
    refine wq_aload_n 0 rfl rfl dX1_isWrong_12 ?_
    refine wq_aload_n 1 rfl rfl dX1_isWrong_13 ?_
    refine wN_S (As := [vR p1, vR p2]) md_X1_expectedOf ms_X1_expectedOf lk_X1_50 rfl rfl (Nat.le_of_ble_eq_true rfl) (Nat.le_of_ble_eq_true rfl) (d' := d - 1) (by omega) dX1_isWrong_14 q8 (fun v9 h11 q12 => ?_)
    obtain ⟨z10, rfl, hS13, q12⟩ := q12
    refine wq_st (st' := [vI z10, vL z6]) rfl ?_
    refine wq_i2l dX1_isWrong_17 ?_
    refine wq_lcmp_eq 26 rfl dX1_isWrong_18 dX1_isWrong_19 (fun c14 => ?_) (fun c14 => ?_)
    · refine wq_iconst (z := 0) (zlit rfl) dX1_isWrong_26 ?_
      exact wp_zret (Or.inl rfl) rfl dX1_isWrong_27 (q12.1 c14)
    · refine wq_iconst (z := 1) (zlit rfl) dX1_isWrong_22 ?_
      refine wq_goto 27 rfl dX1_isWrong_23 ?_
      exact wp_zret (Or.inr rfl) rfl dX1_isWrong_27 (q12.2 c14)
theorem dX1_repairOf_0 : decode cX1_repairOf 0 = .ok (.aload_n 0, 1) := by decide +kernel
theorem dX1_repairOf_1 : decode cX1_repairOf 1 = .ok (.getfield 23, 3) := by decide +kernel
theorem dX1_repairOf_4 : decode cX1_repairOf 4 = .ok (.aload_n 0, 1) := by decide +kernel
theorem dX1_repairOf_5 : decode cX1_repairOf 5 = .ok (.getfield 20, 3) := by decide +kernel
theorem dX1_repairOf_8 : decode cX1_repairOf 8 = .ok (.iload_n 2, 1) := by decide +kernel
theorem dX1_repairOf_9 : decode cX1_repairOf 9 = .ok (.iadd, 1) := by decide +kernel
theorem dX1_repairOf_10 : decode cX1_repairOf 10 = .ok (.invokestatic 54, 3) := by decide +kernel
theorem dX1_repairOf_13 : decode cX1_repairOf 13 = .ok (.istore_n 3, 1) := by decide +kernel
theorem dX1_repairOf_14 : decode cX1_repairOf 14 = .ok (.aload_n 0, 1) := by decide +kernel
theorem dX1_repairOf_15 : decode cX1_repairOf 15 = .ok (.getfield 9, 3) := by decide +kernel
theorem dX1_repairOf_18 : decode cX1_repairOf 18 = .ok (.iconst 4, 1) := by decide +kernel
theorem dX1_repairOf_19 : decode cX1_repairOf 19 = .ok (.if_icmp .ne 10, 3) := by decide +kernel
theorem dX1_repairOf_22 : decode cX1_repairOf 22 = .ok (.aload_n 0, 1) := by decide +kernel
theorem dX1_repairOf_23 : decode cX1_repairOf 23 = .ok (.aload_n 1, 1) := by decide +kernel
theorem dX1_repairOf_24 : decode cX1_repairOf 24 = .ok (.iload_n 3, 1) := by decide +kernel
theorem dX1_repairOf_25 : decode cX1_repairOf 25 = .ok (.invokestatic 57, 3) := by decide +kernel
theorem dX1_repairOf_28 : decode cX1_repairOf 28 = .ok (.ireturn, 1) := by decide +kernel
theorem dX1_repairOf_29 : decode cX1_repairOf 29 = .ok (.aload_n 1, 1) := by decide +kernel
theorem dX1_repairOf_30 : decode cX1_repairOf 30 = .ok (.aload_n 0, 1) := by decide +kernel
theorem dX1_repairOf_31 : decode cX1_repairOf 31 = .ok (.invokevirtual 46, 3) := by decide +kernel
theorem dX1_repairOf_34 : decode cX1_repairOf 34 = .ok (.l2i, 1) := by decide +kernel
theorem dX1_repairOf_35 : decode cX1_repairOf 35 = .ok (.istore 4, 2) := by decide +kernel
theorem dX1_repairOf_37 : decode cX1_repairOf 37 = .ok (.aload_n 0, 1) := by decide +kernel
theorem dX1_repairOf_38 : decode cX1_repairOf 38 = .ok (.aload_n 1, 1) := by decide +kernel
theorem dX1_repairOf_39 : decode cX1_repairOf 39 = .ok (.invokestatic 50, 3) := by decide +kernel
theorem dX1_repairOf_42 : decode cX1_repairOf 42 = .ok (.istore 5, 2) := by decide +kernel
theorem dX1_repairOf_44 : decode cX1_repairOf 44 = .ok (.aload_n 0, 1) := by decide +kernel
theorem dX1_repairOf_45 : decode cX1_repairOf 45 = .ok (.getfield 20, 3) := by decide +kernel
theorem dX1_repairOf_48 : decode cX1_repairOf 48 = .ok (.istore 6, 2) := by decide +kernel
theorem dX1_repairOf_50 : decode cX1_repairOf 50 = .ok (.iload 6, 2) := by decide +kernel
theorem dX1_repairOf_52 : decode cX1_repairOf 52 = .ok (.iload_n 3, 1) := by decide +kernel
theorem dX1_repairOf_53 : decode cX1_repairOf 53 = .ok (.if_icmp .ge 69, 3) := by decide +kernel
theorem dX1_repairOf_56 : decode cX1_repairOf 56 = .ok (.aload_n 1, 1) := by decide +kernel
theorem dX1_repairOf_57 : decode cX1_repairOf 57 = .ok (.iload 6, 2) := by decide +kernel
theorem dX1_repairOf_59 : decode cX1_repairOf 59 = .ok (.invokevirtual 26, 3) := by decide +kernel
theorem dX1_repairOf_62 : decode cX1_repairOf 62 = .ok (.istore 7, 2) := by decide +kernel
theorem dX1_repairOf_64 : decode cX1_repairOf 64 = .ok (.aload_n 0, 1) := by decide +kernel
theorem dX1_repairOf_65 : decode cX1_repairOf 65 = .ok (.getfield 9, 3) := by decide +kernel
theorem dX1_repairOf_68 : decode cX1_repairOf 68 = .ok (.iconst 2, 1) := by decide +kernel
theorem dX1_repairOf_69 : decode cX1_repairOf 69 = .ok (.if_icmp .ne 14, 3) := by decide +kernel
theorem dX1_repairOf_72 : decode cX1_repairOf 72 = .ok (.iload 7, 2) := by decide +kernel
theorem dX1_repairOf_74 : decode cX1_repairOf 74 = .ok (.iload 5, 2) := by decide +kernel
theorem dX1_repairOf_76 : decode cX1_repairOf 76 = .ok (.ixor, 1) := by decide +kernel
theorem dX1_repairOf_77 : decode cX1_repairOf 77 = .ok (.iload 4, 2) := by decide +kernel
theorem dX1_repairOf_79 : decode cX1_repairOf 79 = .ok (.ixor, 1) := by decide +kernel
theorem dX1_repairOf_80 : decode cX1_repairOf 80 = .ok (.goto 16, 3) := by decide +kernel
theorem dX1_repairOf_83 : decode cX1_repairOf 83 = .ok (.iload 7, 2) := by decide +kernel
theorem dX1_repairOf_85 : decode cX1_repairOf 85 = .ok (.iload 4, 2) := by decide +kernel
theorem dX1_repairOf_87 : decode cX1_repairOf 87 = .ok (.iadd, 1) := by decide +kernel
theorem dX1_repairOf_88 : decode cX1_repairOf 88 = .ok (.iload 5, 2) := by decide +kernel
theorem dX1_repairOf_90 : decode cX1_repairOf 90 = .ok (.isub, 1) := by decide +kernel
theorem dX1_repairOf_91 : decode cX1_repairOf 91 = .ok (.ldc 38, 2) := by decide +kernel
theorem dX1_repairOf_93 : decode cX1_repairOf 93 = .ok (.invokestatic 61, 3) := by decide +kernel
theorem dX1_repairOf_96 : decode cX1_repairOf 96 = .ok (.istore 8, 2) := by decide +kernel
theorem dX1_repairOf_98 : decode cX1_repairOf 98 = .ok (.iload 8, 2) := by decide +kernel
theorem dX1_repairOf_100 : decode cX1_repairOf 100 = .ok (.sipush 255, 3) := by decide +kernel
theorem dX1_repairOf_103 : decode cX1_repairOf 103 = .ok (.if_icmp .gt 13, 3) := by decide +kernel
theorem dX1_repairOf_106 : decode cX1_repairOf 106 = .ok (.sipush 256, 3) := by decide +kernel
theorem dX1_repairOf_109 : decode cX1_repairOf 109 = .ok (.iload 6, 2) := by decide +kernel
theorem dX1_repairOf_111 : decode cX1_repairOf 111 = .ok (.imul, 1) := by decide +kernel
theorem dX1_repairOf_112 : decode cX1_repairOf 112 = .ok (.iload 8, 2) := by decide +kernel
theorem dX1_repairOf_114 : decode cX1_repairOf 114 = .ok (.iadd, 1) := by decide +kernel
theorem dX1_repairOf_115 : decode cX1_repairOf 115 = .ok (.ireturn, 1) := by decide +kernel
theorem dX1_repairOf_116 : decode cX1_repairOf 116 = .ok (.iinc 6 1, 3) := by decide +kernel
theorem dX1_repairOf_119 : decode cX1_repairOf 119 = .ok (.goto (-69), 3) := by decide +kernel
theorem dX1_repairOf_122 : decode cX1_repairOf 122 = .ok (.sipush (-1009), 3) := by decide +kernel
theorem dX1_repairOf_125 : decode cX1_repairOf 125 = .ok (.ireturn, 1) := by decide +kernel
theorem vc_X1_repairOf_0 {G : zG} {d : Nat} {Q : Option zV → zHp → Prop} (p1 : Nat) (hT_p1 : zT 369 p1 = (103, 8)) (p2 : Nat) (hT_p2 : zT 369 p2 = (100, 2)) (p3 : Int) (h : zHp) (hS : zSh h) (hd : 2 ≤ d) (I_50 : Nat → Nat → Int → Int → Int → Int → Int → zHp → Prop) (hI_50 : ∀ (y0 : Nat) (y1 : Nat) (y2 : Int) (y3 : Int) (y4 : Int) (y5 : Int) (y6 : Int) (h' : zHp), I_50 y0 y1 y2 y3 y4 y5 y6 h' → wpN G d M_X1_repairOf 50 [(0, vR y0), (1, vR y1), (2, vI y2), (3, vI y3), (4, vI y4), (5, vI y5), (6, vI y6)] [] h' Q) 
    (hv : ((-2147483648 ≤ (gI h p1 4) + p3 ∧ (gI h p1 4) + p3 ≤ 2147483647) ∧ (wpN G (d - 1) M_J9_min_7cf53 0 (zar 0 [vI (gI h p1 5), vI ((gI h p1 4) + p3)]) [] h (qI (fun z1 h2 => zSh h2 ∧ (((gI h2 p1 2) ≠ 4 → (wpN G (d - 1) M_X0_read 0 (zar 0 [vR p2, vR p1]) [] h2 (qL (fun z6 h7 => zSh h7 ∧ (∀ x10 : Int, x10 = (w32 z6) → (wpN G (d - 1) M_X1_expectedOf 0 (zar 0 [vR p1, vR p2]) [] h7 (qI (fun z12 h13 => zSh h13 ∧ (∀ x16 : Int, x16 = (gI h13 p1 4) → (zSh h13 → I_50 p1 p2 p3 z1 x10 z12 x16 h13)))))))))) ∧ ((gI h2 p1 2) = 4 → (wpN G (d - 1) M_X1_repairOfCrc 0 (zar 0 [vR p1, vR p2, vI z1]) [] h2 (qI (fun z18 h19 => zSh h19 ∧ Q (some (vI z18)) h19)))))))))) : wpN G d M_X1_repairOf 0 [(0, vR p1), (1, vR p2), (2, vI p3)] [] h Q := by
  refine wq_aload_n 0 rfl rfl dX1_repairOf_0 ?_
  refine wq_getI fk_X1_23 hT_p1 (fun _ _ _ => rfl) dX1_repairOf_1 ?_
  refine wq_aload_n 0 rfl rfl dX1_repairOf_4 ?_
  refine wq_getI fk_X1_20 hT_p1 (fun _ _ _ => rfl) dX1_repairOf_5 ?_
  refine wq_iload_n 2 rfl rfl dX1_repairOf_8 ?_
  refine wq_iadd hv.1 dX1_repairOf_9 ?_
  refine wN_S (As := [vI (gI h p1 5), vI ((gI h p1 4) + p3)]) md_J9_min_7cf53 ms_J9_min_7cf53 lk_X1_54 rfl rfl (Nat.le_of_ble_eq_true rfl) (Nat.le_of_ble_eq_true rfl) (d' := d - 1) (by omega) dX1_repairOf_10 hv.2 (fun v9 h2 q3 => ?_)
  obtain ⟨z1, rfl, hS4, q3⟩ := q3
  refine wq_st (st' := [vI z1]) rfl ?_
  refine wq_istore_n (ls' := [(0, vR p1), (1, vR p2), (2, vI p3), (3, vI z1)]) rfl (by decide) rfl dX1_repairOf_13 ?_
  refine wq_aload_n 0 rfl rfl dX1_repairOf_14 ?_
  refine wq_getI fk_X1_9 hT_p1 (fun _ _ _ => rfl) dX1_repairOf_15 ?_
  refine wq_iconst (z := 4) (zlit rfl) dX1_repairOf_18 ?_
  refine wq_icmp_ne 29 rfl dX1_repairOf_19 (fun c5 => ?_) (fun c5 => ?_)
  · refine wq_aload_n 1 rfl rfl dX1_repairOf_29 ?_
    refine wq_aload_n 0 rfl rfl dX1_repairOf_30 ?_
    refine wN_V (As := [vR p1]) vm_X0_read lk_X1_46 hT_p2 rfl rfl (Nat.le_of_ble_eq_true rfl) (Nat.le_of_ble_eq_true rfl) (d' := d - 1) (by omega) dX1_repairOf_31 (q3.1 c5) (fun v9 h7 q8 => ?_)
    obtain ⟨z6, rfl, hS9, q8⟩ := q8
    refine wq_st (st' := [vL z6]) rfl ?_
    refine wq_l2i dX1_repairOf_34 ?_
    refine wq_topI (fun x10 e11 => ?_)
    refine wq_istore (ls' := [(0, vR p1), (1, vR p2), (2, vI p3), (3, vI z1), (4, vI x10)]) (by decide) rfl dX1_repairOf_35 ?_
    refine wq_aload_n 0 rfl rfl dX1_repairOf_37 ?_
    refine wq_aload_n 1 rfl rfl dX1_repairOf_38 ?_
    refine wN_S (As := [vR p1, vR p2]) md_X1_expectedOf ms_X1_expectedOf lk_X1_50 rfl rfl (Nat.le_of_ble_eq_true rfl) (Nat.le_of_ble_eq_true rfl) (d' := d - 1) (by omega) dX1_repairOf_39 (q8 x10 e11) (fun v9 h13 q14 => ?_)
    obtain ⟨z12, rfl, hS15, q14⟩ := q14
    refine wq_st (st' := [vI z12]) rfl ?_
    refine wq_istore (ls' := [(0, vR p1), (1, vR p2), (2, vI p3), (3, vI z1), (4, vI x10), (5, vI z12)]) (by decide) rfl dX1_repairOf_42 ?_
    refine wq_aload_n 0 rfl rfl dX1_repairOf_44 ?_
    refine wq_getI fk_X1_20 hT_p1 (fun _ _ _ => rfl) dX1_repairOf_45 ?_
    refine wq_topI (fun x16 e17 => ?_)
    refine wq_istore (ls' := [(0, vR p1), (1, vR p2), (2, vI p3), (3, vI z1), (4, vI x10), (5, vI z12), (6, vI x16)]) (by decide) rfl dX1_repairOf_48 ?_
    exact wq_pick [0, 1, 2, 3, 4, 5, 6] rfl (hI_50 p1 p2 p3 z1 x10 z12 x16 h13 ((q14 x16 e17) hS15))
  · refine wq_aload_n 0 rfl rfl dX1_repairOf_22 ?_
    refine wq_aload_n 1 rfl rfl dX1_repairOf_23 ?_
    refine wq_iload_n 3 rfl rfl dX1_repairOf_24 ?_
    refine wN_S (As := [vR p1, vR p2, vI z1]) md_X1_repairOfCrc ms_X1_repairOfCrc lk_X1_57 rfl rfl (Nat.le_of_ble_eq_true rfl) (Nat.le_of_ble_eq_true rfl) (d' := d - 1) (by omega) dX1_repairOf_25 (q3.2 c5) (fun v9 h19 q20 => ?_)
    obtain ⟨z18, rfl, hS21, q20⟩ := q20
    refine wq_st (st' := [vI z18]) rfl ?_
    exact wp_iret rfl dX1_repairOf_28 q20
theorem vc_X1_repairOf_50 {G : zG} {d : Nat} {Q : Option zV → zHp → Prop} (y0 : Nat) (hT_y0 : zT 369 y0 = (103, 8)) (y1 : Nat) (hT_y1 : zT 369 y1 = (100, 2)) (y2 : Int) (y3 : Int) (y4 : Int) (y5 : Int) (y6 : Int) (h : zHp) (hS : zSh h) (hd : 2 ≤ d) (I_50 : Nat → Nat → Int → Int → Int → Int → Int → zHp → Prop) (hI_50 : ∀ (y0 : Nat) (y1 : Nat) (y2 : Int) (y3 : Int) (y4 : Int) (y5 : Int) (y6 : Int) (h' : zHp), I_50 y0 y1 y2 y3 y4 y5 y6 h' → wpN G d M_X1_repairOf 50 [(0, vR y0), (1, vR y1), (2, vI y2), (3, vI y3), (4, vI y4), (5, vI y5), (6, vI y6)] [] h' Q) 
    (hv : ((y3 ≤ y6 → Q (some (vI (-1009))) h) ∧ (y6 < y3 → (wpN G (d - 1) M_X0_get 0 (zar 0 [vR y1, vI y6]) [] h (qI (fun z2 h3 => zSh h3 ∧ (((gI h3 y0 2) ≠ 2 → ((-2147483648 ≤ z2 + y4 ∧ z2 + y4 ≤ 2147483647) ∧ ((-2147483648 ≤ (z2 + y4) - y5 ∧ (z2 + y4) - y5 ≤ 2147483647) ∧ (wpN G (d - 1) M_J9_floorMod_7cf53 0 (zar 0 [vI ((z2 + y4) - y5), vI 65536]) [] h3 (qI (fun z7 h8 => zSh h8 ∧ ((255 < z7 → ((-2147483648 ≤ y6 + 1 ∧ y6 + 1 ≤ 2147483647) ∧ ∀ x12 : Int, x12 = y6 + 1 → (zSh h8 → I_50 y0 y1 y2 y3 y4 y5 x12 h8))) ∧ (z7 ≤ 255 → ((-2147483648 ≤ 256 * y6 ∧ 256 * y6 ≤ 2147483647) ∧ ((-2147483648 ≤ (256 * y6) + z7 ∧ (256 * y6) + z7 ≤ 2147483647) ∧ Q (some (vI ((256 * y6) + z7))) h8)))))))))) ∧ ((gI h3 y0 2) = 2 → (∀ x14 : Int, x14 = (zxor (zxor z2 y5) y4) → ((255 < x14 → ((-2147483648 ≤ y6 + 1 ∧ y6 + 1 ≤ 2147483647) ∧ ∀ x17 : Int, x17 = y6 + 1 → (zSh h3 → I_50 y0 y1 y2 y3 y4 y5 x17 h3))) ∧ (x14 ≤ 255 → ((-2147483648 ≤ 256 * y6 ∧ 256 * y6 ≤ 2147483647) ∧ ((-2147483648 ≤ (256 * y6) + x14 ∧ (256 * y6) + x14 ≤ 2147483647) ∧ Q (some (vI ((256 * y6) + x14))) h3))))))))))))) : wpN G d M_X1_repairOf 50 [(0, vR y0), (1, vR y1), (2, vI y2), (3, vI y3), (4, vI y4), (5, vI y5), (6, vI y6)] [] h Q := by
  refine wq_iload 6 rfl dX1_repairOf_50 ?_
  refine wq_iload_n 3 rfl rfl dX1_repairOf_52 ?_
  refine wq_icmp_ge 122 rfl dX1_repairOf_53 (fun c1 => ?_) (fun c1 => ?_)
  · refine wq_sipush (z := -1009) (zlit rfl) rfl dX1_repairOf_122 ?_
    exact wp_iret rfl dX1_repairOf_125 (hv.1 c1)
  · refine wq_aload_n 1 rfl rfl dX1_repairOf_56 ?_
    refine wq_iload 6 rfl dX1_repairOf_57 ?_
    refine wN_V (As := [vI y6]) vm_X0_get lk_X1_26 hT_y1 rfl rfl (Nat.le_of_ble_eq_true rfl) (Nat.le_of_ble_eq_true rfl) (d' := d - 1) (by omega) dX1_repairOf_59 (hv.2 c1) (fun v9 h3 q4 => ?_)
    obtain ⟨z2, rfl, hS5, q4⟩ := q4
    refine wq_st (st' := [vI z2]) rfl ?_
    refine wq_istore (ls' := [(0, vR y0), (1, vR y1), (2, vI y2), (3, vI y3), (4, vI y4), (5, vI y5), (6, vI y6), (7, vI z2)]) (by decide) rfl dX1_repairOf_62 ?_
    refine wq_aload_n 0 rfl rfl dX1_repairOf_64 ?_
    refine wq_getI fk_X1_9 hT_y0 (fun _ _ _ => rfl) dX1_repairOf_65 ?_
    refine wq_iconst (z := 2) (zlit rfl) dX1_repairOf_68 ?_
    refine wq_icmp_ne 83 rfl dX1_repairOf_69 (fun c6 => ?_) (fun c6 => ?_)
    · refine wq_iload 7 rfl dX1_repairOf_83 ?_
      refine wq_iload 4 rfl dX1_repairOf_85 ?_
      refine wq_iadd (q4.1 c6).1 dX1_repairOf_87 ?_
      refine wq_iload 5 rfl dX1_repairOf_88 ?_
      refine wq_isub (q4.1 c6).2.1 dX1_repairOf_90 ?_
      refine wq_ldc (z := 65536) (zlit rfl) kc_X1_38 dX1_repairOf_91 ?_
      refine wN_S (As := [vI ((z2 + y4) - y5), vI 65536]) md_J9_floorMod_7cf53 ms_J9_floorMod_7cf53 lk_X1_61 rfl rfl (Nat.le_of_ble_eq_true rfl) (Nat.le_of_ble_eq_true rfl) (d' := d - 1) (by omega) dX1_repairOf_93 (q4.1 c6).2.2 (fun v9 h8 q9 => ?_)
      obtain ⟨z7, rfl, hS10, q9⟩ := q9
      refine wq_st (st' := [vI z7]) rfl ?_
      refine wq_istore (ls' := [(0, vR y0), (1, vR y1), (2, vI y2), (3, vI y3), (4, vI y4), (5, vI y5), (6, vI y6), (7, vI z2), (8, vI z7)]) (by decide) rfl dX1_repairOf_96 ?_
      refine wq_iload 8 rfl dX1_repairOf_98 ?_
      refine wq_sipush (z := 255) (zlit rfl) rfl dX1_repairOf_100 ?_
      refine wq_icmp_gt 116 rfl dX1_repairOf_103 (fun c11 => ?_) (fun c11 => ?_)
      · refine z_nm (y6 + 1) (fun x12 e13 => ?_)
        refine wq_iinc (y := x12) (ls' := [(0, vR y0), (1, vR y1), (2, vI y2), (3, vI y3), (4, vI y4), (5, vI y5), (6, vI x12), (7, vI z2), (8, vI z7)]) 6 rfl e13.symm (by rw [e13]; exact (q9.1 c11).1) (by decide) rfl dX1_repairOf_116 ?_
        refine wq_goto 50 rfl dX1_repairOf_119 ?_
        exact wq_pick [0, 1, 2, 3, 4, 5, 6] rfl (hI_50 y0 y1 y2 y3 y4 y5 x12 h8 (((q9.1 c11).2 x12 e13) hS10))
      · refine wq_sipush (z := 256) (zlit rfl) rfl dX1_repairOf_106 ?_
        refine wq_iload 6 rfl dX1_repairOf_109 ?_
        refine wq_imul (q9.2 c11).1 dX1_repairOf_111 ?_
        refine wq_iload 8 rfl dX1_repairOf_112 ?_
        refine wq_iadd (q9.2 c11).2.1 dX1_repairOf_114 ?_
        exact wp_iret rfl dX1_repairOf_115 (q9.2 c11).2.2
    · refine wq_iload 7 rfl dX1_repairOf_72 ?_
      refine wq_iload 5 rfl dX1_repairOf_74 ?_
      refine wq_ixor dX1_repairOf_76 ?_
      refine wq_iload 4 rfl dX1_repairOf_77 ?_
      refine wq_ixor dX1_repairOf_79 ?_
      refine wq_goto 96 rfl dX1_repairOf_80 ?_
      refine wq_topI (fun x14 e15 => ?_)
      refine wq_istore (ls' := [(0, vR y0), (1, vR y1), (2, vI y2), (3, vI y3), (4, vI y4), (5, vI y5), (6, vI y6), (7, vI z2), (8, vI x14)]) (by decide) rfl dX1_repairOf_96 ?_
      refine wq_iload 8 rfl dX1_repairOf_98 ?_
      refine wq_sipush (z := 255) (zlit rfl) rfl dX1_repairOf_100 ?_
      refine wq_icmp_gt 116 rfl dX1_repairOf_103 (fun c16 => ?_) (fun c16 => ?_)
      · refine z_nm (y6 + 1) (fun x17 e18 => ?_)
        refine wq_iinc (y := x17) (ls' := [(0, vR y0), (1, vR y1), (2, vI y2), (3, vI y3), (4, vI y4), (5, vI y5), (6, vI x17), (7, vI z2), (8, vI x14)]) 6 rfl e18.symm (by rw [e18]; exact (((q4.2 c6) x14 e15).1 c16).1) (by decide) rfl dX1_repairOf_116 ?_
        refine wq_goto 50 rfl dX1_repairOf_119 ?_
        exact wq_pick [0, 1, 2, 3, 4, 5, 6] rfl (hI_50 y0 y1 y2 y3 y4 y5 x17 h3 (((((q4.2 c6) x14 e15).1 c16).2 x17 e18) hS5))
      · refine wq_sipush (z := 256) (zlit rfl) rfl dX1_repairOf_106 ?_
        refine wq_iload 6 rfl dX1_repairOf_109 ?_
        refine wq_imul (((q4.2 c6) x14 e15).2 c16).1 dX1_repairOf_111 ?_
        refine wq_iload 8 rfl dX1_repairOf_112 ?_
        refine wq_iadd (((q4.2 c6) x14 e15).2 c16).2.1 dX1_repairOf_114 ?_
        exact wp_iret rfl dX1_repairOf_115 (((q4.2 c6) x14 e15).2 c16).2.2
theorem dX1_repairOfCrc_0 : decode cX1_repairOfCrc 0 = .ok (.ldc 19, 2) := by decide +kernel
theorem dX1_repairOfCrc_2 : decode cX1_repairOfCrc 2 = .ok (.istore_n 3, 1) := by decide +kernel
theorem dX1_repairOfCrc_3 : decode cX1_repairOfCrc 3 = .ok (.aload_n 1, 1) := by decide +kernel
theorem dX1_repairOfCrc_4 : decode cX1_repairOfCrc 4 = .ok (.aload_n 0, 1) := by decide +kernel
theorem dX1_repairOfCrc_5 : decode cX1_repairOfCrc 5 = .ok (.invokevirtual 46, 3) := by decide +kernel
theorem dX1_repairOfCrc_8 : decode cX1_repairOfCrc 8 = .ok (.l2i, 1) := by decide +kernel
theorem dX1_repairOfCrc_9 : decode cX1_repairOfCrc 9 = .ok (.istore 4, 2) := by decide +kernel
theorem dX1_repairOfCrc_11 : decode cX1_repairOfCrc 11 = .ok (.aload_n 0, 1) := by decide +kernel
theorem dX1_repairOfCrc_12 : decode cX1_repairOfCrc 12 = .ok (.getfield 23, 3) := by decide +kernel
theorem dX1_repairOfCrc_15 : decode cX1_repairOfCrc 15 = .ok (.iconst 1, 1) := by decide +kernel
theorem dX1_repairOfCrc_16 : decode cX1_repairOfCrc 16 = .ok (.isub, 1) := by decide +kernel
theorem dX1_repairOfCrc_17 : decode cX1_repairOfCrc 17 = .ok (.istore 5, 2) := by decide +kernel
theorem dX1_repairOfCrc_19 : decode cX1_repairOfCrc 19 = .ok (.iload 5, 2) := by decide +kernel
theorem dX1_repairOfCrc_21 : decode cX1_repairOfCrc 21 = .ok (.aload_n 0, 1) := by decide +kernel
theorem dX1_repairOfCrc_22 : decode cX1_repairOfCrc 22 = .ok (.getfield 20, 3) := by decide +kernel
theorem dX1_repairOfCrc_25 : decode cX1_repairOfCrc 25 = .ok (.if_icmp .le 27, 3) := by decide +kernel
theorem dX1_repairOfCrc_28 : decode cX1_repairOfCrc 28 = .ok (.iload 4, 2) := by decide +kernel
theorem dX1_repairOfCrc_30 : decode cX1_repairOfCrc 30 = .ok (.invokestatic 64, 3) := by decide +kernel
theorem dX1_repairOfCrc_33 : decode cX1_repairOfCrc 33 = .ok (.sipush 256, 3) := by decide +kernel
theorem dX1_repairOfCrc_36 : decode cX1_repairOfCrc 36 = .ok (.aload_n 1, 1) := by decide +kernel
theorem dX1_repairOfCrc_37 : decode cX1_repairOfCrc 37 = .ok (.iload 5, 2) := by decide +kernel
theorem dX1_repairOfCrc_39 : decode cX1_repairOfCrc 39 = .ok (.invokevirtual 26, 3) := by decide +kernel
theorem dX1_repairOfCrc_42 : decode cX1_repairOfCrc 42 = .ok (.imul, 1) := by decide +kernel
theorem dX1_repairOfCrc_43 : decode cX1_repairOfCrc 43 = .ok (.ixor, 1) := by decide +kernel
theorem dX1_repairOfCrc_44 : decode cX1_repairOfCrc 44 = .ok (.istore 4, 2) := by decide +kernel
theorem dX1_repairOfCrc_46 : decode cX1_repairOfCrc 46 = .ok (.iinc 5 (-1), 3) := by decide +kernel
theorem dX1_repairOfCrc_49 : decode cX1_repairOfCrc 49 = .ok (.goto (-30), 3) := by decide +kernel
theorem dX1_repairOfCrc_52 : decode cX1_repairOfCrc 52 = .ok (.aload_n 0, 1) := by decide +kernel
theorem dX1_repairOfCrc_53 : decode cX1_repairOfCrc 53 = .ok (.getfield 20, 3) := by decide +kernel
theorem dX1_repairOfCrc_56 : decode cX1_repairOfCrc 56 = .ok (.istore 5, 2) := by decide +kernel
theorem dX1_repairOfCrc_58 : decode cX1_repairOfCrc 58 = .ok (.iload 5, 2) := by decide +kernel
theorem dX1_repairOfCrc_60 : decode cX1_repairOfCrc 60 = .ok (.iload_n 2, 1) := by decide +kernel
theorem dX1_repairOfCrc_61 : decode cX1_repairOfCrc 61 = .ok (.if_icmp .ge 71, 3) := by decide +kernel
theorem dX1_repairOfCrc_64 : decode cX1_repairOfCrc 64 = .ok (.iload 4, 2) := by decide +kernel
theorem dX1_repairOfCrc_66 : decode cX1_repairOfCrc 66 = .ok (.invokestatic 64, 3) := by decide +kernel
theorem dX1_repairOfCrc_69 : decode cX1_repairOfCrc 69 = .ok (.iload_n 3, 1) := by decide +kernel
theorem dX1_repairOfCrc_70 : decode cX1_repairOfCrc 70 = .ok (.ixor, 1) := by decide +kernel
theorem dX1_repairOfCrc_71 : decode cX1_repairOfCrc 71 = .ok (.istore 6, 2) := by decide +kernel
theorem dX1_repairOfCrc_73 : decode cX1_repairOfCrc 73 = .ok (.iload 6, 2) := by decide +kernel
theorem dX1_repairOfCrc_75 : decode cX1_repairOfCrc 75 = .ok (.sipush 256, 3) := by decide +kernel
theorem dX1_repairOfCrc_78 : decode cX1_repairOfCrc 78 = .ok (.irem, 1) := by decide +kernel
theorem dX1_repairOfCrc_79 : decode cX1_repairOfCrc 79 = .ok (.ifCond .ne 17, 3) := by decide +kernel
theorem dX1_repairOfCrc_82 : decode cX1_repairOfCrc 82 = .ok (.sipush 256, 3) := by decide +kernel
theorem dX1_repairOfCrc_85 : decode cX1_repairOfCrc 85 = .ok (.iload 5, 2) := by decide +kernel
theorem dX1_repairOfCrc_87 : decode cX1_repairOfCrc 87 = .ok (.imul, 1) := by decide +kernel
theorem dX1_repairOfCrc_88 : decode cX1_repairOfCrc 88 = .ok (.iload 6, 2) := by decide +kernel
theorem dX1_repairOfCrc_90 : decode cX1_repairOfCrc 90 = .ok (.sipush 256, 3) := by decide +kernel
theorem dX1_repairOfCrc_93 : decode cX1_repairOfCrc 93 = .ok (.idiv, 1) := by decide +kernel
theorem dX1_repairOfCrc_94 : decode cX1_repairOfCrc 94 = .ok (.iadd, 1) := by decide +kernel
theorem dX1_repairOfCrc_95 : decode cX1_repairOfCrc 95 = .ok (.ireturn, 1) := by decide +kernel
theorem dX1_repairOfCrc_96 : decode cX1_repairOfCrc 96 = .ok (.iload_n 3, 1) := by decide +kernel
theorem dX1_repairOfCrc_97 : decode cX1_repairOfCrc 97 = .ok (.aload_n 1, 1) := by decide +kernel
theorem dX1_repairOfCrc_98 : decode cX1_repairOfCrc 98 = .ok (.iload 5, 2) := by decide +kernel
theorem dX1_repairOfCrc_100 : decode cX1_repairOfCrc 100 = .ok (.invokevirtual 26, 3) := by decide +kernel
theorem dX1_repairOfCrc_103 : decode cX1_repairOfCrc 103 = .ok (.invokestatic 39, 3) := by decide +kernel
theorem dX1_repairOfCrc_106 : decode cX1_repairOfCrc 106 = .ok (.istore_n 3, 1) := by decide +kernel
theorem dX1_repairOfCrc_107 : decode cX1_repairOfCrc 107 = .ok (.iload 4, 2) := by decide +kernel
theorem dX1_repairOfCrc_109 : decode cX1_repairOfCrc 109 = .ok (.aload_n 1, 1) := by decide +kernel
theorem dX1_repairOfCrc_110 : decode cX1_repairOfCrc 110 = .ok (.iload 5, 2) := by decide +kernel
theorem dX1_repairOfCrc_112 : decode cX1_repairOfCrc 112 = .ok (.iconst 1, 1) := by decide +kernel
theorem dX1_repairOfCrc_113 : decode cX1_repairOfCrc 113 = .ok (.iadd, 1) := by decide +kernel
theorem dX1_repairOfCrc_114 : decode cX1_repairOfCrc 114 = .ok (.invokevirtual 26, 3) := by decide +kernel
theorem dX1_repairOfCrc_117 : decode cX1_repairOfCrc 117 = .ok (.iconst 0, 1) := by decide +kernel
theorem dX1_repairOfCrc_118 : decode cX1_repairOfCrc 118 = .ok (.invokestatic 32, 3) := by decide +kernel
theorem dX1_repairOfCrc_121 : decode cX1_repairOfCrc 121 = .ok (.invokestatic 39, 3) := by decide +kernel
theorem dX1_repairOfCrc_124 : decode cX1_repairOfCrc 124 = .ok (.istore 4, 2) := by decide +kernel
theorem dX1_repairOfCrc_126 : decode cX1_repairOfCrc 126 = .ok (.iinc 5 1, 3) := by decide +kernel
theorem dX1_repairOfCrc_129 : decode cX1_repairOfCrc 129 = .ok (.goto (-71), 3) := by decide +kernel
theorem dX1_repairOfCrc_132 : decode cX1_repairOfCrc 132 = .ok (.sipush (-1009), 3) := by decide +kernel
theorem dX1_repairOfCrc_135 : decode cX1_repairOfCrc 135 = .ok (.ireturn, 1) := by decide +kernel
theorem vc_X1_repairOfCrc_0 {G : zG} {d : Nat} {Q : Option zV → zHp → Prop} (p1 : Nat) (hT_p1 : zT 369 p1 = (103, 8)) (p2 : Nat) (hT_p2 : zT 369 p2 = (100, 2)) (p3 : Int) (h : zHp) (hS : zSh h) (hd : 1 ≤ d) (I_19 : Nat → Nat → Int → Int → Int → Int → zHp → Prop) (hI_19 : ∀ (y0 : Nat) (y1 : Nat) (y2 : Int) (y3 : Int) (y4 : Int) (y5 : Int) (h' : zHp), I_19 y0 y1 y2 y3 y4 y5 h' → wpN G d M_X1_repairOfCrc 19 [(0, vR y0), (1, vR y1), (2, vI y2), (3, vI y3), (4, vI y4), (5, vI y5)] [] h' Q) 
    (hv : (wpN G (d - 1) M_X0_read 0 (zar 0 [vR p2, vR p1]) [] h (qL (fun z1 h2 => zSh h2 ∧ (∀ x5 : Int, x5 = (w32 z1) → ((-2147483648 ≤ (gI h2 p1 5) - 1 ∧ (gI h2 p1 5) - 1 ≤ 2147483647) ∧ (∀ x7 : Int, x7 = ((gI h2 p1 5) - 1) → (zSh h2 → I_19 p1 p2 p3 65535 x5 x7 h2)))))))) : wpN G d M_X1_repairOfCrc 0 [(0, vR p1), (1, vR p2), (2, vI p3)] [] h Q := by
  refine wq_ldc (z := 65535) (zlit rfl) kc_X1_19 dX1_repairOfCrc_0 ?_
  refine wq_istore_n (ls' := [(0, vR p1), (1, vR p2), (2, vI p3), (3, vI 65535)]) rfl (by decide) rfl dX1_repairOfCrc_2 ?_
  refine wq_aload_n 1 rfl rfl dX1_repairOfCrc_3 ?_
  refine wq_aload_n 0 rfl rfl dX1_repairOfCrc_4 ?_
  refine wN_V (As := [vR p1]) vm_X0_read lk_X1_46 hT_p2 rfl rfl (Nat.le_of_ble_eq_true rfl) (Nat.le_of_ble_eq_true rfl) (d' := d - 1) (by omega) dX1_repairOfCrc_5 hv (fun v9 h2 q3 => ?_)
  obtain ⟨z1, rfl, hS4, q3⟩ := q3
  refine wq_st (st' := [vL z1]) rfl ?_
  refine wq_l2i dX1_repairOfCrc_8 ?_
  refine wq_topI (fun x5 e6 => ?_)
  refine wq_istore (ls' := [(0, vR p1), (1, vR p2), (2, vI p3), (3, vI 65535), (4, vI x5)]) (by decide) rfl dX1_repairOfCrc_9 ?_
  refine wq_aload_n 0 rfl rfl dX1_repairOfCrc_11 ?_
  refine wq_getI fk_X1_23 hT_p1 (fun _ _ _ => rfl) dX1_repairOfCrc_12 ?_
  refine wq_iconst (z := 1) (zlit rfl) dX1_repairOfCrc_15 ?_
  refine wq_isub (q3 x5 e6).1 dX1_repairOfCrc_16 ?_
  refine wq_topI (fun x7 e8 => ?_)
  refine wq_istore (ls' := [(0, vR p1), (1, vR p2), (2, vI p3), (3, vI 65535), (4, vI x5), (5, vI x7)]) (by decide) rfl dX1_repairOfCrc_17 ?_
  exact wq_pick [0, 1, 2, 3, 4, 5] rfl (hI_19 p1 p2 p3 65535 x5 x7 h2 (((q3 x5 e6).2 x7 e8) hS4))
theorem vc_X1_repairOfCrc_19 {G : zG} {d : Nat} {Q : Option zV → zHp → Prop} (y0 : Nat) (hT_y0 : zT 369 y0 = (103, 8)) (y1 : Nat) (hT_y1 : zT 369 y1 = (100, 2)) (y2 : Int) (y3 : Int) (y4 : Int) (y5 : Int) (h : zHp) (hS : zSh h) (hd : 1 ≤ d) (I_19 : Nat → Nat → Int → Int → Int → Int → zHp → Prop) (hI_19 : ∀ (y0 : Nat) (y1 : Nat) (y2 : Int) (y3 : Int) (y4 : Int) (y5 : Int) (h' : zHp), I_19 y0 y1 y2 y3 y4 y5 h' → wpN G d M_X1_repairOfCrc 19 [(0, vR y0), (1, vR y1), (2, vI y2), (3, vI y3), (4, vI y4), (5, vI y5)] [] h' Q) (I_58 : Nat → Nat → Int → Int → Int → Int → zHp → Prop) (hI_58 : ∀ (y0 : Nat) (y1 : Nat) (y2 : Int) (y3 : Int) (y4 : Int) (y5 : Int) (h' : zHp), I_58 y0 y1 y2 y3 y4 y5 h' → wpN G d M_X1_repairOfCrc 58 [(0, vR y0), (1, vR y1), (2, vI y2), (3, vI y3), (4, vI y4), (5, vI y5)] [] h' Q) 
    (hv : ((y5 ≤ (gI h y0 4) → (∀ x2 : Int, x2 = (gI h y0 4) → (zSh h → I_58 y0 y1 y2 y3 y4 x2 h))) ∧ ((gI h y0 4) < y5 → (wpN G (d - 1) M_X1_halve 0 (zar 0 [vI y4]) [] h (qI (fun z4 h5 => zSh h5 ∧ (wpN G (d - 1) M_X0_get 0 (zar 0 [vR y1, vI y5]) [] h5 (qI (fun z8 h9 => zSh h9 ∧ ((-2147483648 ≤ 256 * z8 ∧ 256 * z8 ≤ 2147483647) ∧ (∀ x12 : Int, x12 = (zxor z4 (256 * z8)) → ((-2147483648 ≤ y5 + (-1) ∧ y5 + (-1) ≤ 2147483647) ∧ ∀ x14 : Int, x14 = y5 + (-1) → (zSh h9 → I_19 y0 y1 y2 y3 x12 x14 h9))))))))))))) : wpN G d M_X1_repairOfCrc 19 [(0, vR y0), (1, vR y1), (2, vI y2), (3, vI y3), (4, vI y4), (5, vI y5)] [] h Q := by
  refine wq_iload 5 rfl dX1_repairOfCrc_19 ?_
  refine wq_aload_n 0 rfl rfl dX1_repairOfCrc_21 ?_
  refine wq_getI fk_X1_20 hT_y0 (fun _ _ _ => rfl) dX1_repairOfCrc_22 ?_
  refine wq_icmp_le 52 rfl dX1_repairOfCrc_25 (fun c1 => ?_) (fun c1 => ?_)
  · refine wq_aload_n 0 rfl rfl dX1_repairOfCrc_52 ?_
    refine wq_getI fk_X1_20 hT_y0 (fun _ _ _ => rfl) dX1_repairOfCrc_53 ?_
    refine wq_topI (fun x2 e3 => ?_)
    refine wq_istore (ls' := [(0, vR y0), (1, vR y1), (2, vI y2), (3, vI y3), (4, vI y4), (5, vI x2)]) (by decide) rfl dX1_repairOfCrc_56 ?_
    exact wq_pick [0, 1, 2, 3, 4, 5] rfl (hI_58 y0 y1 y2 y3 y4 x2 h (((hv.1 c1) x2 e3) hS))
  · refine wq_iload 4 rfl dX1_repairOfCrc_28 ?_
    refine wN_S (As := [vI y4]) md_X1_halve ms_X1_halve lk_X1_64 rfl rfl (Nat.le_of_ble_eq_true rfl) (Nat.le_of_ble_eq_true rfl) (d' := d - 1) (by omega) dX1_repairOfCrc_30 (hv.2 c1) (fun v9 h5 q6 => ?_)
    obtain ⟨z4, rfl, hS7, q6⟩ := q6
    refine wq_st (st' := [vI z4]) rfl ?_
    refine wq_sipush (z := 256) (zlit rfl) rfl dX1_repairOfCrc_33 ?_
    refine wq_aload_n 1 rfl rfl dX1_repairOfCrc_36 ?_
    refine wq_iload 5 rfl dX1_repairOfCrc_37 ?_
    refine wN_V (As := [vI y5]) vm_X0_get lk_X1_26 hT_y1 rfl rfl (Nat.le_of_ble_eq_true rfl) (Nat.le_of_ble_eq_true rfl) (d' := d - 1) (by omega) dX1_repairOfCrc_39 q6 (fun v9 h9 q10 => ?_)
    obtain ⟨z8, rfl, hS11, q10⟩ := q10
    refine wq_st (st' := [vI z8, vI 256, vI z4]) rfl ?_
    refine wq_imul q10.1 dX1_repairOfCrc_42 ?_
    refine wq_ixor dX1_repairOfCrc_43 ?_
    refine wq_topI (fun x12 e13 => ?_)
    refine wq_istore (ls' := [(0, vR y0), (1, vR y1), (2, vI y2), (3, vI y3), (4, vI x12), (5, vI y5)]) (by decide) rfl dX1_repairOfCrc_44 ?_
    refine z_nm (y5 + (-1)) (fun x14 e15 => ?_)
    refine wq_iinc (y := x14) (ls' := [(0, vR y0), (1, vR y1), (2, vI y2), (3, vI y3), (4, vI x12), (5, vI x14)]) 5 rfl e15.symm (by rw [e15]; exact (q10.2 x12 e13).1) (by decide) rfl dX1_repairOfCrc_46 ?_
    refine wq_goto 19 rfl dX1_repairOfCrc_49 ?_
    exact wq_pick [0, 1, 2, 3, 4, 5] rfl (hI_19 y0 y1 y2 y3 x12 x14 h9 (((q10.2 x12 e13).2 x14 e15) hS11))
theorem vc_X1_repairOfCrc_58 {G : zG} {d : Nat} {Q : Option zV → zHp → Prop} (y0 : Nat) (hT_y0 : zT 369 y0 = (103, 8)) (y1 : Nat) (hT_y1 : zT 369 y1 = (100, 2)) (y2 : Int) (y3 : Int) (y4 : Int) (y5 : Int) (h : zHp) (hS : zSh h) (hd : 1 ≤ d) (I_58 : Nat → Nat → Int → Int → Int → Int → zHp → Prop) (hI_58 : ∀ (y0 : Nat) (y1 : Nat) (y2 : Int) (y3 : Int) (y4 : Int) (y5 : Int) (h' : zHp), I_58 y0 y1 y2 y3 y4 y5 h' → wpN G d M_X1_repairOfCrc 58 [(0, vR y0), (1, vR y1), (2, vI y2), (3, vI y3), (4, vI y4), (5, vI y5)] [] h' Q) 
    (hv : ((y2 ≤ y5 → Q (some (vI (-1009))) h) ∧ (y5 < y2 → (wpN G (d - 1) M_X1_halve 0 (zar 0 [vI y4]) [] h (qI (fun z2 h3 => zSh h3 ∧ (∀ x6 : Int, x6 = (zxor z2 y3) → (((x6.tmod 256) ≠ 0 → (wpN G (d - 1) M_X0_get 0 (zar 0 [vR y1, vI y5]) [] h3 (qI (fun z9 h10 => zSh h10 ∧ (wpN G (d - 1) M_X1_feed 0 (zar 0 [vI y3, vI z9]) [] h10 (qI (fun z13 h14 => zSh h14 ∧ ((-2147483648 ≤ y5 + 1 ∧ y5 + 1 ≤ 2147483647) ∧ (wpN G (d - 1) M_X0_get 0 (zar 0 [vR y1, vI (y5 + 1)]) [] h14 (qI (fun z17 h18 => zSh h18 ∧ (wpN G (d - 1) M_J9_max_7cf53 0 (zar 0 [vI z17, vI 0]) [] h18 (qI (fun z21 h22 => zSh h22 ∧ (wpN G (d - 1) M_X1_feed 0 (zar 0 [vI y4, vI z21]) [] h22 (qI (fun z25 h26 => zSh h26 ∧ ((-2147483648 ≤ y5 + 1 ∧ y5 + 1 ≤ 2147483647) ∧ ∀ x29 : Int, x29 = y5 + 1 → (zSh h26 → I_58 y0 y1 y2 z13 z25 x29 h26))))))))))))))))))) ∧ ((x6.tmod 256) = 0 → ((-2147483648 ≤ 256 * y5 ∧ 256 * y5 ≤ 2147483647) ∧ ((-2147483648 ≤ (256 * y5) + (x6.tdiv 256) ∧ (256 * y5) + (x6.tdiv 256) ≤ 2147483647) ∧ Q (some (vI ((256 * y5) + (x6.tdiv 256)))) h3))))))))))) : wpN G d M_X1_repairOfCrc 58 [(0, vR y0), (1, vR y1), (2, vI y2), (3, vI y3), (4, vI y4), (5, vI y5)] [] h Q := by
  refine wq_iload 5 rfl dX1_repairOfCrc_58 ?_
  refine wq_iload_n 2 rfl rfl dX1_repairOfCrc_60 ?_
  refine wq_icmp_ge 132 rfl dX1_repairOfCrc_61 (fun c1 => ?_) (fun c1 => ?_)
  · refine wq_sipush (z := -1009) (zlit rfl) rfl dX1_repairOfCrc_132 ?_
    exact wp_iret rfl dX1_repairOfCrc_135 (hv.1 c1)
  · refine wq_iload 4 rfl dX1_repairOfCrc_64 ?_
    refine wN_S (As := [vI y4]) md_X1_halve ms_X1_halve lk_X1_64 rfl rfl (Nat.le_of_ble_eq_true rfl) (Nat.le_of_ble_eq_true rfl) (d' := d - 1) (by omega) dX1_repairOfCrc_66 (hv.2 c1) (fun v9 h3 q4 => ?_)
    obtain ⟨z2, rfl, hS5, q4⟩ := q4
    refine wq_st (st' := [vI z2]) rfl ?_
    refine wq_iload_n 3 rfl rfl dX1_repairOfCrc_69 ?_
    refine wq_ixor dX1_repairOfCrc_70 ?_
    refine wq_topI (fun x6 e7 => ?_)
    refine wq_istore (ls' := [(0, vR y0), (1, vR y1), (2, vI y2), (3, vI y3), (4, vI y4), (5, vI y5), (6, vI x6)]) (by decide) rfl dX1_repairOfCrc_71 ?_
    refine wq_iload 6 rfl dX1_repairOfCrc_73 ?_
    refine wq_sipush (z := 256) (zlit rfl) rfl dX1_repairOfCrc_75 ?_
    refine wq_irem (by decide) dX1_repairOfCrc_78 ?_
    refine wq_if_ne 96 rfl dX1_repairOfCrc_79 (fun c8 => ?_) (fun c8 => ?_)
    · refine wq_iload_n 3 rfl rfl dX1_repairOfCrc_96 ?_
      refine wq_aload_n 1 rfl rfl dX1_repairOfCrc_97 ?_
      refine wq_iload 5 rfl dX1_repairOfCrc_98 ?_
      refine wN_V (As := [vI y5]) vm_X0_get lk_X1_26 hT_y1 rfl rfl (Nat.le_of_ble_eq_true rfl) (Nat.le_of_ble_eq_true rfl) (d' := d - 1) (by omega) dX1_repairOfCrc_100 ((q4 x6 e7).1 c8) (fun v9 h10 q11 => ?_)
      obtain ⟨z9, rfl, hS12, q11⟩ := q11
      refine wq_st (st' := [vI z9, vI y3]) rfl ?_
      refine wN_S (As := [vI y3, vI z9]) md_X1_feed ms_X1_feed lk_X1_39 rfl rfl (Nat.le_of_ble_eq_true rfl) (Nat.le_of_ble_eq_true rfl) (d' := d - 1) (by omega) dX1_repairOfCrc_103 q11 (fun v9 h14 q15 => ?_)
      obtain ⟨z13, rfl, hS16, q15⟩ := q15
      refine wq_st (st' := [vI z13]) rfl ?_
      refine wq_istore_n (ls' := [(0, vR y0), (1, vR y1), (2, vI y2), (3, vI z13), (4, vI y4), (5, vI y5), (6, vI x6)]) rfl (by decide) rfl dX1_repairOfCrc_106 ?_
      refine wq_iload 4 rfl dX1_repairOfCrc_107 ?_
      refine wq_aload_n 1 rfl rfl dX1_repairOfCrc_109 ?_
      refine wq_iload 5 rfl dX1_repairOfCrc_110 ?_
      refine wq_iconst (z := 1) (zlit rfl) dX1_repairOfCrc_112 ?_
      refine wq_iadd q15.1 dX1_repairOfCrc_113 ?_
      refine wN_V (As := [vI (y5 + 1)]) vm_X0_get lk_X1_26 hT_y1 rfl rfl (Nat.le_of_ble_eq_true rfl) (Nat.le_of_ble_eq_true rfl) (d' := d - 1) (by omega) dX1_repairOfCrc_114 q15.2 (fun v9 h18 q19 => ?_)
      obtain ⟨z17, rfl, hS20, q19⟩ := q19
      refine wq_st (st' := [vI z17, vI y4]) rfl ?_
      refine wq_iconst (z := 0) (zlit rfl) dX1_repairOfCrc_117 ?_
      refine wN_S (As := [vI z17, vI 0]) md_J9_max_7cf53 ms_J9_max_7cf53 lk_X1_32 rfl rfl (Nat.le_of_ble_eq_true rfl) (Nat.le_of_ble_eq_true rfl) (d' := d - 1) (by omega) dX1_repairOfCrc_118 q19 (fun v9 h22 q23 => ?_)
      obtain ⟨z21, rfl, hS24, q23⟩ := q23
      refine wq_st (st' := [vI z21, vI y4]) rfl ?_
      refine wN_S (As := [vI y4, vI z21]) md_X1_feed ms_X1_feed lk_X1_39 rfl rfl (Nat.le_of_ble_eq_true rfl) (Nat.le_of_ble_eq_true rfl) (d' := d - 1) (by omega) dX1_repairOfCrc_121 q23 (fun v9 h26 q27 => ?_)
      obtain ⟨z25, rfl, hS28, q27⟩ := q27
      refine wq_st (st' := [vI z25]) rfl ?_
      refine wq_istore (ls' := [(0, vR y0), (1, vR y1), (2, vI y2), (3, vI z13), (4, vI z25), (5, vI y5), (6, vI x6)]) (by decide) rfl dX1_repairOfCrc_124 ?_
      refine z_nm (y5 + 1) (fun x29 e30 => ?_)
      refine wq_iinc (y := x29) (ls' := [(0, vR y0), (1, vR y1), (2, vI y2), (3, vI z13), (4, vI z25), (5, vI x29), (6, vI x6)]) 5 rfl e30.symm (by rw [e30]; exact q27.1) (by decide) rfl dX1_repairOfCrc_126 ?_
      refine wq_goto 58 rfl dX1_repairOfCrc_129 ?_
      exact wq_pick [0, 1, 2, 3, 4, 5] rfl (hI_58 y0 y1 y2 z13 z25 x29 h26 ((q27.2 x29 e30) hS28))
    · refine wq_sipush (z := 256) (zlit rfl) rfl dX1_repairOfCrc_82 ?_
      refine wq_iload 5 rfl dX1_repairOfCrc_85 ?_
      refine wq_imul ((q4 x6 e7).2 c8).1 dX1_repairOfCrc_87 ?_
      refine wq_iload 6 rfl dX1_repairOfCrc_88 ?_
      refine wq_sipush (z := 256) (zlit rfl) rfl dX1_repairOfCrc_90 ?_
      refine wq_idiv (by decide) dX1_repairOfCrc_93 ?_
      refine wq_iadd ((q4 x6 e7).2 c8).2.1 dX1_repairOfCrc_94 ?_
      exact wp_iret rfl dX1_repairOfCrc_95 ((q4 x6 e7).2 c8).2.2
theorem dX1_feed_0 : decode cX1_feed 0 = .ok (.iload_n 0, 1) := by decide +kernel
theorem dX1_feed_1 : decode cX1_feed 1 = .ok (.sipush 256, 3) := by decide +kernel
theorem dX1_feed_4 : decode cX1_feed 4 = .ok (.iload_n 1, 1) := by decide +kernel
theorem dX1_feed_5 : decode cX1_feed 5 = .ok (.imul, 1) := by decide +kernel
theorem dX1_feed_6 : decode cX1_feed 6 = .ok (.ixor, 1) := by decide +kernel
theorem dX1_feed_7 : decode cX1_feed 7 = .ok (.istore_n 2, 1) := by decide +kernel
theorem dX1_feed_8 : decode cX1_feed 8 = .ok (.iconst 0, 1) := by decide +kernel
theorem dX1_feed_9 : decode cX1_feed 9 = .ok (.istore_n 3, 1) := by decide +kernel
theorem dX1_feed_10 : decode cX1_feed 10 = .ok (.iload_n 3, 1) := by decide +kernel
theorem dX1_feed_11 : decode cX1_feed 11 = .ok (.bipush 8, 2) := by decide +kernel
theorem dX1_feed_13 : decode cX1_feed 13 = .ok (.if_icmp .ge 35, 3) := by decide +kernel
theorem dX1_feed_16 : decode cX1_feed 16 = .ok (.iconst 2, 1) := by decide +kernel
theorem dX1_feed_17 : decode cX1_feed 17 = .ok (.iload_n 2, 1) := by decide +kernel
theorem dX1_feed_18 : decode cX1_feed 18 = .ok (.imul, 1) := by decide +kernel
theorem dX1_feed_19 : decode cX1_feed 19 = .ok (.ldc 38, 2) := by decide +kernel
theorem dX1_feed_21 : decode cX1_feed 21 = .ok (.irem, 1) := by decide +kernel
theorem dX1_feed_22 : decode cX1_feed 22 = .ok (.istore 4, 2) := by decide +kernel
theorem dX1_feed_24 : decode cX1_feed 24 = .ok (.iload_n 2, 1) := by decide +kernel
theorem dX1_feed_25 : decode cX1_feed 25 = .ok (.ldc 67, 2) := by decide +kernel
theorem dX1_feed_27 : decode cX1_feed 27 = .ok (.if_icmp .lt 12, 3) := by decide +kernel
theorem dX1_feed_30 : decode cX1_feed 30 = .ok (.iload 4, 2) := by decide +kernel
theorem dX1_feed_32 : decode cX1_feed 32 = .ok (.sipush 4129, 3) := by decide +kernel
theorem dX1_feed_35 : decode cX1_feed 35 = .ok (.ixor, 1) := by decide +kernel
theorem dX1_feed_36 : decode cX1_feed 36 = .ok (.goto 5, 3) := by decide +kernel
theorem dX1_feed_39 : decode cX1_feed 39 = .ok (.iload 4, 2) := by decide +kernel
theorem dX1_feed_41 : decode cX1_feed 41 = .ok (.istore_n 2, 1) := by decide +kernel
theorem dX1_feed_42 : decode cX1_feed 42 = .ok (.iinc 3 1, 3) := by decide +kernel
theorem dX1_feed_45 : decode cX1_feed 45 = .ok (.goto (-35), 3) := by decide +kernel
theorem dX1_feed_48 : decode cX1_feed 48 = .ok (.iload_n 2, 1) := by decide +kernel
theorem dX1_feed_49 : decode cX1_feed 49 = .ok (.ireturn, 1) := by decide +kernel
theorem vc_X1_feed_0 {G : zG} {d : Nat} {Q : Option zV → zHp → Prop} (p1 : Int) (p2 : Int) (h : zHp) (hS : zSh h) (hd : 0 ≤ d) (I_10 : Int → Int → Int → Int → zHp → Prop) (hI_10 : ∀ (y0 : Int) (y1 : Int) (y2 : Int) (y3 : Int) (h' : zHp), I_10 y0 y1 y2 y3 h' → wpN G d M_X1_feed 10 [(0, vI y0), (1, vI y1), (2, vI y2), (3, vI y3)] [] h' Q) 
    (hv : ((-2147483648 ≤ 256 * p2 ∧ 256 * p2 ≤ 2147483647) ∧ (∀ x1 : Int, x1 = (zxor p1 (256 * p2)) → (zSh h → I_10 p1 p2 x1 0 h)))) : wpN G d M_X1_feed 0 [(0, vI p1), (1, vI p2)] [] h Q := by
  refine wq_iload_n 0 rfl rfl dX1_feed_0 ?_
  refine wq_sipush (z := 256) (zlit rfl) rfl dX1_feed_1 ?_
  refine wq_iload_n 1 rfl rfl dX1_feed_4 ?_
  refine wq_imul hv.1 dX1_feed_5 ?_
  refine wq_ixor dX1_feed_6 ?_
  refine wq_topI (fun x1 e2 => ?_)
  refine wq_istore_n (ls' := [(0, vI p1), (1, vI p2), (2, vI x1)]) rfl (by decide) rfl dX1_feed_7 ?_
  refine wq_iconst (z := 0) (zlit rfl) dX1_feed_8 ?_
  refine wq_istore_n (ls' := [(0, vI p1), (1, vI p2), (2, vI x1), (3, vI 0)]) rfl (by decide) rfl dX1_feed_9 ?_
  exact wq_pick [0, 1, 2, 3] rfl (hI_10 p1 p2 x1 0 h ((hv.2 x1 e2) hS))
theorem vc_X1_feed_10 {G : zG} {d : Nat} {Q : Option zV → zHp → Prop} (y0 : Int) (y1 : Int) (y2 : Int) (y3 : Int) (h : zHp) (hS : zSh h) (hd : 0 ≤ d) (I_10 : Int → Int → Int → Int → zHp → Prop) (hI_10 : ∀ (y0 : Int) (y1 : Int) (y2 : Int) (y3 : Int) (h' : zHp), I_10 y0 y1 y2 y3 h' → wpN G d M_X1_feed 10 [(0, vI y0), (1, vI y1), (2, vI y2), (3, vI y3)] [] h' Q) 
    (hv : ((8 ≤ y3 → Q (some (vI y2)) h) ∧ (y3 < 8 → ((-2147483648 ≤ 2 * y2 ∧ 2 * y2 ≤ 2147483647) ∧ (∀ x2 : Int, x2 = ((2 * y2).tmod 65536) → ((y2 < 32768 → ((-2147483648 ≤ y3 + 1 ∧ y3 + 1 ≤ 2147483647) ∧ ∀ x5 : Int, x5 = y3 + 1 → (zSh h → I_10 y0 y1 x2 x5 h))) ∧ (32768 ≤ y2 → (∀ x7 : Int, x7 = (zxor x2 4129) → ((-2147483648 ≤ y3 + 1 ∧ y3 + 1 ≤ 2147483647) ∧ ∀ x9 : Int, x9 = y3 + 1 → (zSh h → I_10 y0 y1 x7 x9 h)))))))))) : wpN G d M_X1_feed 10 [(0, vI y0), (1, vI y1), (2, vI y2), (3, vI y3)] [] h Q := by
  refine wq_iload_n 3 rfl rfl dX1_feed_10 ?_
  refine wq_bipush (z := 8) (zlit rfl) rfl dX1_feed_11 ?_
  refine wq_icmp_ge 48 rfl dX1_feed_13 (fun c1 => ?_) (fun c1 => ?_)
  · refine wq_iload_n 2 rfl rfl dX1_feed_48 ?_
    exact wp_iret rfl dX1_feed_49 (hv.1 c1)
  · refine wq_iconst (z := 2) (zlit rfl) dX1_feed_16 ?_
    refine wq_iload_n 2 rfl rfl dX1_feed_17 ?_
    refine wq_imul (hv.2 c1).1 dX1_feed_18 ?_
    refine wq_ldc (z := 65536) (zlit rfl) kc_X1_38 dX1_feed_19 ?_
    refine wq_irem (by decide) dX1_feed_21 ?_
    refine wq_topI (fun x2 e3 => ?_)
    refine wq_istore (ls' := [(0, vI y0), (1, vI y1), (2, vI y2), (3, vI y3), (4, vI x2)]) (by decide) rfl dX1_feed_22 ?_
    refine wq_iload_n 2 rfl rfl dX1_feed_24 ?_
    refine wq_ldc (z := 32768) (zlit rfl) kc_X1_67 dX1_feed_25 ?_
    refine wq_icmp_lt 39 rfl dX1_feed_27 (fun c4 => ?_) (fun c4 => ?_)
    · refine wq_iload 4 rfl dX1_feed_39 ?_
      refine wq_istore_n (ls' := [(0, vI y0), (1, vI y1), (2, vI x2), (3, vI y3), (4, vI x2)]) rfl (by decide) rfl dX1_feed_41 ?_
      refine z_nm (y3 + 1) (fun x5 e6 => ?_)
      refine wq_iinc (y := x5) (ls' := [(0, vI y0), (1, vI y1), (2, vI x2), (3, vI x5), (4, vI x2)]) 3 rfl e6.symm (by rw [e6]; exact (((hv.2 c1).2 x2 e3).1 c4).1) (by decide) rfl dX1_feed_42 ?_
      refine wq_goto 10 rfl dX1_feed_45 ?_
      exact wq_pick [0, 1, 2, 3] rfl (hI_10 y0 y1 x2 x5 h (((((hv.2 c1).2 x2 e3).1 c4).2 x5 e6) hS))
    · refine wq_iload 4 rfl dX1_feed_30 ?_
      refine wq_sipush (z := 4129) (zlit rfl) rfl dX1_feed_32 ?_
      refine wq_ixor dX1_feed_35 ?_
      refine wq_goto 41 rfl dX1_feed_36 ?_
      refine wq_topI (fun x7 e8 => ?_)
      refine wq_istore_n (ls' := [(0, vI y0), (1, vI y1), (2, vI x7), (3, vI y3), (4, vI x2)]) rfl (by decide) rfl dX1_feed_41 ?_
      refine z_nm (y3 + 1) (fun x9 e10 => ?_)
      refine wq_iinc (y := x9) (ls' := [(0, vI y0), (1, vI y1), (2, vI x7), (3, vI x9), (4, vI x2)]) 3 rfl e10.symm (by rw [e10]; exact ((((hv.2 c1).2 x2 e3).2 c4) x7 e8).1) (by decide) rfl dX1_feed_42 ?_
      refine wq_goto 10 rfl dX1_feed_45 ?_
      exact wq_pick [0, 1, 2, 3] rfl (hI_10 y0 y1 x7 x9 h ((((((hv.2 c1).2 x2 e3).2 c4) x7 e8).2 x9 e10) hS))
theorem dX1_halve_0 : decode cX1_halve 0 = .ok (.iload_n 0, 1) := by decide +kernel
theorem dX1_halve_1 : decode cX1_halve 1 = .ok (.istore_n 1, 1) := by decide +kernel
theorem dX1_halve_2 : decode cX1_halve 2 = .ok (.iconst 0, 1) := by decide +kernel
theorem dX1_halve_3 : decode cX1_halve 3 = .ok (.istore_n 2, 1) := by decide +kernel
theorem dX1_halve_4 : decode cX1_halve 4 = .ok (.iload_n 2, 1) := by decide +kernel
theorem dX1_halve_5 : decode cX1_halve 5 = .ok (.bipush 8, 2) := by decide +kernel
theorem dX1_halve_7 : decode cX1_halve 7 = .ok (.if_icmp .ge 32, 3) := by decide +kernel
theorem dX1_halve_10 : decode cX1_halve 10 = .ok (.iload_n 1, 1) := by decide +kernel
theorem dX1_halve_11 : decode cX1_halve 11 = .ok (.iconst 2, 1) := by decide +kernel
theorem dX1_halve_12 : decode cX1_halve 12 = .ok (.irem, 1) := by decide +kernel
theorem dX1_halve_13 : decode cX1_halve 13 = .ok (.ifCond .ne 9, 3) := by decide +kernel
theorem dX1_halve_16 : decode cX1_halve 16 = .ok (.iload_n 1, 1) := by decide +kernel
theorem dX1_halve_17 : decode cX1_halve 17 = .ok (.iconst 2, 1) := by decide +kernel
theorem dX1_halve_18 : decode cX1_halve 18 = .ok (.idiv, 1) := by decide +kernel
theorem dX1_halve_19 : decode cX1_halve 19 = .ok (.goto 13, 3) := by decide +kernel
theorem dX1_halve_22 : decode cX1_halve 22 = .ok (.iload_n 1, 1) := by decide +kernel
theorem dX1_halve_23 : decode cX1_halve 23 = .ok (.sipush 4129, 3) := by decide +kernel
theorem dX1_halve_26 : decode cX1_halve 26 = .ok (.ixor, 1) := by decide +kernel
theorem dX1_halve_27 : decode cX1_halve 27 = .ok (.iconst 2, 1) := by decide +kernel
theorem dX1_halve_28 : decode cX1_halve 28 = .ok (.idiv, 1) := by decide +kernel
theorem dX1_halve_29 : decode cX1_halve 29 = .ok (.ldc 67, 2) := by decide +kernel
theorem dX1_halve_31 : decode cX1_halve 31 = .ok (.iadd, 1) := by decide +kernel
theorem dX1_halve_32 : decode cX1_halve 32 = .ok (.istore_n 1, 1) := by decide +kernel
theorem dX1_halve_33 : decode cX1_halve 33 = .ok (.iinc 2 1, 3) := by decide +kernel
theorem dX1_halve_36 : decode cX1_halve 36 = .ok (.goto (-32), 3) := by decide +kernel
theorem dX1_halve_39 : decode cX1_halve 39 = .ok (.iload_n 1, 1) := by decide +kernel
theorem dX1_halve_40 : decode cX1_halve 40 = .ok (.ireturn, 1) := by decide +kernel
theorem vc_X1_halve_0 {G : zG} {d : Nat} {Q : Option zV → zHp → Prop} (p1 : Int) (h : zHp) (hS : zSh h) (hd : 0 ≤ d) (I_4 : Int → Int → Int → zHp → Prop) (hI_4 : ∀ (y0 : Int) (y1 : Int) (y2 : Int) (h' : zHp), I_4 y0 y1 y2 h' → wpN G d M_X1_halve 4 [(0, vI y0), (1, vI y1), (2, vI y2)] [] h' Q) 
    (hv : (zSh h → I_4 p1 p1 0 h)) : wpN G d M_X1_halve 0 [(0, vI p1)] [] h Q := by
  refine wq_iload_n 0 rfl rfl dX1_halve_0 ?_
  refine wq_istore_n (ls' := [(0, vI p1), (1, vI p1)]) rfl (by decide) rfl dX1_halve_1 ?_
  refine wq_iconst (z := 0) (zlit rfl) dX1_halve_2 ?_
  refine wq_istore_n (ls' := [(0, vI p1), (1, vI p1), (2, vI 0)]) rfl (by decide) rfl dX1_halve_3 ?_
  exact wq_pick [0, 1, 2] rfl (hI_4 p1 p1 0 h (hv hS))
theorem vc_X1_halve_4 {G : zG} {d : Nat} {Q : Option zV → zHp → Prop} (y0 : Int) (y1 : Int) (y2 : Int) (h : zHp) (hS : zSh h) (hd : 0 ≤ d) (I_4 : Int → Int → Int → zHp → Prop) (hI_4 : ∀ (y0 : Int) (y1 : Int) (y2 : Int) (h' : zHp), I_4 y0 y1 y2 h' → wpN G d M_X1_halve 4 [(0, vI y0), (1, vI y1), (2, vI y2)] [] h' Q) 
    (hv : ((8 ≤ y2 → Q (some (vI y1)) h) ∧ (y2 < 8 → (((y1.tmod 2) ≠ 0 → ((-2147483648 ≤ ((zxor y1 4129).tdiv 2) + 32768 ∧ ((zxor y1 4129).tdiv 2) + 32768 ≤ 2147483647) ∧ (∀ x3 : Int, x3 = (((zxor y1 4129).tdiv 2) + 32768) → ((-2147483648 ≤ y2 + 1 ∧ y2 + 1 ≤ 2147483647) ∧ ∀ x5 : Int, x5 = y2 + 1 → (zSh h → I_4 y0 x3 x5 h))))) ∧ ((y1.tmod 2) = 0 → (∀ x7 : Int, x7 = (y1.tdiv 2) → ((-2147483648 ≤ y2 + 1 ∧ y2 + 1 ≤ 2147483647) ∧ ∀ x9 : Int, x9 = y2 + 1 → (zSh h → I_4 y0 x7 x9 h)))))))) : wpN G d M_X1_halve 4 [(0, vI y0), (1, vI y1), (2, vI y2)] [] h Q := by
  refine wq_iload_n 2 rfl rfl dX1_halve_4 ?_
  refine wq_bipush (z := 8) (zlit rfl) rfl dX1_halve_5 ?_
  refine wq_icmp_ge 39 rfl dX1_halve_7 (fun c1 => ?_) (fun c1 => ?_)
  · refine wq_iload_n 1 rfl rfl dX1_halve_39 ?_
    exact wp_iret rfl dX1_halve_40 (hv.1 c1)
  · refine wq_iload_n 1 rfl rfl dX1_halve_10 ?_
    refine wq_iconst (z := 2) (zlit rfl) dX1_halve_11 ?_
    refine wq_irem (by decide) dX1_halve_12 ?_
    refine wq_if_ne 22 rfl dX1_halve_13 (fun c2 => ?_) (fun c2 => ?_)
    · refine wq_iload_n 1 rfl rfl dX1_halve_22 ?_
      refine wq_sipush (z := 4129) (zlit rfl) rfl dX1_halve_23 ?_
      refine wq_ixor dX1_halve_26 ?_
      refine wq_iconst (z := 2) (zlit rfl) dX1_halve_27 ?_
      refine wq_idiv (by decide) dX1_halve_28 ?_
      refine wq_ldc (z := 32768) (zlit rfl) kc_X1_67 dX1_halve_29 ?_
      refine wq_iadd ((hv.2 c1).1 c2).1 dX1_halve_31 ?_
      refine wq_topI (fun x3 e4 => ?_)
      refine wq_istore_n (ls' := [(0, vI y0), (1, vI x3), (2, vI y2)]) rfl (by decide) rfl dX1_halve_32 ?_
      refine z_nm (y2 + 1) (fun x5 e6 => ?_)
      refine wq_iinc (y := x5) (ls' := [(0, vI y0), (1, vI x3), (2, vI x5)]) 2 rfl e6.symm (by rw [e6]; exact (((hv.2 c1).1 c2).2 x3 e4).1) (by decide) rfl dX1_halve_33 ?_
      refine wq_goto 4 rfl dX1_halve_36 ?_
      exact wq_pick [0, 1, 2] rfl (hI_4 y0 x3 x5 h (((((hv.2 c1).1 c2).2 x3 e4).2 x5 e6) hS))
    · refine wq_iload_n 1 rfl rfl dX1_halve_16 ?_
      refine wq_iconst (z := 2) (zlit rfl) dX1_halve_17 ?_
      refine wq_idiv (by decide) dX1_halve_18 ?_
      refine wq_goto 32 rfl dX1_halve_19 ?_
      refine wq_topI (fun x7 e8 => ?_)
      refine wq_istore_n (ls' := [(0, vI y0), (1, vI x7), (2, vI y2)]) rfl (by decide) rfl dX1_halve_32 ?_
      refine z_nm (y2 + 1) (fun x9 e10 => ?_)
      refine wq_iinc (y := x9) (ls' := [(0, vI y0), (1, vI x7), (2, vI x9)]) 2 rfl e10.symm (by rw [e10]; exact (((hv.2 c1).2 c2) x7 e8).1) (by decide) rfl dX1_halve_33 ?_
      refine wq_goto 4 rfl dX1_halve_36 ?_
      exact wq_pick [0, 1, 2] rfl (hI_4 y0 x7 x9 h (((((hv.2 c1).2 c2) x7 e8).2 x9 e10) hS))
