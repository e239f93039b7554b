theorem dX11_in_0 : decode cX11_in 0 = .ok (.lload_n 0, 1) := by decide +kernel
theorem dX11_in_1 : decode cX11_in 1 = .ok (.lload_n 2, 1) := by decide +kernel
theorem dX11_in_2 : decode cX11_in 2 = .ok (.lcmp, 1) := by decide +kernel
theorem dX11_in_3 : decode cX11_in 3 = .ok (.ifCond .lt 14, 3) := by decide +kernel
theorem dX11_in_6 : decode cX11_in 6 = .ok (.lload_n 0, 1) := by decide +kernel
theorem dX11_in_7 : decode cX11_in 7 = .ok (.lload 4, 2) := by decide +kernel
theorem dX11_in_9 : decode cX11_in 9 = .ok (.lcmp, 1) := by decide +kernel
theorem dX11_in_10 : decode cX11_in 10 = .ok (.ifCond .gt 7, 3) := by decide +kernel
theorem dX11_in_13 : decode cX11_in 13 = .ok (.iconst 1, 1) := by decide +kernel
theorem dX11_in_14 : decode cX11_in 14 = .ok (.goto 4, 3) := by decide +kernel
theorem dX11_in_17 : decode cX11_in 17 = .ok (.iconst 0, 1) := by decide +kernel
theorem dX11_in_18 : decode cX11_in 18 = .ok (.ireturn, 1) := by decide +kernel
theorem vc_X11_in_0 {G : zG} {d : Nat} {Q : Option zV → zHp → Prop} (p1 : Int) (p2 : Int) (p3 : Int) (h : zHp) (hS : zSh h) (hd : 0 ≤ d)  
    (hv : ((p1 < p2 → Q (some (vI 0)) h) ∧ (p2 ≤ p1 → ((p3 < p1 → Q (some (vI 0)) h) ∧ (p1 ≤ p3 → Q (some (vI 1)) h))))) : wpN G d M_X11_in 0 [(0, vL p1), (2, vL p2), (4, vL p3)] [] h Q := by
  refine wq_lload_n 0 rfl rfl dX11_in_0 ?_
  refine wq_lload_n 1 rfl rfl dX11_in_1 ?_
  refine wq_lcmp_lt 17 rfl dX11_in_2 dX11_in_3 (fun c1 => ?_) (fun c1 => ?_)
  · refine wq_iconst (z := 0) (zlit rfl) dX11_in_17 ?_
    exact wp_zret (Or.inl rfl) rfl dX11_in_18 (hv.1 c1)
  · refine wq_lload_n 0 rfl rfl dX11_in_6 ?_
    refine wq_lload 2 rfl dX11_in_7 ?_
    refine wq_lcmp_gt 17 rfl dX11_in_9 dX11_in_10 (fun c2 => ?_) (fun c2 => ?_)
    · refine wq_iconst (z := 0) (zlit rfl) dX11_in_17 ?_
      exact wp_zret (Or.inl rfl) rfl dX11_in_18 ((hv.2 c1).1 c2)
    · refine wq_iconst (z := 1) (zlit rfl) dX11_in_13 ?_
      refine wq_goto 18 rfl dX11_in_14 ?_
      exact wp_zret (Or.inr rfl) rfl dX11_in_18 ((hv.2 c1).2 c2)
theorem dX11_less_0 : decode cX11_less 0 = .ok (.iload_n 0, 1) := by decide +kernel
theorem dX11_less_1 : decode cX11_less 1 = .ok (.iload_n 1, 1) := by decide +kernel
theorem dX11_less_2 : decode cX11_less 2 = .ok (.if_icmp .ge 7, 3) := by decide +kernel
theorem dX11_less_5 : decode cX11_less 5 = .ok (.iload_n 0, 1) := by decide +kernel
theorem dX11_less_6 : decode cX11_less 6 = .ok (.goto 4, 3) := by decide +kernel
theorem dX11_less_9 : decode cX11_less 9 = .ok (.iload_n 1, 1) := by decide +kernel
theorem dX11_less_10 : decode cX11_less 10 = .ok (.ireturn, 1) := by decide +kernel
theorem vc_X11_less_0 {G : zG} {d : Nat} {Q : Option zV → zHp → Prop} (p1 : Int) (p2 : Int) (h : zHp) (hS : zSh h) (hd : 0 ≤ d)  
    (hv : ((p2 ≤ p1 → Q (some (vI p2)) h) ∧ (p1 < p2 → Q (some (vI p1)) h))) : wpN G d M_X11_less 0 [(0, vI p1), (1, vI p2)] [] h Q := by
  refine wq_iload_n 0 rfl rfl dX11_less_0 ?_
  refine wq_iload_n 1 rfl rfl dX11_less_1 ?_
  refine wq_icmp_ge 9 rfl dX11_less_2 (fun c1 => ?_) (fun c1 => ?_)
  · refine wq_iload_n 1 rfl rfl dX11_less_9 ?_
    exact wp_iret rfl dX11_less_10 (hv.1 c1)
  · refine wq_iload_n 0 rfl rfl dX11_less_5 ?_
    refine wq_goto 10 rfl dX11_less_6 ?_
    exact wp_iret rfl dX11_less_10 (hv.2 c1)
theorem dX11_size_0 : decode cX11_size 0 = .ok (.aload_n 0, 1) := by decide +kernel
theorem dX11_size_1 : decode cX11_size 1 = .ok (.getfield 7, 3) := by decide +kernel
theorem dX11_size_4 : decode cX11_size 4 = .ok (.sipush 200, 3) := by decide +kernel
theorem dX11_size_7 : decode cX11_size 7 = .ok (.iaload, 1) := by decide +kernel
theorem dX11_size_8 : decode cX11_size 8 = .ok (.ireturn, 1) := by decide +kernel
theorem vc_X11_size_0 {G : zG} {d : Nat} {Q : Option zV → zHp → Prop}  (h : zHp) (hS : zSh h) (hd : 0 ≤ d)  
    (hv : Q (some (vI (gI h 344 200))) h) : wpN G d M_X11_size 0 [(0, vR 343)] [] h Q := by
  refine wq_aload_n 0 rfl rfl dX11_size_0 ?_
  refine wq_getR fk_X11_7 tT_343 (fun _ _ _ => rfl) (sh_11_0 hS) (by decide) dX11_size_1 ?_
  refine wq_sipush (z := 200) (zlit rfl) rfl dX11_size_4 ?_
  refine wq_iald tT_344 (by decide) (by decide) dX11_size_7 ?_
  exact wp_iret rfl dX11_size_8 hv
theorem dX11_isPresent_0 : decode cX11_isPresent 0 = .ok (.iload_n 1, 1) := by decide +kernel
theorem dX11_isPresent_1 : decode cX11_isPresent 1 = .ok (.i2l, 1) := by decide +kernel
theorem dX11_isPresent_2 : decode cX11_isPresent 2 = .ok (.lconst 0, 1) := by decide +kernel
theorem dX11_isPresent_3 : decode cX11_isPresent 3 = .ok (.ldc2_w 89, 3) := by decide +kernel
theorem dX11_isPresent_6 : decode cX11_isPresent 6 = .ok (.invokestatic 91, 3) := by decide +kernel
theorem dX11_isPresent_9 : decode cX11_isPresent 9 = .ok (.ifCond .eq 23, 3) := by decide +kernel
theorem dX11_isPresent_12 : decode cX11_isPresent 12 = .ok (.aload_n 0, 1) := by decide +kernel
theorem dX11_isPresent_13 : decode cX11_isPresent 13 = .ok (.getfield 7, 3) := by decide +kernel
theorem dX11_isPresent_16 : decode cX11_isPresent 16 = .ok (.sipush 201, 3) := by decide +kernel
theorem dX11_isPresent_19 : decode cX11_isPresent 19 = .ok (.iconst 3, 1) := by decide +kernel
theorem dX11_isPresent_20 : decode cX11_isPresent 20 = .ok (.iload_n 1, 1) := by decide +kernel
theorem dX11_isPresent_21 : decode cX11_isPresent 21 = .ok (.imul, 1) := by decide +kernel
theorem dX11_isPresent_22 : decode cX11_isPresent 22 = .ok (.iadd, 1) := by decide +kernel
theorem dX11_isPresent_23 : decode cX11_isPresent 23 = .ok (.iaload, 1) := by decide +kernel
theorem dX11_isPresent_24 : decode cX11_isPresent 24 = .ok (.iconst 1, 1) := by decide +kernel
theorem dX11_isPresent_25 : decode cX11_isPresent 25 = .ok (.if_icmp .ne 7, 3) := by decide +kernel
theorem dX11_isPresent_28 : decode cX11_isPresent 28 = .ok (.iconst 1, 1) := by decide +kernel
theorem dX11_isPresent_29 : decode cX11_isPresent 29 = .ok (.goto 4, 3) := by decide +kernel
theorem dX11_isPresent_32 : decode cX11_isPresent 32 = .ok (.iconst 0, 1) := by decide +kernel
theorem dX11_isPresent_33 : decode cX11_isPresent 33 = .ok (.ireturn, 1) := by decide +kernel
theorem vc_X11_isPresent_0 {G : zG} {d : Nat} {Q : Option zV → zHp → Prop} (p1 : Int) (h : zHp) (hS : zSh h) (hd : 1 ≤ d)  
    (hv : (wpN G (d - 1) M_X11_in 0 (zar 0 [vL p1, vL 0, vL 3]) [] h (qI (fun z1 h2 => zSh h2 ∧ ((z1 = 0 → Q (some (vI 0)) h2) ∧ (z1 ≠ 0 → ((-2147483648 ≤ 3 * p1 ∧ 3 * p1 ≤ 2147483647) ∧ ((-2147483648 ≤ 201 + (3 * p1) ∧ 201 + (3 * p1) ≤ 2147483647) ∧ (((0 : Int) ≤ (201 + (3 * p1)) ∧ (201 + (3 * p1)) < ((213 : Nat) : Int)) ∧ (((gI h2 344 (201 + (3 * p1)).toNat) ≠ 1 → Q (some (vI 0)) h2) ∧ ((gI h2 344 (201 + (3 * p1)).toNat) = 1 → Q (some (vI 1)) h2))))))))))) : wpN G d M_X11_isPresent 0 [(0, vR 343), (1, vI p1)] [] h Q := by
  refine wq_iload_n 1 rfl rfl dX11_isPresent_0 ?_
  refine wq_i2l dX11_isPresent_1 ?_
  refine wq_lconst (z := 0) (zlitL rfl) rfl dX11_isPresent_2 ?_
  refine wq_ldc2_w (z := 3) (zlitL rfl) kc_X11_89 dX11_isPresent_3 ?_
  refine wN_S (As := [vL p1, vL 0, vL 3]) md_X11_in ms_X11_in lk_X11_91 rfl rfl (Nat.le_of_ble_eq_true rfl) (Nat.le_of_ble_eq_true rfl) (d' := d - 1) (by omega) dX11_isPresent_6 hv (fun v9 h2 q3 => ?_)
  obtain ⟨z1, rfl, hS4, q3⟩ := q3
  refine wq_st (st' := [vI z1]) rfl ?_
  refine wq_if_eq 32 rfl dX11_isPresent_9 (fun c5 => ?_) (fun c5 => ?_)
  · refine wq_iconst (z := 0) (zlit rfl) dX11_isPresent_32 ?_
    exact wp_zret (Or.inl rfl) rfl dX11_isPresent_33 (q3.1 c5)
  · refine wq_aload_n 0 rfl rfl dX11_isPresent_12 ?_
    refine wq_getR fk_X11_7 tT_343 (fun _ _ _ => rfl) (sh_11_0 hS4) (by decide) dX11_isPresent_13 ?_
    refine wq_sipush (z := 201) (zlit rfl) rfl dX11_isPresent_16 ?_
    refine wq_iconst (z := 3) (zlit rfl) dX11_isPresent_19 ?_
    refine wq_iload_n 1 rfl rfl dX11_isPresent_20 ?_
    refine wq_imul (q3.2 c5).1 dX11_isPresent_21 ?_
    refine wq_iadd (q3.2 c5).2.1 dX11_isPresent_22 ?_
    refine wq_iald tT_344 (q3.2 c5).2.2.1.1 (q3.2 c5).2.2.1.2 dX11_isPresent_23 ?_
    refine wq_iconst (z := 1) (zlit rfl) dX11_isPresent_24 ?_
    refine wq_icmp_ne 32 rfl dX11_isPresent_25 (fun c6 => ?_) (fun c6 => ?_)
    · refine wq_iconst (z := 0) (zlit rfl) dX11_isPresent_32 ?_
      exact wp_zret (Or.inl rfl) rfl dX11_isPresent_33 ((q3.2 c5).2.2.2.1 c6)
    · refine wq_iconst (z := 1) (zlit rfl) dX11_isPresent_28 ?_
      refine wq_goto 33 rfl dX11_isPresent_29 ?_
      exact wp_zret (Or.inr rfl) rfl dX11_isPresent_33 ((q3.2 c5).2.2.2.2 c6)
theorem dX11_templateOf_0 : decode cX11_templateOf 0 = .ok (.aload_n 0, 1) := by decide +kernel
theorem dX11_templateOf_1 : decode cX11_templateOf 1 = .ok (.getfield 7, 3) := by decide +kernel
theorem dX11_templateOf_4 : decode cX11_templateOf 4 = .ok (.sipush 202, 3) := by decide +kernel
theorem dX11_templateOf_7 : decode cX11_templateOf 7 = .ok (.iconst 3, 1) := by decide +kernel
theorem dX11_templateOf_8 : decode cX11_templateOf 8 = .ok (.iload_n 1, 1) := by decide +kernel
theorem dX11_templateOf_9 : decode cX11_templateOf 9 = .ok (.imul, 1) := by decide +kernel
theorem dX11_templateOf_10 : decode cX11_templateOf 10 = .ok (.iadd, 1) := by decide +kernel
theorem dX11_templateOf_11 : decode cX11_templateOf 11 = .ok (.iaload, 1) := by decide +kernel
theorem dX11_templateOf_12 : decode cX11_templateOf 12 = .ok (.ireturn, 1) := by decide +kernel
theorem vc_X11_templateOf_0 {G : zG} {d : Nat} {Q : Option zV → zHp → Prop} (p1 : Int) (h : zHp) (hS : zSh h) (hd : 0 ≤ d)  
    (hv : ((-2147483648 ≤ 3 * p1 ∧ 3 * p1 ≤ 2147483647) ∧ ((-2147483648 ≤ 202 + (3 * p1) ∧ 202 + (3 * p1) ≤ 2147483647) ∧ (((0 : Int) ≤ (202 + (3 * p1)) ∧ (202 + (3 * p1)) < ((213 : Nat) : Int)) ∧ Q (some (vI (gI h 344 (202 + (3 * p1)).toNat))) h)))) : wpN G d M_X11_templateOf 0 [(0, vR 343), (1, vI p1)] [] h Q := by
  refine wq_aload_n 0 rfl rfl dX11_templateOf_0 ?_
  refine wq_getR fk_X11_7 tT_343 (fun _ _ _ => rfl) (sh_11_0 hS) (by decide) dX11_templateOf_1 ?_
  refine wq_sipush (z := 202) (zlit rfl) rfl dX11_templateOf_4 ?_
  refine wq_iconst (z := 3) (zlit rfl) dX11_templateOf_7 ?_
  refine wq_iload_n 1 rfl rfl dX11_templateOf_8 ?_
  refine wq_imul hv.1 dX11_templateOf_9 ?_
  refine wq_iadd hv.2.1 dX11_templateOf_10 ?_
  refine wq_iald tT_344 hv.2.2.1.1 hv.2.2.1.2 dX11_templateOf_11 ?_
  exact wp_iret rfl dX11_templateOf_12 hv.2.2.2
theorem dX11_offsetOf_0 : decode cX11_offsetOf 0 = .ok (.aload_n 0, 1) := by decide +kernel
theorem dX11_offsetOf_1 : decode cX11_offsetOf 1 = .ok (.getfield 7, 3) := by decide +kernel
theorem dX11_offsetOf_4 : decode cX11_offsetOf 4 = .ok (.sipush 203, 3) := by decide +kernel
theorem dX11_offsetOf_7 : decode cX11_offsetOf 7 = .ok (.iconst 3, 1) := by decide +kernel
theorem dX11_offsetOf_8 : decode cX11_offsetOf 8 = .ok (.iload_n 1, 1) := by decide +kernel
theorem dX11_offsetOf_9 : decode cX11_offsetOf 9 = .ok (.imul, 1) := by decide +kernel
theorem dX11_offsetOf_10 : decode cX11_offsetOf 10 = .ok (.iadd, 1) := by decide +kernel
theorem dX11_offsetOf_11 : decode cX11_offsetOf 11 = .ok (.iaload, 1) := by decide +kernel
theorem dX11_offsetOf_12 : decode cX11_offsetOf 12 = .ok (.ireturn, 1) := by decide +kernel
theorem vc_X11_offsetOf_0 {G : zG} {d : Nat} {Q : Option zV → zHp → Prop} (p1 : Int) (h : zHp) (hS : zSh h) (hd : 0 ≤ d)  
    (hv : ((-2147483648 ≤ 3 * p1 ∧ 3 * p1 ≤ 2147483647) ∧ ((-2147483648 ≤ 203 + (3 * p1) ∧ 203 + (3 * p1) ≤ 2147483647) ∧ (((0 : Int) ≤ (203 + (3 * p1)) ∧ (203 + (3 * p1)) < ((213 : Nat) : Int)) ∧ Q (some (vI (gI h 344 (203 + (3 * p1)).toNat))) h)))) : wpN G d M_X11_offsetOf 0 [(0, vR 343), (1, vI p1)] [] h Q := by
  refine wq_aload_n 0 rfl rfl dX11_offsetOf_0 ?_
  refine wq_getR fk_X11_7 tT_343 (fun _ _ _ => rfl) (sh_11_0 hS) (by decide) dX11_offsetOf_1 ?_
  refine wq_sipush (z := 203) (zlit rfl) rfl dX11_offsetOf_4 ?_
  refine wq_iconst (z := 3) (zlit rfl) dX11_offsetOf_7 ?_
  refine wq_iload_n 1 rfl rfl dX11_offsetOf_8 ?_
  refine wq_imul hv.1 dX11_offsetOf_9 ?_
  refine wq_iadd hv.2.1 dX11_offsetOf_10 ?_
  refine wq_iald tT_344 hv.2.2.1.1 hv.2.2.1.2 dX11_offsetOf_11 ?_
  exact wp_iret rfl dX11_offsetOf_12 hv.2.2.2
theorem dX11_moves_0 : decode cX11_moves 0 = .ok (.aload_n 0, 1) := by decide +kernel
theorem dX11_moves_1 : decode cX11_moves 1 = .ok (.getfield 7, 3) := by decide +kernel
theorem dX11_moves_4 : decode cX11_moves 4 = .ok (.sipush 203, 3) := by decide +kernel
theorem dX11_moves_7 : decode cX11_moves 7 = .ok (.iconst 3, 1) := by decide +kernel
theorem dX11_moves_8 : decode cX11_moves 8 = .ok (.iload_n 1, 1) := by decide +kernel
theorem dX11_moves_9 : decode cX11_moves 9 = .ok (.imul, 1) := by decide +kernel
theorem dX11_moves_10 : decode cX11_moves 10 = .ok (.iadd, 1) := by decide +kernel
theorem dX11_moves_11 : decode cX11_moves 11 = .ok (.iload_n 2, 1) := by decide +kernel
theorem dX11_moves_12 : decode cX11_moves 12 = .ok (.iastore, 1) := by decide +kernel
theorem dX11_moves_13 : decode cX11_moves 13 = .ok (.return_, 1) := by decide +kernel
theorem vc_X11_moves_0 {G : zG} {d : Nat} {Q : Option zV → zHp → Prop} (p1 : Int) (p2 : Int) (h : zHp) (hS : zSh h) (hd : 0 ≤ d)  
    (hv : ((-2147483648 ≤ 3 * p1 ∧ 3 * p1 ≤ 2147483647) ∧ ((-2147483648 ≤ 203 + (3 * p1) ∧ 203 + (3 * p1) ≤ 2147483647) ∧ (((0 : Int) ≤ (203 + (3 * p1)) ∧ (203 + (3 * p1)) < ((213 : Nat) : Int)) ∧ (∀ h1 : zHp, h1 = sI h 344 (203 + (3 * p1)).toNat p2 → Q none h1))))) : wpN G d M_X11_moves 0 [(0, vR 343), (1, vI p1), (2, vI p2)] [] h Q := by
  refine wq_aload_n 0 rfl rfl dX11_moves_0 ?_
  refine wq_getR fk_X11_7 tT_343 (fun _ _ _ => rfl) (sh_11_0 hS) (by decide) dX11_moves_1 ?_
  refine wq_sipush (z := 203) (zlit rfl) rfl dX11_moves_4 ?_
  refine wq_iconst (z := 3) (zlit rfl) dX11_moves_7 ?_
  refine wq_iload_n 1 rfl rfl dX11_moves_8 ?_
  refine wq_imul hv.1 dX11_moves_9 ?_
  refine wq_iadd hv.2.1 dX11_moves_10 ?_
  refine wq_iload_n 2 rfl rfl dX11_moves_11 ?_
  refine wq_iast tT_344 hv.2.2.1.1 hv.2.2.1.2 dX11_moves_12 ?_
  refine wq_toph (fun h1 e2 => ?_)
  have sh1 : zSh h1 := zSh_of e2 hS
  exact wp_vret rfl dX11_moves_13 (hv.2.2.2 h1 e2)
theorem dX11_type_0 : decode cX11_type 0 = .ok (.iload_n 1, 1) := by decide +kernel
theorem dX11_type_1 : decode cX11_type 1 = .ok (.i2l, 1) := by decide +kernel
theorem dX11_type_2 : decode cX11_type 2 = .ok (.lconst 0, 1) := by decide +kernel
theorem dX11_type_3 : decode cX11_type 3 = .ok (.ldc2_w 95, 3) := by decide +kernel
theorem dX11_type_6 : decode cX11_type 6 = .ok (.invokestatic 91, 3) := by decide +kernel
theorem dX11_type_9 : decode cX11_type 9 = .ok (.ifCond .ne 7, 3) := by decide +kernel
theorem dX11_type_12 : decode cX11_type 12 = .ok (.sipush (-1001), 3) := by decide +kernel
theorem dX11_type_15 : decode cX11_type 15 = .ok (.ireturn, 1) := by decide +kernel
theorem dX11_type_16 : decode cX11_type 16 = .ok (.aload_n 0, 1) := by decide +kernel
theorem dX11_type_17 : decode cX11_type 17 = .ok (.getfield 97, 3) := by decide +kernel
theorem dX11_type_20 : decode cX11_type 20 = .ok (.bipush 120, 2) := by decide +kernel
theorem dX11_type_22 : decode cX11_type 22 = .ok (.if_icmp .ne 7, 3) := by decide +kernel
theorem dX11_type_25 : decode cX11_type 25 = .ok (.sipush (-1003), 3) := by decide +kernel
theorem dX11_type_28 : decode cX11_type 28 = .ok (.ireturn, 1) := by decide +kernel
theorem dX11_type_29 : decode cX11_type 29 = .ok (.aload_n 0, 1) := by decide +kernel
theorem dX11_type_30 : decode cX11_type 30 = .ok (.getfield 28, 3) := by decide +kernel
theorem dX11_type_33 : decode cX11_type 33 = .ok (.aload_n 0, 1) := by decide +kernel
theorem dX11_type_34 : decode cX11_type 34 = .ok (.getfield 97, 3) := by decide +kernel
theorem dX11_type_37 : decode cX11_type 37 = .ok (.iload_n 1, 1) := by decide +kernel
theorem dX11_type_38 : decode cX11_type 38 = .ok (.iastore, 1) := by decide +kernel
theorem dX11_type_39 : decode cX11_type 39 = .ok (.aload_n 0, 1) := by decide +kernel
theorem dX11_type_40 : decode cX11_type 40 = .ok (.dup, 1) := by decide +kernel
theorem dX11_type_41 : decode cX11_type 41 = .ok (.getfield 97, 3) := by decide +kernel
theorem dX11_type_44 : decode cX11_type 44 = .ok (.iconst 1, 1) := by decide +kernel
theorem dX11_type_45 : decode cX11_type 45 = .ok (.iadd, 1) := by decide +kernel
theorem dX11_type_46 : decode cX11_type 46 = .ok (.putfield 97, 3) := by decide +kernel
theorem dX11_type_49 : decode cX11_type 49 = .ok (.aload_n 0, 1) := by decide +kernel
theorem dX11_type_50 : decode cX11_type 50 = .ok (.getfield 97, 3) := by decide +kernel
theorem dX11_type_53 : decode cX11_type 53 = .ok (.ireturn, 1) := by decide +kernel
theorem vc_X11_type_0 {G : zG} {d : Nat} {Q : Option zV → zHp → Prop} (p1 : Int) (h : zHp) (hS : zSh h) (hd : 1 ≤ d)  
    (hv : (wpN G (d - 1) M_X11_in 0 (zar 0 [vL p1, vL 0, vL 127]) [] h (qI (fun z1 h2 => zSh h2 ∧ ((z1 ≠ 0 → (((gI h2 343 12) ≠ 120 → (((0 : Int) ≤ (gI h2 343 12) ∧ (gI h2 343 12) < ((120 : Nat) : Int)) ∧ (∀ h7 : zHp, h7 = sI h2 350 (gI h2 343 12).toNat p1 → ((-2147483648 ≤ (gI h7 343 12) + 1 ∧ (gI h7 343 12) + 1 ≤ 2147483647) ∧ (∀ h9 : zHp, h9 = sI h7 343 12 ((gI h7 343 12) + 1) → Q (some (vI (gI h9 343 12))) h9))))) ∧ ((gI h2 343 12) = 120 → Q (some (vI (-1003))) h2))) ∧ (z1 = 0 → Q (some (vI (-1001))) h2)))))) : wpN G d M_X11_type 0 [(0, vR 343), (1, vI p1)] [] h Q := by
  refine wq_iload_n 1 rfl rfl dX11_type_0 ?_
  refine wq_i2l dX11_type_1 ?_
  refine wq_lconst (z := 0) (zlitL rfl) rfl dX11_type_2 ?_
  refine wq_ldc2_w (z := 127) (zlitL rfl) kc_X11_95 dX11_type_3 ?_
  refine wN_S (As := [vL p1, vL 0, vL 127]) md_X11_in ms_X11_in lk_X11_91 rfl rfl (Nat.le_of_ble_eq_true rfl) (Nat.le_of_ble_eq_true rfl) (d' := d - 1) (by omega) dX11_type_6 hv (fun v9 h2 q3 => ?_)
  obtain ⟨z1, rfl, hS4, q3⟩ := q3
  refine wq_st (st' := [vI z1]) rfl ?_
  refine wq_if_ne 16 rfl dX11_type_9 (fun c5 => ?_) (fun c5 => ?_)
  · refine wq_aload_n 0 rfl rfl dX11_type_16 ?_
    refine wq_getI fk_X11_97 tT_343 (fun _ _ _ => rfl) dX11_type_17 ?_
    refine wq_bipush (z := 120) (zlit rfl) rfl dX11_type_20 ?_
    refine wq_icmp_ne 29 rfl dX11_type_22 (fun c6 => ?_) (fun c6 => ?_)
    · refine wq_aload_n 0 rfl rfl dX11_type_29 ?_
      refine wq_getR fk_X11_28 tT_343 (fun _ _ _ => rfl) (sh_11_11 hS4) (by decide) dX11_type_30 ?_
      refine wq_aload_n 0 rfl rfl dX11_type_33 ?_
      refine wq_getI fk_X11_97 tT_343 (fun _ _ _ => rfl) dX11_type_34 ?_
      refine wq_iload_n 1 rfl rfl dX11_type_37 ?_
      refine wq_iast tT_350 ((q3.1 c5).1 c6).1.1 ((q3.1 c5).1 c6).1.2 dX11_type_38 ?_
      refine wq_toph (fun h7 e8 => ?_)
      have sh7 : zSh h7 := zSh_of e8 hS4
      refine wq_aload_n 0 rfl rfl dX11_type_39 ?_
      refine wq_dup rfl dX11_type_40 ?_
      refine wq_getI fk_X11_97 tT_343 (fun _ _ _ => rfl) dX11_type_41 ?_
      refine wq_iconst (z := 1) (zlit rfl) dX11_type_44 ?_
      refine wq_iadd (((q3.1 c5).1 c6).2 h7 e8).1 dX11_type_45 ?_
      refine wq_putI fk_X11_97 tT_343 rfl rfl dX11_type_46 ?_
      refine wq_toph (fun h9 e10 => ?_)
      have sh9 : zSh h9 := zSh_of e10 sh7
      refine wq_aload_n 0 rfl rfl dX11_type_49 ?_
      refine wq_getI fk_X11_97 tT_343 (fun _ _ _ => rfl) dX11_type_50 ?_
      exact wp_iret rfl dX11_type_53 ((((q3.1 c5).1 c6).2 h7 e8).2 h9 e10)
    · refine wq_sipush (z := -1003) (zlit rfl) rfl dX11_type_25 ?_
      exact wp_iret rfl dX11_type_28 ((q3.1 c5).2 c6)
  · refine wq_sipush (z := -1001) (zlit rfl) rfl dX11_type_12 ?_
    exact wp_iret rfl dX11_type_15 (q3.2 c5)
theorem dX11_clearText_0 : decode cX11_clearText 0 = .ok (.aload_n 0, 1) := by decide +kernel
theorem dX11_clearText_1 : decode cX11_clearText 1 = .ok (.getfield 97, 3) := by decide +kernel
theorem dX11_clearText_4 : decode cX11_clearText 4 = .ok (.istore_n 1, 1) := by decide +kernel
theorem dX11_clearText_5 : decode cX11_clearText 5 = .ok (.aload_n 0, 1) := by decide +kernel
theorem dX11_clearText_6 : decode cX11_clearText 6 = .ok (.iconst 0, 1) := by decide +kernel
theorem dX11_clearText_7 : decode cX11_clearText 7 = .ok (.putfield 97, 3) := by decide +kernel
theorem dX11_clearText_10 : decode cX11_clearText 10 = .ok (.iload_n 1, 1) := by decide +kernel
theorem dX11_clearText_11 : decode cX11_clearText 11 = .ok (.ireturn, 1) := by decide +kernel
theorem vc_X11_clearText_0 {G : zG} {d : Nat} {Q : Option zV → zHp → Prop}  (h : zHp) (hS : zSh h) (hd : 0 ≤ d)  
    (hv : (∀ x1 : Int, x1 = (gI h 343 12) → (∀ h3 : zHp, h3 = sI h 343 12 0 → Q (some (vI x1)) h3))) : wpN G d M_X11_clearText 0 [(0, vR 343)] [] h Q := by
  refine wq_aload_n 0 rfl rfl dX11_clearText_0 ?_
  refine wq_getI fk_X11_97 tT_343 (fun _ _ _ => rfl) dX11_clearText_1 ?_
  refine wq_topI (fun x1 e2 => ?_)
  refine wq_istore_n (ls' := [(0, vR 343), (1, vI x1)]) rfl (by decide) rfl dX11_clearText_4 ?_
  refine wq_aload_n 0 rfl rfl dX11_clearText_5 ?_
  refine wq_iconst (z := 0) (zlit rfl) dX11_clearText_6 ?_
  refine wq_putI fk_X11_97 tT_343 rfl rfl dX11_clearText_7 ?_
  refine wq_toph (fun h3 e4 => ?_)
  have sh3 : zSh h3 := zSh_of e4 hS
  refine wq_iload_n 1 rfl rfl dX11_clearText_10 ?_
  exact wp_iret rfl dX11_clearText_11 ((hv x1 e2) h3 e4)
theorem dX11_next_0 : decode cX11_next 0 = .ok (.aload_n 0, 1) := by decide +kernel
theorem dX11_next_1 : decode cX11_next 1 = .ok (.getfield 101, 3) := by decide +kernel
theorem dX11_next_4 : decode cX11_next 4 = .ok (.aload_n 0, 1) := by decide +kernel
theorem dX11_next_5 : decode cX11_next 5 = .ok (.getfield 97, 3) := by decide +kernel
theorem dX11_next_8 : decode cX11_next 8 = .ok (.if_icmp .ge 15, 3) := by decide +kernel
theorem dX11_next_11 : decode cX11_next 11 = .ok (.aload_n 0, 1) := by decide +kernel
theorem dX11_next_12 : decode cX11_next 12 = .ok (.getfield 28, 3) := by decide +kernel
theorem dX11_next_15 : decode cX11_next 15 = .ok (.aload_n 0, 1) := by decide +kernel
theorem dX11_next_16 : decode cX11_next 16 = .ok (.getfield 101, 3) := by decide +kernel
theorem dX11_next_19 : decode cX11_next 19 = .ok (.iaload, 1) := by decide +kernel
theorem dX11_next_20 : decode cX11_next 20 = .ok (.goto 4, 3) := by decide +kernel
theorem dX11_next_23 : decode cX11_next 23 = .ok (.iconst (-1), 1) := by decide +kernel
theorem dX11_next_24 : decode cX11_next 24 = .ok (.ireturn, 1) := by decide +kernel
theorem vc_X11_next_0 {G : zG} {d : Nat} {Q : Option zV → zHp → Prop}  (h : zHp) (hS : zSh h) (hd : 0 ≤ d)  
    (hv : (((gI h 343 12) ≤ (gI h 343 15) → Q (some (vI (-1))) h) ∧ ((gI h 343 15) < (gI h 343 12) → (((0 : Int) ≤ (gI h 343 15) ∧ (gI h 343 15) < ((120 : Nat) : Int)) ∧ Q (some (vI (gI h 350 (gI h 343 15).toNat))) h)))) : wpN G d M_X11_next 0 [(0, vR 343)] [] h Q := by
  refine wq_aload_n 0 rfl rfl dX11_next_0 ?_
  refine wq_getI fk_X11_101 tT_343 (fun _ _ _ => rfl) dX11_next_1 ?_
  refine wq_aload_n 0 rfl rfl dX11_next_4 ?_
  refine wq_getI fk_X11_97 tT_343 (fun _ _ _ => rfl) dX11_next_5 ?_
  refine wq_icmp_ge 23 rfl dX11_next_8 (fun c1 => ?_) (fun c1 => ?_)
  · refine wq_iconst (z := -1) (zlit rfl) dX11_next_23 ?_
    exact wp_iret rfl dX11_next_24 (hv.1 c1)
  · refine wq_aload_n 0 rfl rfl dX11_next_11 ?_
    refine wq_getR fk_X11_28 tT_343 (fun _ _ _ => rfl) (sh_11_11 hS) (by decide) dX11_next_12 ?_
    refine wq_aload_n 0 rfl rfl dX11_next_15 ?_
    refine wq_getI fk_X11_101 tT_343 (fun _ _ _ => rfl) dX11_next_16 ?_
    refine wq_iald tT_350 (hv.2 c1).1.1 (hv.2 c1).1.2 dX11_next_19 ?_
    refine wq_goto 24 rfl dX11_next_20 ?_
    exact wp_iret rfl dX11_next_24 (hv.2 c1).2
theorem dX11_blanks_0 : decode cX11_blanks 0 = .ok (.aload_n 0, 1) := by decide +kernel
theorem dX11_blanks_1 : decode cX11_blanks 1 = .ok (.invokevirtual 104, 3) := by decide +kernel
theorem dX11_blanks_4 : decode cX11_blanks 4 = .ok (.bipush 32, 2) := by decide +kernel
theorem dX11_blanks_6 : decode cX11_blanks 6 = .ok (.if_icmp .ne 16, 3) := by decide +kernel
theorem dX11_blanks_9 : decode cX11_blanks 9 = .ok (.aload_n 0, 1) := by decide +kernel
theorem dX11_blanks_10 : decode cX11_blanks 10 = .ok (.dup, 1) := by decide +kernel
theorem dX11_blanks_11 : decode cX11_blanks 11 = .ok (.getfield 101, 3) := by decide +kernel
theorem dX11_blanks_14 : decode cX11_blanks 14 = .ok (.iconst 1, 1) := by decide +kernel
theorem dX11_blanks_15 : decode cX11_blanks 15 = .ok (.iadd, 1) := by decide +kernel
theorem dX11_blanks_16 : decode cX11_blanks 16 = .ok (.putfield 101, 3) := by decide +kernel
theorem dX11_blanks_19 : decode cX11_blanks 19 = .ok (.goto (-19), 3) := by decide +kernel
theorem dX11_blanks_22 : decode cX11_blanks 22 = .ok (.return_, 1) := by decide +kernel
theorem vc_X11_blanks_0 {G : zG} {d : Nat} {Q : Option zV → zHp → Prop}  (h : zHp) (hS : zSh h) (hd : 1 ≤ d) (I_0 : zHp → Prop) (hI_0 : ∀  (h' : zHp), I_0  h' → wpN G d M_X11_blanks 0 [(0, vR 343)] [] h' Q) 
    (hv : (wpN G (d - 1) M_X11_next 0 (zar 0 [vR 343]) [] h (qI (fun z1 h2 => zSh h2 ∧ ((z1 ≠ 32 → Q none h2) ∧ (z1 = 32 → ((-2147483648 ≤ (gI h2 343 15) + 1 ∧ (gI h2 343 15) + 1 ≤ 2147483647) ∧ (∀ h6 : zHp, h6 = sI h2 343 15 ((gI h2 343 15) + 1) → (zSh h6 → I_0  h6))))))))) : wpN G d M_X11_blanks 0 [(0, vR 343)] [] h Q := by
  refine wq_aload_n 0 rfl rfl dX11_blanks_0 ?_
  refine wN_V (As := []) vm_X11_next lk_X11_104 tT_343 rfl rfl (Nat.le_of_ble_eq_true rfl) (Nat.le_of_ble_eq_true rfl) (d' := d - 1) (by omega) dX11_blanks_1 hv (fun v9 h2 q3 => ?_)
  obtain ⟨z1, rfl, hS4, q3⟩ := q3
  refine wq_st (st' := [vI z1]) rfl ?_
  refine wq_bipush (z := 32) (zlit rfl) rfl dX11_blanks_4 ?_
  refine wq_icmp_ne 22 rfl dX11_blanks_6 (fun c5 => ?_) (fun c5 => ?_)
  · exact wp_vret rfl dX11_blanks_22 (q3.1 c5)
  · refine wq_aload_n 0 rfl rfl dX11_blanks_9 ?_
    refine wq_dup rfl dX11_blanks_10 ?_
    refine wq_getI fk_X11_101 tT_343 (fun _ _ _ => rfl) dX11_blanks_11 ?_
    refine wq_iconst (z := 1) (zlit rfl) dX11_blanks_14 ?_
    refine wq_iadd (q3.2 c5).1 dX11_blanks_15 ?_
    refine wq_putI fk_X11_101 tT_343 rfl rfl dX11_blanks_16 ?_
    refine wq_toph (fun h6 e7 => ?_)
    have sh6 : zSh h6 := zSh_of e7 hS4
    refine wq_goto 0 rfl dX11_blanks_19 ?_
    exact wq_pick [0] rfl (hI_0  h6 (((q3.2 c5).2 h6 e7) sh6))
theorem dX11_faults_0 : decode cX11_faults 0 = .ok (.aload_n 0, 1) := by decide +kernel
theorem dX11_faults_1 : decode cX11_faults 1 = .ok (.aload_n 0, 1) := by decide +kernel
theorem dX11_faults_2 : decode cX11_faults 2 = .ok (.getfield 108, 3) := by decide +kernel
theorem dX11_faults_5 : decode cX11_faults 5 = .ok (.sipush (-1009), 3) := by decide +kernel
theorem dX11_faults_8 : decode cX11_faults 8 = .ok (.if_icmp .ne 7, 3) := by decide +kernel
theorem dX11_faults_11 : decode cX11_faults 11 = .ok (.iload_n 1, 1) := by decide +kernel
theorem dX11_faults_12 : decode cX11_faults 12 = .ok (.goto 7, 3) := by decide +kernel
theorem dX11_faults_15 : decode cX11_faults 15 = .ok (.aload_n 0, 1) := by decide +kernel
theorem dX11_faults_16 : decode cX11_faults 16 = .ok (.getfield 108, 3) := by decide +kernel
theorem dX11_faults_19 : decode cX11_faults 19 = .ok (.putfield 108, 3) := by decide +kernel
theorem dX11_faults_22 : decode cX11_faults 22 = .ok (.return_, 1) := by decide +kernel
theorem vc_X11_faults_0 {G : zG} {d : Nat} {Q : Option zV → zHp → Prop} (p1 : Int) (h : zHp) (hS : zSh h) (hd : 0 ≤ d)  
    (hv : (((gI h 343 16) ≠ (-1009) → (∀ h2 : zHp, h2 = sI h 343 16 (gI h 343 16) → Q none h2)) ∧ ((gI h 343 16) = (-1009) → (∀ h4 : zHp, h4 = sI h 343 16 p1 → Q none h4)))) : wpN G d M_X11_faults 0 [(0, vR 343), (1, vI p1)] [] h Q := by
  refine wq_aload_n 0 rfl rfl dX11_faults_0 ?_
  refine wq_aload_n 0 rfl rfl dX11_faults_1 ?_
  refine wq_getI fk_X11_108 tT_343 (fun _ _ _ => rfl) dX11_faults_2 ?_
  refine wq_sipush (z := -1009) (zlit rfl) rfl dX11_faults_5 ?_
  refine wq_icmp_ne 15 rfl dX11_faults_8 (fun c1 => ?_) (fun c1 => ?_)
  · refine wq_aload_n 0 rfl rfl dX11_faults_15 ?_
    refine wq_getI fk_X11_108 tT_343 (fun _ _ _ => rfl) dX11_faults_16 ?_
    refine wq_putI fk_X11_108 tT_343 rfl rfl dX11_faults_19 ?_
    refine wq_toph (fun h2 e3 => ?_)
    have sh2 : zSh h2 := zSh_of e3 hS
    exact wp_vret rfl dX11_faults_22 ((hv.1 c1) h2 e3)
  · refine wq_iload_n 1 rfl rfl dX11_faults_11 ?_
    refine wq_goto 19 rfl dX11_faults_12 ?_
    refine wq_putI fk_X11_108 tT_343 rfl rfl dX11_faults_19 ?_
    refine wq_toph (fun h4 e5 => ?_)
    have sh4 : zSh h4 := zSh_of e5 hS
    exact wp_vret rfl dX11_faults_22 ((hv.2 c1) h4 e5)
theorem dX11_takes_0 : decode cX11_takes 0 = .ok (.aload_n 0, 1) := by decide +kernel
theorem dX11_takes_1 : decode cX11_takes 1 = .ok (.getfield 108, 3) := by decide +kernel
theorem dX11_takes_4 : decode cX11_takes 4 = .ok (.sipush (-1009), 3) := by decide +kernel
theorem dX11_takes_7 : decode cX11_takes 7 = .ok (.if_icmp .ne 15, 3) := by decide +kernel
theorem dX11_takes_10 : decode cX11_takes 10 = .ok (.aload_n 0, 1) := by decide +kernel
theorem dX11_takes_11 : decode cX11_takes 11 = .ok (.invokevirtual 104, 3) := by decide +kernel
theorem dX11_takes_14 : decode cX11_takes 14 = .ok (.iload_n 1, 1) := by decide +kernel
theorem dX11_takes_15 : decode cX11_takes 15 = .ok (.if_icmp .ne 7, 3) := by decide +kernel
theorem dX11_takes_18 : decode cX11_takes 18 = .ok (.iconst 1, 1) := by decide +kernel
theorem dX11_takes_19 : decode cX11_takes 19 = .ok (.goto 4, 3) := by decide +kernel
theorem dX11_takes_22 : decode cX11_takes 22 = .ok (.iconst 0, 1) := by decide +kernel
theorem dX11_takes_23 : decode cX11_takes 23 = .ok (.istore_n 2, 1) := by decide +kernel
theorem dX11_takes_24 : decode cX11_takes 24 = .ok (.iload_n 2, 1) := by decide +kernel
theorem dX11_takes_25 : decode cX11_takes 25 = .ok (.ifCond .eq 17, 3) := by decide +kernel
theorem dX11_takes_28 : decode cX11_takes 28 = .ok (.aload_n 0, 1) := by decide +kernel
theorem dX11_takes_29 : decode cX11_takes 29 = .ok (.dup, 1) := by decide +kernel
theorem dX11_takes_30 : decode cX11_takes 30 = .ok (.getfield 101, 3) := by decide +kernel
theorem dX11_takes_33 : decode cX11_takes 33 = .ok (.iconst 1, 1) := by decide +kernel
theorem dX11_takes_34 : decode cX11_takes 34 = .ok (.iadd, 1) := by decide +kernel
theorem dX11_takes_35 : decode cX11_takes 35 = .ok (.putfield 101, 3) := by decide +kernel
theorem dX11_takes_38 : decode cX11_takes 38 = .ok (.aload_n 0, 1) := by decide +kernel
theorem dX11_takes_39 : decode cX11_takes 39 = .ok (.invokevirtual 111, 3) := by decide +kernel
theorem dX11_takes_42 : decode cX11_takes 42 = .ok (.iload_n 2, 1) := by decide +kernel
theorem dX11_takes_43 : decode cX11_takes 43 = .ok (.ireturn, 1) := by decide +kernel
theorem vc_X11_takes_0 {G : zG} {d : Nat} {Q : Option zV → zHp → Prop} (p1 : Int) (h : zHp) (hS : zSh h) (hd : 2 ≤ d)  
    (hv : (((gI h 343 16) ≠ (-1009) → Q (some (vI 0)) h) ∧ ((gI h 343 16) = (-1009) → (wpN G (d - 1) M_X11_next 0 (zar 0 [vR 343]) [] h (qI (fun z3 h4 => zSh h4 ∧ ((z3 ≠ p1 → Q (some (vI 0)) h4) ∧ (z3 = p1 → ((-2147483648 ≤ (gI h4 343 15) + 1 ∧ (gI h4 343 15) + 1 ≤ 2147483647) ∧ (∀ h10 : zHp, h10 = sI h4 343 15 ((gI h4 343 15) + 1) → (wpN G (d - 1) M_X11_blanks 0 (zar 0 [vR 343]) [] h10 (qV (fun h13 => zSh h13 ∧ Q (some (vI 1)) h13))))))))))))) : wpN G d M_X11_takes 0 [(0, vR 343), (1, vI p1)] [] h Q := by
  refine wq_aload_n 0 rfl rfl dX11_takes_0 ?_
  refine wq_getI fk_X11_108 tT_343 (fun _ _ _ => rfl) dX11_takes_1 ?_
  refine wq_sipush (z := -1009) (zlit rfl) rfl dX11_takes_4 ?_
  refine wq_icmp_ne 22 rfl dX11_takes_7 (fun c1 => ?_) (fun c1 => ?_)
  · refine wq_iconst (z := 0) (zlit rfl) dX11_takes_22 ?_
    refine wq_istore_n (ls' := [(0, vR 343), (1, vI p1), (2, vI 0)]) rfl (by decide) rfl dX11_takes_23 ?_
    refine wq_iload_n 2 rfl rfl dX11_takes_24 ?_
    refine wq_if_eq 42 rfl dX11_takes_25 (fun _ => ?_) (fun c2 => absurd c2 (by decide))
    refine wq_iload_n 2 rfl rfl dX11_takes_42 ?_
    exact wp_zret (Or.inl rfl) rfl dX11_takes_43 (hv.1 c1)
  · refine wq_aload_n 0 rfl rfl dX11_takes_10 ?_
    refine wN_V (As := []) vm_X11_next lk_X11_104 tT_343 rfl rfl (Nat.le_of_ble_eq_true rfl) (Nat.le_of_ble_eq_true rfl) (d' := d - 1) (by omega) dX11_takes_11 (hv.2 c1) (fun v9 h4 q5 => ?_)
    obtain ⟨z3, rfl, hS6, q5⟩ := q5
    refine wq_st (st' := [vI z3]) rfl ?_
    refine wq_iload_n 1 rfl rfl dX11_takes_14 ?_
    refine wq_icmp_ne 22 rfl dX11_takes_15 (fun c7 => ?_) (fun c7 => ?_)
    · refine wq_iconst (z := 0) (zlit rfl) dX11_takes_22 ?_
      refine wq_istore_n (ls' := [(0, vR 343), (1, vI p1), (2, vI 0)]) rfl (by decide) rfl dX11_takes_23 ?_
      refine wq_iload_n 2 rfl rfl dX11_takes_24 ?_
      refine wq_if_eq 42 rfl dX11_takes_25 (fun _ => ?_) (fun c8 => absurd c8 (by decide))
      refine wq_iload_n 2 rfl rfl dX11_takes_42 ?_
      exact wp_zret (Or.inl rfl) rfl dX11_takes_43 (q5.1 c7)
    · refine wq_iconst (z := 1) (zlit rfl) dX11_takes_18 ?_
      refine wq_goto 23 rfl dX11_takes_19 ?_
      refine wq_istore_n (ls' := [(0, vR 343), (1, vI p1), (2, vI 1)]) rfl (by decide) rfl dX11_takes_23 ?_
      refine wq_iload_n 2 rfl rfl dX11_takes_24 ?_
      refine wq_if_eq 42 rfl dX11_takes_25 (fun c9 => absurd c9 (by decide)) (fun _ => ?_)
      refine wq_aload_n 0 rfl rfl dX11_takes_28 ?_
      refine wq_dup rfl dX11_takes_29 ?_
      refine wq_getI fk_X11_101 tT_343 (fun _ _ _ => rfl) dX11_takes_30 ?_
      refine wq_iconst (z := 1) (zlit rfl) dX11_takes_33 ?_
      refine wq_iadd (q5.2 c7).1 dX11_takes_34 ?_
      refine wq_putI fk_X11_101 tT_343 rfl rfl dX11_takes_35 ?_
      refine wq_toph (fun h10 e11 => ?_)
      have sh10 : zSh h10 := zSh_of e11 hS6
      refine wq_aload_n 0 rfl rfl dX11_takes_38 ?_
      refine wN_V (As := []) vm_X11_blanks lk_X11_111 tT_343 rfl rfl (Nat.le_of_ble_eq_true rfl) (Nat.le_of_ble_eq_true rfl) (d' := d - 1) (by omega) dX11_takes_39 ((q5.2 c7).2 h10 e11) (fun v9 h13 q14 => ?_)
      obtain ⟨rfl, hS15, q14⟩ := q14
      refine wq_st (st' := []) rfl ?_
      refine wq_iload_n 2 rfl rfl dX11_takes_42 ?_
      exact wp_zret (Or.inr rfl) rfl dX11_takes_43 q14
theorem dX11_expects_0 : decode cX11_expects 0 = .ok (.aload_n 0, 1) := by decide +kernel
theorem dX11_expects_1 : decode cX11_expects 1 = .ok (.iload_n 1, 1) := by decide +kernel
theorem dX11_expects_2 : decode cX11_expects 2 = .ok (.invokevirtual 114, 3) := by decide +kernel
theorem dX11_expects_5 : decode cX11_expects 5 = .ok (.ifCond .ne 11, 3) := by decide +kernel
theorem dX11_expects_8 : decode cX11_expects 8 = .ok (.aload_n 0, 1) := by decide +kernel
theorem dX11_expects_9 : decode cX11_expects 9 = .ok (.aload_n 0, 1) := by decide +kernel
theorem dX11_expects_10 : decode cX11_expects 10 = .ok (.getfield 101, 3) := by decide +kernel
theorem dX11_expects_13 : decode cX11_expects 13 = .ok (.invokevirtual 118, 3) := by decide +kernel
theorem dX11_expects_16 : decode cX11_expects 16 = .ok (.return_, 1) := by decide +kernel
theorem vc_X11_expects_0 {G : zG} {d : Nat} {Q : Option zV → zHp → Prop} (p1 : Int) (h : zHp) (hS : zSh h) (hd : 3 ≤ d)  
    (hv : (wpN G (d - 1) M_X11_takes 0 (zar 0 [vR 343, vI p1]) [] h (qI (fun z1 h2 => zSh h2 ∧ ((z1 ≠ 0 → Q none h2) ∧ (z1 = 0 → (wpN G (d - 1) M_X11_faults 0 (zar 0 [vR 343, vI (gI h2 343 15)]) [] h2 (qV (fun h7 => zSh h7 ∧ Q none h7))))))))) : wpN G d M_X11_expects 0 [(0, vR 343), (1, vI p1)] [] h Q := by
  refine wq_aload_n 0 rfl rfl dX11_expects_0 ?_
  refine wq_iload_n 1 rfl rfl dX11_expects_1 ?_
  refine wN_V (As := [vI p1]) vm_X11_takes lk_X11_114 tT_343 rfl rfl (Nat.le_of_ble_eq_true rfl) (Nat.le_of_ble_eq_true rfl) (d' := d - 1) (by omega) dX11_expects_2 hv (fun v9 h2 q3 => ?_)
  obtain ⟨z1, rfl, hS4, q3⟩ := q3
  refine wq_st (st' := [vI z1]) rfl ?_
  refine wq_if_ne 16 rfl dX11_expects_5 (fun c5 => ?_) (fun c5 => ?_)
  · exact wp_vret rfl dX11_expects_16 (q3.1 c5)
  · refine wq_aload_n 0 rfl rfl dX11_expects_8 ?_
    refine wq_aload_n 0 rfl rfl dX11_expects_9 ?_
    refine wq_getI fk_X11_101 tT_343 (fun _ _ _ => rfl) dX11_expects_10 ?_
    refine wN_V (As := [vI (gI h2 343 15)]) vm_X11_faults lk_X11_118 tT_343 rfl rfl (Nat.le_of_ble_eq_true rfl) (Nat.le_of_ble_eq_true rfl) (d' := d - 1) (by omega) dX11_expects_13 (q3.2 c5) (fun v9 h7 q8 => ?_)
    obtain ⟨rfl, hS9, q8⟩ := q8
    refine wq_st (st' := []) rfl ?_
    exact wp_vret rfl dX11_expects_16 q8
theorem dX11_number_0 : decode cX11_number 0 = .ok (.aload_n 0, 1) := by decide +kernel
theorem dX11_number_1 : decode cX11_number 1 = .ok (.aload_n 0, 1) := by decide +kernel
theorem dX11_number_2 : decode cX11_number 2 = .ok (.getfield 101, 3) := by decide +kernel
theorem dX11_number_5 : decode cX11_number 5 = .ok (.putfield 122, 3) := by decide +kernel
theorem dX11_number_8 : decode cX11_number 8 = .ok (.iconst 0, 1) := by decide +kernel
theorem dX11_number_9 : decode cX11_number 9 = .ok (.istore_n 1, 1) := by decide +kernel
theorem dX11_number_10 : decode cX11_number 10 = .ok (.aload_n 0, 1) := by decide +kernel
theorem dX11_number_11 : decode cX11_number 11 = .ok (.getfield 108, 3) := by decide +kernel
theorem dX11_number_14 : decode cX11_number 14 = .ok (.sipush (-1009), 3) := by decide +kernel
theorem dX11_number_17 : decode cX11_number 17 = .ok (.if_icmp .ne 59, 3) := by decide +kernel
theorem dX11_number_20 : decode cX11_number 20 = .ok (.aload_n 0, 1) := by decide +kernel
theorem dX11_number_21 : decode cX11_number 21 = .ok (.invokevirtual 104, 3) := by decide +kernel
theorem dX11_number_24 : decode cX11_number 24 = .ok (.i2l, 1) := by decide +kernel
theorem dX11_number_25 : decode cX11_number 25 = .ok (.ldc2_w 125, 3) := by decide +kernel
theorem dX11_number_28 : decode cX11_number 28 = .ok (.ldc2_w 127, 3) := by decide +kernel
theorem dX11_number_31 : decode cX11_number 31 = .ok (.invokestatic 91, 3) := by decide +kernel
theorem dX11_number_34 : decode cX11_number 34 = .ok (.ifCond .eq 42, 3) := by decide +kernel
theorem dX11_number_37 : decode cX11_number 37 = .ok (.aload_n 0, 1) := by decide +kernel
theorem dX11_number_38 : decode cX11_number 38 = .ok (.getfield 101, 3) := by decide +kernel
theorem dX11_number_41 : decode cX11_number 41 = .ok (.aload_n 0, 1) := by decide +kernel
theorem dX11_number_42 : decode cX11_number 42 = .ok (.getfield 122, 3) := by decide +kernel
theorem dX11_number_45 : decode cX11_number 45 = .ok (.iconst 3, 1) := by decide +kernel
theorem dX11_number_46 : decode cX11_number 46 = .ok (.iadd, 1) := by decide +kernel
theorem dX11_number_47 : decode cX11_number 47 = .ok (.if_icmp .ge 29, 3) := by decide +kernel
theorem dX11_number_50 : decode cX11_number 50 = .ok (.bipush 10, 2) := by decide +kernel
theorem dX11_number_52 : decode cX11_number 52 = .ok (.iload_n 1, 1) := by decide +kernel
theorem dX11_number_53 : decode cX11_number 53 = .ok (.imul, 1) := by decide +kernel
theorem dX11_number_54 : decode cX11_number 54 = .ok (.aload_n 0, 1) := by decide +kernel
theorem dX11_number_55 : decode cX11_number 55 = .ok (.invokevirtual 104, 3) := by decide +kernel
theorem dX11_number_58 : decode cX11_number 58 = .ok (.iadd, 1) := by decide +kernel
theorem dX11_number_59 : decode cX11_number 59 = .ok (.bipush 48, 2) := by decide +kernel
theorem dX11_number_61 : decode cX11_number 61 = .ok (.isub, 1) := by decide +kernel
theorem dX11_number_62 : decode cX11_number 62 = .ok (.istore_n 1, 1) := by decide +kernel
theorem dX11_number_63 : decode cX11_number 63 = .ok (.aload_n 0, 1) := by decide +kernel
theorem dX11_number_64 : decode cX11_number 64 = .ok (.dup, 1) := by decide +kernel
theorem dX11_number_65 : decode cX11_number 65 = .ok (.getfield 101, 3) := by decide +kernel
theorem dX11_number_68 : decode cX11_number 68 = .ok (.iconst 1, 1) := by decide +kernel
theorem dX11_number_69 : decode cX11_number 69 = .ok (.iadd, 1) := by decide +kernel
theorem dX11_number_70 : decode cX11_number 70 = .ok (.putfield 101, 3) := by decide +kernel
theorem dX11_number_73 : decode cX11_number 73 = .ok (.goto (-63), 3) := by decide +kernel
theorem dX11_number_76 : decode cX11_number 76 = .ok (.aload_n 0, 1) := by decide +kernel
theorem dX11_number_77 : decode cX11_number 77 = .ok (.getfield 101, 3) := by decide +kernel
theorem dX11_number_80 : decode cX11_number 80 = .ok (.aload_n 0, 1) := by decide +kernel
theorem dX11_number_81 : decode cX11_number 81 = .ok (.getfield 122, 3) := by decide +kernel
theorem dX11_number_84 : decode cX11_number 84 = .ok (.if_icmp .ne 11, 3) := by decide +kernel
theorem dX11_number_87 : decode cX11_number 87 = .ok (.aload_n 0, 1) := by decide +kernel
theorem dX11_number_88 : decode cX11_number 88 = .ok (.aload_n 0, 1) := by decide +kernel
theorem dX11_number_89 : decode cX11_number 89 = .ok (.getfield 101, 3) := by decide +kernel
theorem dX11_number_92 : decode cX11_number 92 = .ok (.invokevirtual 118, 3) := by decide +kernel
theorem dX11_number_95 : decode cX11_number 95 = .ok (.aload_n 0, 1) := by decide +kernel
theorem dX11_number_96 : decode cX11_number 96 = .ok (.invokevirtual 129, 3) := by decide +kernel
theorem dX11_number_99 : decode cX11_number 99 = .ok (.iload_n 1, 1) := by decide +kernel
theorem dX11_number_100 : decode cX11_number 100 = .ok (.ireturn, 1) := by decide +kernel
theorem vc_X11_number_0 {G : zG} {d : Nat} {Q : Option zV → zHp → Prop}  (h : zHp) (hS : zSh h) (hd : 3 ≤ d) (I_10 : Int → zHp → Prop) (hI_10 : ∀ (y1 : Int) (h' : zHp), I_10 y1 h' → wpN G d M_X11_number 10 [(0, vR 343), (1, vI y1)] [] h' Q) 
    (hv : (∀ h1 : zHp, h1 = sI h 343 17 (gI h 343 15) → (zSh h1 → I_10 0 h1))) : wpN G d M_X11_number 0 [(0, vR 343)] [] h Q := by
  refine wq_aload_n 0 rfl rfl dX11_number_0 ?_
  refine wq_aload_n 0 rfl rfl dX11_number_1 ?_
  refine wq_getI fk_X11_101 tT_343 (fun _ _ _ => rfl) dX11_number_2 ?_
  refine wq_putI fk_X11_122 tT_343 rfl rfl dX11_number_5 ?_
  refine wq_toph (fun h1 e2 => ?_)
  have sh1 : zSh h1 := zSh_of e2 hS
  refine wq_iconst (z := 0) (zlit rfl) dX11_number_8 ?_
  refine wq_istore_n (ls' := [(0, vR 343), (1, vI 0)]) rfl (by decide) rfl dX11_number_9 ?_
  exact wq_pick [0, 1] rfl (hI_10 0 h1 ((hv h1 e2) sh1))
theorem vc_X11_number_10 {G : zG} {d : Nat} {Q : Option zV → zHp → Prop} (y1 : Int) (h : zHp) (hS : zSh h) (hd : 3 ≤ d) (I_10 : Int → zHp → Prop) (hI_10 : ∀ (y1 : Int) (h' : zHp), I_10 y1 h' → wpN G d M_X11_number 10 [(0, vR 343), (1, vI y1)] [] h' Q) 
    (hv : (((gI h 343 16) ≠ (-1009) → (((gI h 343 15) ≠ (gI h 343 17) → (wpN G (d - 1) M_X11_blanksBehindNumber 0 (zar 0 [vR 343]) [] h (qV (fun h4 => zSh h4 ∧ Q (some (vI y1)) h4)))) ∧ ((gI h 343 15) = (gI h 343 17) → (wpN G (d - 1) M_X11_faults 0 (zar 0 [vR 343, vI (gI h 343 15)]) [] h (qV (fun h8 => zSh h8 ∧ (wpN G (d - 1) M_X11_blanksBehindNumber 0 (zar 0 [vR 343]) [] h8 (qV (fun h12 => zSh h12 ∧ Q (some (vI y1)) h12))))))))) ∧ ((gI h 343 16) = (-1009) → (wpN G (d - 1) M_X11_next 0 (zar 0 [vR 343]) [] h (qI (fun z15 h16 => zSh h16 ∧ (wpN G (d - 1) M_X11_in 0 (zar 0 [vL z15, vL 48, vL 57]) [] h16 (qI (fun z19 h20 => zSh h20 ∧ ((z19 = 0 → (((gI h20 343 15) ≠ (gI h20 343 17) → (wpN G (d - 1) M_X11_blanksBehindNumber 0 (zar 0 [vR 343]) [] h20 (qV (fun h26 => zSh h26 ∧ Q (some (vI y1)) h26)))) ∧ ((gI h20 343 15) = (gI h20 343 17) → (wpN G (d - 1) M_X11_faults 0 (zar 0 [vR 343, vI (gI h20 343 15)]) [] h20 (qV (fun h30 => zSh h30 ∧ (wpN G (d - 1) M_X11_blanksBehindNumber 0 (zar 0 [vR 343]) [] h30 (qV (fun h34 => zSh h34 ∧ Q (some (vI y1)) h34))))))))) ∧ (z19 ≠ 0 → ((-2147483648 ≤ (gI h20 343 17) + 3 ∧ (gI h20 343 17) + 3 ≤ 2147483647) ∧ ((((gI h20 343 17) + 3) ≤ (gI h20 343 15) → (((gI h20 343 15) ≠ (gI h20 343 17) → (wpN G (d - 1) M_X11_blanksBehindNumber 0 (zar 0 [vR 343]) [] h20 (qV (fun h40 => zSh h40 ∧ Q (some (vI y1)) h40)))) ∧ ((gI h20 343 15) = (gI h20 343 17) → (wpN G (d - 1) M_X11_faults 0 (zar 0 [vR 343, vI (gI h20 343 15)]) [] h20 (qV (fun h44 => zSh h44 ∧ (wpN G (d - 1) M_X11_blanksBehindNumber 0 (zar 0 [vR 343]) [] h44 (qV (fun h48 => zSh h48 ∧ Q (some (vI y1)) h48))))))))) ∧ ((gI h20 343 15) < ((gI h20 343 17) + 3) → ((-2147483648 ≤ 10 * y1 ∧ 10 * y1 ≤ 2147483647) ∧ (wpN G (d - 1) M_X11_next 0 (zar 0 [vR 343]) [] h20 (qI (fun z51 h52 => zSh h52 ∧ ((-2147483648 ≤ (10 * y1) + z51 ∧ (10 * y1) + z51 ≤ 2147483647) ∧ ((-2147483648 ≤ ((10 * y1) + z51) - 48 ∧ ((10 * y1) + z51) - 48 ≤ 2147483647) ∧ (∀ x55 : Int, x55 = (((10 * y1) + z51) - 48) → ((-2147483648 ≤ (gI h52 343 15) + 1 ∧ (gI h52 343 15) + 1 ≤ 2147483647) ∧ (∀ h57 : zHp, h57 = sI h52 343 15 ((gI h52 343 15) + 1) → (zSh h57 → I_10 x55 h57)))))))))))))))))))))))) : wpN G d M_X11_number 10 [(0, vR 343), (1, vI y1)] [] h Q := by
  refine wq_aload_n 0 rfl rfl dX11_number_10 ?_
  refine wq_getI fk_X11_108 tT_343 (fun _ _ _ => rfl) dX11_number_11 ?_
  refine wq_sipush (z := -1009) (zlit rfl) rfl dX11_number_14 ?_
  refine wq_icmp_ne 76 rfl dX11_number_17 (fun c1 => ?_) (fun c1 => ?_)
  · refine wq_aload_n 0 rfl rfl dX11_number_76 ?_
    refine wq_getI fk_X11_101 tT_343 (fun _ _ _ => rfl) dX11_number_77 ?_
    refine wq_aload_n 0 rfl rfl dX11_number_80 ?_
    refine wq_getI fk_X11_122 tT_343 (fun _ _ _ => rfl) dX11_number_81 ?_
    refine wq_icmp_ne 95 rfl dX11_number_84 (fun c2 => ?_) (fun c2 => ?_)
    · refine wq_aload_n 0 rfl rfl dX11_number_95 ?_
      refine wN_V (As := []) vm_X11_blanksBehindNumber lk_X11_129 tT_343 rfl rfl (Nat.le_of_ble_eq_true rfl) (Nat.le_of_ble_eq_true rfl) (d' := d - 1) (by omega) dX11_number_96 ((hv.1 c1).1 c2) (fun v9 h4 q5 => ?_)
      obtain ⟨rfl, hS6, q5⟩ := q5
      refine wq_st (st' := []) rfl ?_
      refine wq_iload_n 1 rfl rfl dX11_number_99 ?_
      exact wp_iret rfl dX11_number_100 q5
    · refine wq_aload_n 0 rfl rfl dX11_number_87 ?_
      refine wq_aload_n 0 rfl rfl dX11_number_88 ?_
      refine wq_getI fk_X11_101 tT_343 (fun _ _ _ => rfl) dX11_number_89 ?_
      refine wN_V (As := [vI (gI h 343 15)]) vm_X11_faults lk_X11_118 tT_343 rfl rfl (Nat.le_of_ble_eq_true rfl) (Nat.le_of_ble_eq_true rfl) (d' := d - 1) (by omega) dX11_number_92 ((hv.1 c1).2 c2) (fun v9 h8 q9 => ?_)
      obtain ⟨rfl, hS10, q9⟩ := q9
      refine wq_st (st' := []) rfl ?_
      refine wq_aload_n 0 rfl rfl dX11_number_95 ?_
      refine wN_V (As := []) vm_X11_blanksBehindNumber lk_X11_129 tT_343 rfl rfl (Nat.le_of_ble_eq_true rfl) (Nat.le_of_ble_eq_true rfl) (d' := d - 1) (by omega) dX11_number_96 q9 (fun v9 h12 q13 => ?_)
      obtain ⟨rfl, hS14, q13⟩ := q13
      refine wq_st (st' := []) rfl ?_
      refine wq_iload_n 1 rfl rfl dX11_number_99 ?_
      exact wp_iret rfl dX11_number_100 q13
  · refine wq_aload_n 0 rfl rfl dX11_number_20 ?_
    refine wN_V (As := []) vm_X11_next lk_X11_104 tT_343 rfl rfl (Nat.le_of_ble_eq_true rfl) (Nat.le_of_ble_eq_true rfl) (d' := d - 1) (by omega) dX11_number_21 (hv.2 c1) (fun v9 h16 q17 => ?_)
    obtain ⟨z15, rfl, hS18, q17⟩ := q17
    refine wq_st (st' := [vI z15]) rfl ?_
    refine wq_i2l dX11_number_24 ?_
    refine wq_ldc2_w (z := 48) (zlitL rfl) kc_X11_125 dX11_number_25 ?_
    refine wq_ldc2_w (z := 57) (zlitL rfl) kc_X11_127 dX11_number_28 ?_
    refine wN_S (As := [vL z15, vL 48, vL 57]) md_X11_in ms_X11_in lk_X11_91 rfl rfl (Nat.le_of_ble_eq_true rfl) (Nat.le_of_ble_eq_true rfl) (d' := d - 1) (by omega) dX11_number_31 q17 (fun v9 h20 q21 => ?_)
    obtain ⟨z19, rfl, hS22, q21⟩ := q21
    refine wq_st (st' := [vI z19]) rfl ?_
    refine wq_if_eq 76 rfl dX11_number_34 (fun c23 => ?_) (fun c23 => ?_)
    · refine wq_aload_n 0 rfl rfl dX11_number_76 ?_
      refine wq_getI fk_X11_101 tT_343 (fun _ _ _ => rfl) dX11_number_77 ?_
      refine wq_aload_n 0 rfl rfl dX11_number_80 ?_
      refine wq_getI fk_X11_122 tT_343 (fun _ _ _ => rfl) dX11_number_81 ?_
      refine wq_icmp_ne 95 rfl dX11_number_84 (fun c24 => ?_) (fun c24 => ?_)
      · refine wq_aload_n 0 rfl rfl dX11_number_95 ?_
        refine wN_V (As := []) vm_X11_blanksBehindNumber lk_X11_129 tT_343 rfl rfl (Nat.le_of_ble_eq_true rfl) (Nat.le_of_ble_eq_true rfl) (d' := d - 1) (by omega) dX11_number_96 ((q21.1 c23).1 c24) (fun v9 h26 q27 => ?_)
        obtain ⟨rfl, hS28, q27⟩ := q27
        refine wq_st (st' := []) rfl ?_
        refine wq_iload_n 1 rfl rfl dX11_number_99 ?_
        exact wp_iret rfl dX11_number_100 q27
      · refine wq_aload_n 0 rfl rfl dX11_number_87 ?_
        refine wq_aload_n 0 rfl rfl dX11_number_88 ?_
        refine wq_getI fk_X11_101 tT_343 (fun _ _ _ => rfl) dX11_number_89 ?_
        refine wN_V (As := [vI (gI h20 343 15)]) vm_X11_faults lk_X11_118 tT_343 rfl rfl (Nat.le_of_ble_eq_true rfl) (Nat.le_of_ble_eq_true rfl) (d' := d - 1) (by omega) dX11_number_92 ((q21.1 c23).2 c24) (fun v9 h30 q31 => ?_)
        obtain ⟨rfl, hS32, q31⟩ := q31
        refine wq_st (st' := []) rfl ?_
        refine wq_aload_n 0 rfl rfl dX11_number_95 ?_
        refine wN_V (As := []) vm_X11_blanksBehindNumber lk_X11_129 tT_343 rfl rfl (Nat.le_of_ble_eq_true rfl) (Nat.le_of_ble_eq_true rfl) (d' := d - 1) (by omega) dX11_number_96 q31 (fun v9 h34 q35 => ?_)
        obtain ⟨rfl, hS36, q35⟩ := q35
        refine wq_st (st' := []) rfl ?_
        refine wq_iload_n 1 rfl rfl dX11_number_99 ?_
        exact wp_iret rfl dX11_number_100 q35
    · refine wq_aload_n 0 rfl rfl dX11_number_37 ?_
      refine wq_getI fk_X11_101 tT_343 (fun _ _ _ => rfl) dX11_number_38 ?_
      refine wq_aload_n 0 rfl rfl dX11_number_41 ?_
      refine wq_getI fk_X11_122 tT_343 (fun _ _ _ => rfl) dX11_number_42 ?_
      refine wq_iconst (z := 3) (zlit rfl) dX11_number_45 ?_
      refine wq_iadd (q21.2 c23).1 dX11_number_46 ?_
      refine wq_icmp_ge 76 rfl dX11_number_47 (fun c37 => ?_) (fun c37 => ?_)
      · refine wq_aload_n 0 rfl rfl dX11_number_76 ?_
        refine wq_getI fk_X11_101 tT_343 (fun _ _ _ => rfl) dX11_number_77 ?_
        refine wq_aload_n 0 rfl rfl dX11_number_80 ?_
        refine wq_getI fk_X11_122 tT_343 (fun _ _ _ => rfl) dX11_number_81 ?_
        refine wq_icmp_ne 95 rfl dX11_number_84 (fun c38 => ?_) (fun c38 => ?_)
        · refine wq_aload_n 0 rfl rfl dX11_number_95 ?_
          refine wN_V (As := []) vm_X11_blanksBehindNumber lk_X11_129 tT_343 rfl rfl (Nat.le_of_ble_eq_true rfl) (Nat.le_of_ble_eq_true rfl) (d' := d - 1) (by omega) dX11_number_96 (((q21.2 c23).2.1 c37).1 c38) (fun v9 h40 q41 => ?_)
          obtain ⟨rfl, hS42, q41⟩ := q41
          refine wq_st (st' := []) rfl ?_
          refine wq_iload_n 1 rfl rfl dX11_number_99 ?_
          exact wp_iret rfl dX11_number_100 q41
        · refine wq_aload_n 0 rfl rfl dX11_number_87 ?_
          refine wq_aload_n 0 rfl rfl dX11_number_88 ?_
          refine wq_getI fk_X11_101 tT_343 (fun _ _ _ => rfl) dX11_number_89 ?_
          refine wN_V (As := [vI (gI h20 343 15)]) vm_X11_faults lk_X11_118 tT_343 rfl rfl (Nat.le_of_ble_eq_true rfl) (Nat.le_of_ble_eq_true rfl) (d' := d - 1) (by omega) dX11_number_92 (((q21.2 c23).2.1 c37).2 c38) (fun v9 h44 q45 => ?_)
          obtain ⟨rfl, hS46, q45⟩ := q45
          refine wq_st (st' := []) rfl ?_
          refine wq_aload_n 0 rfl rfl dX11_number_95 ?_
          refine wN_V (As := []) vm_X11_blanksBehindNumber lk_X11_129 tT_343 rfl rfl (Nat.le_of_ble_eq_true rfl) (Nat.le_of_ble_eq_true rfl) (d' := d - 1) (by omega) dX11_number_96 q45 (fun v9 h48 q49 => ?_)
          obtain ⟨rfl, hS50, q49⟩ := q49
          refine wq_st (st' := []) rfl ?_
          refine wq_iload_n 1 rfl rfl dX11_number_99 ?_
          exact wp_iret rfl dX11_number_100 q49
      · refine wq_bipush (z := 10) (zlit rfl) rfl dX11_number_50 ?_
        refine wq_iload_n 1 rfl rfl dX11_number_52 ?_
        refine wq_imul ((q21.2 c23).2.2 c37).1 dX11_number_53 ?_
        refine wq_aload_n 0 rfl rfl dX11_number_54 ?_
        refine wN_V (As := []) vm_X11_next lk_X11_104 tT_343 rfl rfl (Nat.le_of_ble_eq_true rfl) (Nat.le_of_ble_eq_true rfl) (d' := d - 1) (by omega) dX11_number_55 ((q21.2 c23).2.2 c37).2 (fun v9 h52 q53 => ?_)
        obtain ⟨z51, rfl, hS54, q53⟩ := q53
        refine wq_st (st' := [vI z51, vI (10 * y1)]) rfl ?_
        refine wq_iadd q53.1 dX11_number_58 ?_
        refine wq_bipush (z := 48) (zlit rfl) rfl dX11_number_59 ?_
        refine wq_isub q53.2.1 dX11_number_61 ?_
        refine wq_topI (fun x55 e56 => ?_)
        refine wq_istore_n (ls' := [(0, vR 343), (1, vI x55)]) rfl (by decide) rfl dX11_number_62 ?_
        refine wq_aload_n 0 rfl rfl dX11_number_63 ?_
        refine wq_dup rfl dX11_number_64 ?_
        refine wq_getI fk_X11_101 tT_343 (fun _ _ _ => rfl) dX11_number_65 ?_
        refine wq_iconst (z := 1) (zlit rfl) dX11_number_68 ?_
        refine wq_iadd (q53.2.2 x55 e56).1 dX11_number_69 ?_
        refine wq_putI fk_X11_101 tT_343 rfl rfl dX11_number_70 ?_
        refine wq_toph (fun h57 e58 => ?_)
        have sh57 : zSh h57 := zSh_of e58 hS54
        refine wq_goto 10 rfl dX11_number_73 ?_
        exact wq_pick [0, 1] rfl (hI_10 x55 h57 (((q53.2.2 x55 e56).2 h57 e58) sh57))
theorem dX11_blanksBehindNumber_0 : decode cX11_blanksBehindNumber 0 = .ok (.aload_n 0, 1) := by decide +kernel
theorem dX11_blanksBehindNumber_1 : decode cX11_blanksBehindNumber 1 = .ok (.invokevirtual 104, 3) := by decide +kernel
theorem dX11_blanksBehindNumber_4 : decode cX11_blanksBehindNumber 4 = .ok (.i2l, 1) := by decide +kernel
theorem dX11_blanksBehindNumber_5 : decode cX11_blanksBehindNumber 5 = .ok (.ldc2_w 125, 3) := by decide +kernel
theorem dX11_blanksBehindNumber_8 : decode cX11_blanksBehindNumber 8 = .ok (.ldc2_w 127, 3) := by decide +kernel
theorem dX11_blanksBehindNumber_11 : decode cX11_blanksBehindNumber 11 = .ok (.invokestatic 91, 3) := by decide +kernel
theorem dX11_blanksBehindNumber_14 : decode cX11_blanksBehindNumber 14 = .ok (.ifCond .ne 7, 3) := by decide +kernel
theorem dX11_blanksBehindNumber_17 : decode cX11_blanksBehindNumber 17 = .ok (.aload_n 0, 1) := by decide +kernel
theorem dX11_blanksBehindNumber_18 : decode cX11_blanksBehindNumber 18 = .ok (.invokevirtual 111, 3) := by decide +kernel
theorem dX11_blanksBehindNumber_21 : decode cX11_blanksBehindNumber 21 = .ok (.return_, 1) := by decide +kernel
theorem vc_X11_blanksBehindNumber_0 {G : zG} {d : Nat} {Q : Option zV → zHp → Prop}  (h : zHp) (hS : zSh h) (hd : 2 ≤ d)  
    (hv : (wpN G (d - 1) M_X11_next 0 (zar 0 [vR 343]) [] h (qI (fun z1 h2 => zSh h2 ∧ (wpN G (d - 1) M_X11_in 0 (zar 0 [vL z1, vL 48, vL 57]) [] h2 (qI (fun z5 h6 => zSh h6 ∧ ((z5 ≠ 0 → Q none h6) ∧ (z5 = 0 → (wpN G (d - 1) M_X11_blanks 0 (zar 0 [vR 343]) [] h6 (qV (fun h11 => zSh h11 ∧ Q none h11)))))))))))) : wpN G d M_X11_blanksBehindNumber 0 [(0, vR 343)] [] h Q := by
  refine wq_aload_n 0 rfl rfl dX11_blanksBehindNumber_0 ?_
  refine wN_V (As := []) vm_X11_next lk_X11_104 tT_343 rfl rfl (Nat.le_of_ble_eq_true rfl) (Nat.le_of_ble_eq_true rfl) (d' := d - 1) (by omega) dX11_blanksBehindNumber_1 hv (fun v9 h2 q3 => ?_)
  obtain ⟨z1, rfl, hS4, q3⟩ := q3
  refine wq_st (st' := [vI z1]) rfl ?_
  refine wq_i2l dX11_blanksBehindNumber_4 ?_
  refine wq_ldc2_w (z := 48) (zlitL rfl) kc_X11_125 dX11_blanksBehindNumber_5 ?_
  refine wq_ldc2_w (z := 57) (zlitL rfl) kc_X11_127 dX11_blanksBehindNumber_8 ?_
  refine wN_S (As := [vL z1, vL 48, vL 57]) md_X11_in ms_X11_in lk_X11_91 rfl rfl (Nat.le_of_ble_eq_true rfl) (Nat.le_of_ble_eq_true rfl) (d' := d - 1) (by omega) dX11_blanksBehindNumber_11 q3 (fun v9 h6 q7 => ?_)
  obtain ⟨z5, rfl, hS8, q7⟩ := q7
  refine wq_st (st' := [vI z5]) rfl ?_
  refine wq_if_ne 21 rfl dX11_blanksBehindNumber_14 (fun c9 => ?_) (fun c9 => ?_)
  · exact wp_vret rfl dX11_blanksBehindNumber_21 (q7.1 c9)
  · refine wq_aload_n 0 rfl rfl dX11_blanksBehindNumber_17 ?_
    refine wN_V (As := []) vm_X11_blanks lk_X11_111 tT_343 rfl rfl (Nat.le_of_ble_eq_true rfl) (Nat.le_of_ble_eq_true rfl) (d' := d - 1) (by omega) dX11_blanksBehindNumber_18 (q7.2 c9) (fun v9 h11 q12 => ?_)
    obtain ⟨rfl, hS13, q12⟩ := q12
    refine wq_st (st' := []) rfl ?_
    exact wp_vret rfl dX11_blanksBehindNumber_21 q12
theorem dX11_name_0 : decode cX11_name 0 = .ok (.aload_n 0, 1) := by decide +kernel
theorem dX11_name_1 : decode cX11_name 1 = .ok (.aload_n 0, 1) := by decide +kernel
theorem dX11_name_2 : decode cX11_name 2 = .ok (.getfield 101, 3) := by decide +kernel
theorem dX11_name_5 : decode cX11_name 5 = .ok (.putfield 132, 3) := by decide +kernel
theorem dX11_name_8 : decode cX11_name 8 = .ok (.aload_n 0, 1) := by decide +kernel
theorem dX11_name_9 : decode cX11_name 9 = .ok (.invokevirtual 104, 3) := by decide +kernel
theorem dX11_name_12 : decode cX11_name 12 = .ok (.istore_n 1, 1) := by decide +kernel
theorem dX11_name_13 : decode cX11_name 13 = .ok (.iload_n 1, 1) := by decide +kernel
theorem dX11_name_14 : decode cX11_name 14 = .ok (.i2l, 1) := by decide +kernel
theorem dX11_name_15 : decode cX11_name 15 = .ok (.ldc2_w 135, 3) := by decide +kernel
theorem dX11_name_18 : decode cX11_name 18 = .ok (.ldc2_w 137, 3) := by decide +kernel
theorem dX11_name_21 : decode cX11_name 21 = .ok (.invokestatic 91, 3) := by decide +kernel
theorem dX11_name_24 : decode cX11_name 24 = .ok (.ifCond .ne 13, 3) := by decide +kernel
theorem dX11_name_27 : decode cX11_name 27 = .ok (.aload_n 0, 1) := by decide +kernel
theorem dX11_name_28 : decode cX11_name 28 = .ok (.aload_n 0, 1) := by decide +kernel
theorem dX11_name_29 : decode cX11_name 29 = .ok (.getfield 101, 3) := by decide +kernel
theorem dX11_name_32 : decode cX11_name 32 = .ok (.invokevirtual 118, 3) := by decide +kernel
theorem dX11_name_35 : decode cX11_name 35 = .ok (.iconst 0, 1) := by decide +kernel
theorem dX11_name_36 : decode cX11_name 36 = .ok (.ireturn, 1) := by decide +kernel
theorem dX11_name_37 : decode cX11_name 37 = .ok (.aload_n 0, 1) := by decide +kernel
theorem dX11_name_38 : decode cX11_name 38 = .ok (.dup, 1) := by decide +kernel
theorem dX11_name_39 : decode cX11_name 39 = .ok (.getfield 101, 3) := by decide +kernel
theorem dX11_name_42 : decode cX11_name 42 = .ok (.iconst 1, 1) := by decide +kernel
theorem dX11_name_43 : decode cX11_name 43 = .ok (.iadd, 1) := by decide +kernel
theorem dX11_name_44 : decode cX11_name 44 = .ok (.putfield 101, 3) := by decide +kernel
theorem dX11_name_47 : decode cX11_name 47 = .ok (.aload_n 0, 1) := by decide +kernel
theorem dX11_name_48 : decode cX11_name 48 = .ok (.invokevirtual 111, 3) := by decide +kernel
theorem dX11_name_51 : decode cX11_name 51 = .ok (.iload_n 1, 1) := by decide +kernel
theorem dX11_name_52 : decode cX11_name 52 = .ok (.ireturn, 1) := by decide +kernel
theorem vc_X11_name_0 {G : zG} {d : Nat} {Q : Option zV → zHp → Prop}  (h : zHp) (hS : zSh h) (hd : 2 ≤ d)  
    (hv : (∀ h1 : zHp, h1 = sI h 343 18 (gI h 343 15) → (wpN G (d - 1) M_X11_next 0 (zar 0 [vR 343]) [] h1 (qI (fun z3 h4 => zSh h4 ∧ (wpN G (d - 1) M_X11_in 0 (zar 0 [vL z3, vL 97, vL 122]) [] h4 (qI (fun z7 h8 => zSh h8 ∧ ((z7 ≠ 0 → ((-2147483648 ≤ (gI h8 343 15) + 1 ∧ (gI h8 343 15) + 1 ≤ 2147483647) ∧ (∀ h12 : zHp, h12 = sI h8 343 15 ((gI h8 343 15) + 1) → (wpN G (d - 1) M_X11_blanks 0 (zar 0 [vR 343]) [] h12 (qV (fun h15 => zSh h15 ∧ Q (some (vI z3)) h15)))))) ∧ (z7 = 0 → (wpN G (d - 1) M_X11_faults 0 (zar 0 [vR 343, vI (gI h8 343 15)]) [] h8 (qV (fun h19 => zSh h19 ∧ Q (some (vI 0)) h19))))))))))))) : wpN G d M_X11_name 0 [(0, vR 343)] [] h Q := by
  refine wq_aload_n 0 rfl rfl dX11_name_0 ?_
  refine wq_aload_n 0 rfl rfl dX11_name_1 ?_
  refine wq_getI fk_X11_101 tT_343 (fun _ _ _ => rfl) dX11_name_2 ?_
  refine wq_putI fk_X11_132 tT_343 rfl rfl dX11_name_5 ?_
  refine wq_toph (fun h1 e2 => ?_)
  have sh1 : zSh h1 := zSh_of e2 hS
  refine wq_aload_n 0 rfl rfl dX11_name_8 ?_
  refine wN_V (As := []) vm_X11_next lk_X11_104 tT_343 rfl rfl (Nat.le_of_ble_eq_true rfl) (Nat.le_of_ble_eq_true rfl) (d' := d - 1) (by omega) dX11_name_9 (hv h1 e2) (fun v9 h4 q5 => ?_)
  obtain ⟨z3, rfl, hS6, q5⟩ := q5
  refine wq_st (st' := [vI z3]) rfl ?_
  refine wq_istore_n (ls' := [(0, vR 343), (1, vI z3)]) rfl (by decide) rfl dX11_name_12 ?_
  refine wq_iload_n 1 rfl rfl dX11_name_13 ?_
  refine wq_i2l dX11_name_14 ?_
  refine wq_ldc2_w (z := 97) (zlitL rfl) kc_X11_135 dX11_name_15 ?_
  refine wq_ldc2_w (z := 122) (zlitL rfl) kc_X11_137 dX11_name_18 ?_
  refine wN_S (As := [vL z3, vL 97, vL 122]) md_X11_in ms_X11_in lk_X11_91 rfl rfl (Nat.le_of_ble_eq_true rfl) (Nat.le_of_ble_eq_true rfl) (d' := d - 1) (by omega) dX11_name_21 q5 (fun v9 h8 q9 => ?_)
  obtain ⟨z7, rfl, hS10, q9⟩ := q9
  refine wq_st (st' := [vI z7]) rfl ?_
  refine wq_if_ne 37 rfl dX11_name_24 (fun c11 => ?_) (fun c11 => ?_)
  · refine wq_aload_n 0 rfl rfl dX11_name_37 ?_
    refine wq_dup rfl dX11_name_38 ?_
    refine wq_getI fk_X11_101 tT_343 (fun _ _ _ => rfl) dX11_name_39 ?_
    refine wq_iconst (z := 1) (zlit rfl) dX11_name_42 ?_
    refine wq_iadd (q9.1 c11).1 dX11_name_43 ?_
    refine wq_putI fk_X11_101 tT_343 rfl rfl dX11_name_44 ?_
    refine wq_toph (fun h12 e13 => ?_)
    have sh12 : zSh h12 := zSh_of e13 hS10
    refine wq_aload_n 0 rfl rfl dX11_name_47 ?_
    refine wN_V (As := []) vm_X11_blanks lk_X11_111 tT_343 rfl rfl (Nat.le_of_ble_eq_true rfl) (Nat.le_of_ble_eq_true rfl) (d' := d - 1) (by omega) dX11_name_48 ((q9.1 c11).2 h12 e13) (fun v9 h15 q16 => ?_)
    obtain ⟨rfl, hS17, q16⟩ := q16
    refine wq_st (st' := []) rfl ?_
    refine wq_iload_n 1 rfl rfl dX11_name_51 ?_
    exact wp_iret rfl dX11_name_52 q16
  · refine wq_aload_n 0 rfl rfl dX11_name_27 ?_
    refine wq_aload_n 0 rfl rfl dX11_name_28 ?_
    refine wq_getI fk_X11_101 tT_343 (fun _ _ _ => rfl) dX11_name_29 ?_
    refine wN_V (As := [vI (gI h8 343 15)]) vm_X11_faults lk_X11_118 tT_343 rfl rfl (Nat.le_of_ble_eq_true rfl) (Nat.le_of_ble_eq_true rfl) (d' := d - 1) (by omega) dX11_name_32 (q9.2 c11) (fun v9 h19 q20 => ?_)
    obtain ⟨rfl, hS21, q20⟩ := q20
    refine wq_st (st' := []) rfl ?_
    refine wq_iconst (z := 0) (zlit rfl) dX11_name_35 ?_
    exact wp_iret rfl dX11_name_36 q20
theorem dX11_of_0 : decode cX11_of 0 = .ok (.aload_n 0, 1) := by decide +kernel
theorem dX11_of_1 : decode cX11_of 1 = .ok (.getfield 31, 3) := by decide +kernel
theorem dX11_of_4 : decode cX11_of 4 = .ok (.bipush 14, 2) := by decide +kernel
theorem dX11_of_6 : decode cX11_of 6 = .ok (.bipush 24, 2) := by decide +kernel
theorem dX11_of_8 : decode cX11_of 8 = .ok (.iload_n 1, 1) := by decide +kernel
theorem dX11_of_9 : decode cX11_of 9 = .ok (.imul, 1) := by decide +kernel
theorem dX11_of_10 : decode cX11_of 10 = .ok (.iload_n 2, 1) := by decide +kernel
theorem dX11_of_11 : decode cX11_of 11 = .ok (.iadd, 1) := by decide +kernel
theorem dX11_of_12 : decode cX11_of 12 = .ok (.imul, 1) := by decide +kernel
theorem dX11_of_13 : decode cX11_of 13 = .ok (.iload_n 3, 1) := by decide +kernel
theorem dX11_of_14 : decode cX11_of 14 = .ok (.iadd, 1) := by decide +kernel
theorem dX11_of_15 : decode cX11_of 15 = .ok (.iaload, 1) := by decide +kernel
theorem dX11_of_16 : decode cX11_of 16 = .ok (.ireturn, 1) := by decide +kernel
theorem vc_X11_of_0 {G : zG} {d : Nat} {Q : Option zV → zHp → Prop} (p1 : Int) (p2 : Int) (p3 : Int) (h : zHp) (hS : zSh h) (hd : 0 ≤ d)  
    (hv : ((-2147483648 ≤ 24 * p1 ∧ 24 * p1 ≤ 2147483647) ∧ ((-2147483648 ≤ (24 * p1) + p2 ∧ (24 * p1) + p2 ≤ 2147483647) ∧ ((-2147483648 ≤ 14 * ((24 * p1) + p2) ∧ 14 * ((24 * p1) + p2) ≤ 2147483647) ∧ ((-2147483648 ≤ (14 * ((24 * p1) + p2)) + p3 ∧ (14 * ((24 * p1) + p2)) + p3 ≤ 2147483647) ∧ (((0 : Int) ≤ ((14 * ((24 * p1) + p2)) + p3) ∧ ((14 * ((24 * p1) + p2)) + p3) < ((1680 : Nat) : Int)) ∧ Q (some (vI (gI h 351 ((14 * ((24 * p1) + p2)) + p3).toNat))) h)))))) : wpN G d M_X11_of 0 [(0, vR 343), (1, vI p1), (2, vI p2), (3, vI p3)] [] h Q := by
  refine wq_aload_n 0 rfl rfl dX11_of_0 ?_
  refine wq_getR fk_X11_31 tT_343 (fun _ _ _ => rfl) (sh_11_13 hS) (by decide) dX11_of_1 ?_
  refine wq_bipush (z := 14) (zlit rfl) rfl dX11_of_4 ?_
  refine wq_bipush (z := 24) (zlit rfl) rfl dX11_of_6 ?_
  refine wq_iload_n 1 rfl rfl dX11_of_8 ?_
  refine wq_imul hv.1 dX11_of_9 ?_
  refine wq_iload_n 2 rfl rfl dX11_of_10 ?_
  refine wq_iadd hv.2.1 dX11_of_11 ?_
  refine wq_imul hv.2.2.1 dX11_of_12 ?_
  refine wq_iload_n 3 rfl rfl dX11_of_13 ?_
  refine wq_iadd hv.2.2.2.1 dX11_of_14 ?_
  refine wq_iald tT_351 hv.2.2.2.2.1.1 hv.2.2.2.2.1.2 dX11_of_15 ?_
  exact wp_iret rfl dX11_of_16 hv.2.2.2.2.2
theorem dX11_readOf_0 : decode cX11_readOf 0 = .ok (.aload_n 0, 1) := by decide +kernel
theorem dX11_readOf_1 : decode cX11_readOf 1 = .ok (.iconst 4, 1) := by decide +kernel
theorem dX11_readOf_2 : decode cX11_readOf 2 = .ok (.iload_n 1, 1) := by decide +kernel
theorem dX11_readOf_3 : decode cX11_readOf 3 = .ok (.iload_n 2, 1) := by decide +kernel
theorem dX11_readOf_4 : decode cX11_readOf 4 = .ok (.invokevirtual 139, 3) := by decide +kernel
theorem dX11_readOf_7 : decode cX11_readOf 7 = .ok (.ireturn, 1) := by decide +kernel
theorem vc_X11_readOf_0 {G : zG} {d : Nat} {Q : Option zV → zHp → Prop} (p1 : Int) (p2 : Int) (h : zHp) (hS : zSh h) (hd : 1 ≤ d)  
    (hv : (wpN G (d - 1) M_X11_of 0 (zar 0 [vR 343, vI 4, vI p1, vI p2]) [] h (qI (fun z1 h2 => zSh h2 ∧ Q (some (vI z1)) h2)))) : wpN G d M_X11_readOf 0 [(0, vR 343), (1, vI p1), (2, vI p2)] [] h Q := by
  refine wq_aload_n 0 rfl rfl dX11_readOf_0 ?_
  refine wq_iconst (z := 4) (zlit rfl) dX11_readOf_1 ?_
  refine wq_iload_n 1 rfl rfl dX11_readOf_2 ?_
  refine wq_iload_n 2 rfl rfl dX11_readOf_3 ?_
  refine wN_V (As := [vI 4, vI p1, vI p2]) vm_X11_of lk_X11_139 tT_343 rfl rfl (Nat.le_of_ble_eq_true rfl) (Nat.le_of_ble_eq_true rfl) (d' := d - 1) (by omega) dX11_readOf_4 hv (fun v9 h2 q3 => ?_)
  obtain ⟨z1, rfl, hS4, q3⟩ := q3
  refine wq_st (st' := [vI z1]) rfl ?_
  exact wp_iret rfl dX11_readOf_7 q3
theorem dX11_writes_0 : decode cX11_writes 0 = .ok (.aload_n 0, 1) := by decide +kernel
theorem dX11_writes_1 : decode cX11_writes 1 = .ok (.getfield 31, 3) := by decide +kernel
theorem dX11_writes_4 : decode cX11_writes 4 = .ok (.bipush 14, 2) := by decide +kernel
theorem dX11_writes_6 : decode cX11_writes 6 = .ok (.bipush 96, 2) := by decide +kernel
theorem dX11_writes_8 : decode cX11_writes 8 = .ok (.iload_n 1, 1) := by decide +kernel
theorem dX11_writes_9 : decode cX11_writes 9 = .ok (.iadd, 1) := by decide +kernel
theorem dX11_writes_10 : decode cX11_writes 10 = .ok (.imul, 1) := by decide +kernel
theorem dX11_writes_11 : decode cX11_writes 11 = .ok (.iload_n 2, 1) := by decide +kernel
theorem dX11_writes_12 : decode cX11_writes 12 = .ok (.iadd, 1) := by decide +kernel
theorem dX11_writes_13 : decode cX11_writes 13 = .ok (.iload_n 3, 1) := by decide +kernel
theorem dX11_writes_14 : decode cX11_writes 14 = .ok (.iastore, 1) := by decide +kernel
theorem dX11_writes_15 : decode cX11_writes 15 = .ok (.return_, 1) := by decide +kernel
theorem vc_X11_writes_0 {G : zG} {d : Nat} {Q : Option zV → zHp → Prop} (p1 : Int) (p2 : Int) (p3 : Int) (h : zHp) (hS : zSh h) (hd : 0 ≤ d)  
    (hv : ((-2147483648 ≤ 96 + p1 ∧ 96 + p1 ≤ 2147483647) ∧ ((-2147483648 ≤ 14 * (96 + p1) ∧ 14 * (96 + p1) ≤ 2147483647) ∧ ((-2147483648 ≤ (14 * (96 + p1)) + p2 ∧ (14 * (96 + p1)) + p2 ≤ 2147483647) ∧ (((0 : Int) ≤ ((14 * (96 + p1)) + p2) ∧ ((14 * (96 + p1)) + p2) < ((1680 : Nat) : Int)) ∧ (∀ h1 : zHp, h1 = sI h 351 ((14 * (96 + p1)) + p2).toNat p3 → Q none h1)))))) : wpN G d M_X11_writes 0 [(0, vR 343), (1, vI p1), (2, vI p2), (3, vI p3)] [] h Q := by
  refine wq_aload_n 0 rfl rfl dX11_writes_0 ?_
  refine wq_getR fk_X11_31 tT_343 (fun _ _ _ => rfl) (sh_11_13 hS) (by decide) dX11_writes_1 ?_
  refine wq_bipush (z := 14) (zlit rfl) rfl dX11_writes_4 ?_
  refine wq_bipush (z := 96) (zlit rfl) rfl dX11_writes_6 ?_
  refine wq_iload_n 1 rfl rfl dX11_writes_8 ?_
  refine wq_iadd hv.1 dX11_writes_9 ?_
  refine wq_imul hv.2.1 dX11_writes_10 ?_
  refine wq_iload_n 2 rfl rfl dX11_writes_11 ?_
  refine wq_iadd hv.2.2.1 dX11_writes_12 ?_
  refine wq_iload_n 3 rfl rfl dX11_writes_13 ?_
  refine wq_iast tT_351 hv.2.2.2.1.1 hv.2.2.2.1.2 dX11_writes_14 ?_
  refine wq_toph (fun h1 e2 => ?_)
  have sh1 : zSh h1 := zSh_of e2 hS
  exact wp_vret rfl dX11_writes_15 (hv.2.2.2.2 h1 e2)
theorem dX11_inBlock_0 : decode cX11_inBlock 0 = .ok (.iconst (-1), 1) := by decide +kernel
theorem dX11_inBlock_1 : decode cX11_inBlock 1 = .ok (.istore 4, 2) := by decide +kernel
theorem dX11_inBlock_3 : decode cX11_inBlock 3 = .ok (.iconst 0, 1) := by decide +kernel
theorem dX11_inBlock_4 : decode cX11_inBlock 4 = .ok (.istore 5, 2) := by decide +kernel
theorem dX11_inBlock_6 : decode cX11_inBlock 6 = .ok (.iload 5, 2) := by decide +kernel
theorem dX11_inBlock_8 : decode cX11_inBlock 8 = .ok (.iload_n 3, 1) := by decide +kernel
theorem dX11_inBlock_9 : decode cX11_inBlock 9 = .ok (.if_icmp .ge 41, 3) := by decide +kernel
theorem dX11_inBlock_12 : decode cX11_inBlock 12 = .ok (.aload_n 0, 1) := by decide +kernel
theorem dX11_inBlock_13 : decode cX11_inBlock 13 = .ok (.iload 5, 2) := by decide +kernel
theorem dX11_inBlock_15 : decode cX11_inBlock 15 = .ok (.iconst 1, 1) := by decide +kernel
theorem dX11_inBlock_16 : decode cX11_inBlock 16 = .ok (.invokevirtual 143, 3) := by decide +kernel
theorem dX11_inBlock_19 : decode cX11_inBlock 19 = .ok (.iload_n 1, 1) := by decide +kernel
theorem dX11_inBlock_20 : decode cX11_inBlock 20 = .ok (.if_icmp .ne 20, 3) := by decide +kernel
theorem dX11_inBlock_23 : decode cX11_inBlock 23 = .ok (.aload_n 0, 1) := by decide +kernel
theorem dX11_inBlock_24 : decode cX11_inBlock 24 = .ok (.iload 5, 2) := by decide +kernel
theorem dX11_inBlock_26 : decode cX11_inBlock 26 = .ok (.bipush 13, 2) := by decide +kernel
theorem dX11_inBlock_28 : decode cX11_inBlock 28 = .ok (.invokevirtual 143, 3) := by decide +kernel
theorem dX11_inBlock_31 : decode cX11_inBlock 31 = .ok (.iload_n 2, 1) := by decide +kernel
theorem dX11_inBlock_32 : decode cX11_inBlock 32 = .ok (.if_icmp .ne 8, 3) := by decide +kernel
theorem dX11_inBlock_35 : decode cX11_inBlock 35 = .ok (.iload 5, 2) := by decide +kernel
theorem dX11_inBlock_37 : decode cX11_inBlock 37 = .ok (.goto 5, 3) := by decide +kernel
theorem dX11_inBlock_40 : decode cX11_inBlock 40 = .ok (.iload 4, 2) := by decide +kernel
theorem dX11_inBlock_42 : decode cX11_inBlock 42 = .ok (.istore 4, 2) := by decide +kernel
theorem dX11_inBlock_44 : decode cX11_inBlock 44 = .ok (.iinc 5 1, 3) := by decide +kernel
theorem dX11_inBlock_47 : decode cX11_inBlock 47 = .ok (.goto (-41), 3) := by decide +kernel
theorem dX11_inBlock_50 : decode cX11_inBlock 50 = .ok (.iload 4, 2) := by decide +kernel
theorem dX11_inBlock_52 : decode cX11_inBlock 52 = .ok (.ireturn, 1) := by decide +kernel
theorem vc_X11_inBlock_0 {G : zG} {d : Nat} {Q : Option zV → zHp → Prop} (p1 : Int) (p2 : Int) (p3 : Int) (h : zHp) (hS : zSh h) (hd : 2 ≤ d) (I_6 : Int → Int → Int → Int → Int → zHp → Prop) (hI_6 : ∀ (y1 : Int) (y2 : Int) (y3 : Int) (y4 : Int) (y5 : Int) (h' : zHp), I_6 y1 y2 y3 y4 y5 h' → wpN G d M_X11_inBlock 6 [(0, vR 343), (1, vI y1), (2, vI y2), (3, vI y3), (4, vI y4), (5, vI y5)] [] h' Q) 
    (hv : (zSh h → I_6 p1 p2 p3 (-1) 0 h)) : wpN G d M_X11_inBlock 0 [(0, vR 343), (1, vI p1), (2, vI p2), (3, vI p3)] [] h Q := by
  refine wq_iconst (z := -1) (zlit rfl) dX11_inBlock_0 ?_
  refine wq_istore (ls' := [(0, vR 343), (1, vI p1), (2, vI p2), (3, vI p3), (4, vI (-1))]) (by decide) rfl dX11_inBlock_1 ?_
  refine wq_iconst (z := 0) (zlit rfl) dX11_inBlock_3 ?_
  refine wq_istore (ls' := [(0, vR 343), (1, vI p1), (2, vI p2), (3, vI p3), (4, vI (-1)), (5, vI 0)]) (by decide) rfl dX11_inBlock_4 ?_
  exact wq_pick [0, 1, 2, 3, 4, 5] rfl (hI_6 p1 p2 p3 (-1) 0 h (hv hS))
theorem vc_X11_inBlock_6 {G : zG} {d : Nat} {Q : Option zV → zHp → Prop} (y1 : Int) (y2 : Int) (y3 : Int) (y4 : Int) (y5 : Int) (h : zHp) (hS : zSh h) (hd : 2 ≤ d) (I_6 : Int → Int → Int → Int → Int → zHp → Prop) (hI_6 : ∀ (y1 : Int) (y2 : Int) (y3 : Int) (y4 : Int) (y5 : Int) (h' : zHp), I_6 y1 y2 y3 y4 y5 h' → wpN G d M_X11_inBlock 6 [(0, vR 343), (1, vI y1), (2, vI y2), (3, vI y3), (4, vI y4), (5, vI y5)] [] h' Q) 
    (hv : ((y3 ≤ y5 → Q (some (vI y4)) h) ∧ (y5 < y3 → (wpN G (d - 1) M_X11_readOf 0 (zar 0 [vR 343, vI y5, vI 1]) [] h (qI (fun z2 h3 => zSh h3 ∧ ((z2 ≠ y1 → ((-2147483648 ≤ y5 + 1 ∧ y5 + 1 ≤ 2147483647) ∧ ∀ x7 : Int, x7 = y5 + 1 → (zSh h3 → I_6 y1 y2 y3 y4 x7 h3))) ∧ (z2 = y1 → (wpN G (d - 1) M_X11_readOf 0 (zar 0 [vR 343, vI y5, vI 13]) [] h3 (qI (fun z9 h10 => zSh h10 ∧ ((z9 ≠ y2 → ((-2147483648 ≤ y5 + 1 ∧ y5 + 1 ≤ 2147483647) ∧ ∀ x14 : Int, x14 = y5 + 1 → (zSh h10 → I_6 y1 y2 y3 y4 x14 h10))) ∧ (z9 = y2 → ((-2147483648 ≤ y5 + 1 ∧ y5 + 1 ≤ 2147483647) ∧ ∀ x16 : Int, x16 = y5 + 1 → (zSh h10 → I_6 y1 y2 y3 y5 x16 h10))))))))))))))) : wpN G d M_X11_inBlock 6 [(0, vR 343), (1, vI y1), (2, vI y2), (3, vI y3), (4, vI y4), (5, vI y5)] [] h Q := by
  refine wq_iload 5 rfl dX11_inBlock_6 ?_
  refine wq_iload_n 3 rfl rfl dX11_inBlock_8 ?_
  refine wq_icmp_ge 50 rfl dX11_inBlock_9 (fun c1 => ?_) (fun c1 => ?_)
  · refine wq_iload 4 rfl dX11_inBlock_50 ?_
    exact wp_iret rfl dX11_inBlock_52 (hv.1 c1)
  · refine wq_aload_n 0 rfl rfl dX11_inBlock_12 ?_
    refine wq_iload 5 rfl dX11_inBlock_13 ?_
    refine wq_iconst (z := 1) (zlit rfl) dX11_inBlock_15 ?_
    refine wN_V (As := [vI y5, vI 1]) vm_X11_readOf lk_X11_143 tT_343 rfl rfl (Nat.le_of_ble_eq_true rfl) (Nat.le_of_ble_eq_true rfl) (d' := d - 1) (by omega) dX11_inBlock_16 (hv.2 c1) (fun v9 h3 q4 => ?_)
    obtain ⟨z2, rfl, hS5, q4⟩ := q4
    refine wq_st (st' := [vI z2]) rfl ?_
    refine wq_iload_n 1 rfl rfl dX11_inBlock_19 ?_
    refine wq_icmp_ne 40 rfl dX11_inBlock_20 (fun c6 => ?_) (fun c6 => ?_)
    · refine wq_iload 4 rfl dX11_inBlock_40 ?_
      refine wq_istore (ls' := [(0, vR 343), (1, vI y1), (2, vI y2), (3, vI y3), (4, vI y4), (5, vI y5)]) (by decide) rfl dX11_inBlock_42 ?_
      refine z_nm (y5 + 1) (fun x7 e8 => ?_)
      refine wq_iinc (y := x7) (ls' := [(0, vR 343), (1, vI y1), (2, vI y2), (3, vI y3), (4, vI y4), (5, vI x7)]) 5 rfl e8.symm (by rw [e8]; exact (q4.1 c6).1) (by decide) rfl dX11_inBlock_44 ?_
      refine wq_goto 6 rfl dX11_inBlock_47 ?_
      exact wq_pick [0, 1, 2, 3, 4, 5] rfl (hI_6 y1 y2 y3 y4 x7 h3 (((q4.1 c6).2 x7 e8) hS5))
    · refine wq_aload_n 0 rfl rfl dX11_inBlock_23 ?_
      refine wq_iload 5 rfl dX11_inBlock_24 ?_
      refine wq_bipush (z := 13) (zlit rfl) rfl dX11_inBlock_26 ?_
      refine wN_V (As := [vI y5, vI 13]) vm_X11_readOf lk_X11_143 tT_343 rfl rfl (Nat.le_of_ble_eq_true rfl) (Nat.le_of_ble_eq_true rfl) (d' := d - 1) (by omega) dX11_inBlock_28 (q4.2 c6) (fun v9 h10 q11 => ?_)
      obtain ⟨z9, rfl, hS12, q11⟩ := q11
      refine wq_st (st' := [vI z9]) rfl ?_
      refine wq_iload_n 2 rfl rfl dX11_inBlock_31 ?_
      refine wq_icmp_ne 40 rfl dX11_inBlock_32 (fun c13 => ?_) (fun c13 => ?_)
      · refine wq_iload 4 rfl dX11_inBlock_40 ?_
        refine wq_istore (ls' := [(0, vR 343), (1, vI y1), (2, vI y2), (3, vI y3), (4, vI y4), (5, vI y5)]) (by decide) rfl dX11_inBlock_42 ?_
        refine z_nm (y5 + 1) (fun x14 e15 => ?_)
        refine wq_iinc (y := x14) (ls' := [(0, vR 343), (1, vI y1), (2, vI y2), (3, vI y3), (4, vI y4), (5, vI x14)]) 5 rfl e15.symm (by rw [e15]; exact (q11.1 c13).1) (by decide) rfl dX11_inBlock_44 ?_
        refine wq_goto 6 rfl dX11_inBlock_47 ?_
        exact wq_pick [0, 1, 2, 3, 4, 5] rfl (hI_6 y1 y2 y3 y4 x14 h10 (((q11.1 c13).2 x14 e15) hS12))
      · refine wq_iload 5 rfl dX11_inBlock_35 ?_
        refine wq_goto 42 rfl dX11_inBlock_37 ?_
        refine wq_istore (ls' := [(0, vR 343), (1, vI y1), (2, vI y2), (3, vI y3), (4, vI y5), (5, vI y5)]) (by decide) rfl dX11_inBlock_42 ?_
        refine z_nm (y5 + 1) (fun x16 e17 => ?_)
        refine wq_iinc (y := x16) (ls' := [(0, vR 343), (1, vI y1), (2, vI y2), (3, vI y3), (4, vI y5), (5, vI x16)]) 5 rfl e17.symm (by rw [e17]; exact (q11.2 c13).1) (by decide) rfl dX11_inBlock_44 ?_
        refine wq_goto 6 rfl dX11_inBlock_47 ?_
        exact wq_pick [0, 1, 2, 3, 4, 5] rfl (hI_6 y1 y2 y3 y5 x16 h10 (((q11.2 c13).2 x16 e17) hS12))
theorem dX11_named_0 : decode cX11_named 0 = .ok (.iload_n 2, 1) := by decide +kernel
theorem dX11_named_1 : decode cX11_named 1 = .ok (.istore_n 3, 1) := by decide +kernel
theorem dX11_named_2 : decode cX11_named 2 = .ok (.aload_n 0, 1) := by decide +kernel
theorem dX11_named_3 : decode cX11_named 3 = .ok (.iload_n 2, 1) := by decide +kernel
theorem dX11_named_4 : decode cX11_named 4 = .ok (.bipush 13, 2) := by decide +kernel
theorem dX11_named_6 : decode cX11_named 6 = .ok (.invokevirtual 143, 3) := by decide +kernel
theorem dX11_named_9 : decode cX11_named 9 = .ok (.istore 4, 2) := by decide +kernel
theorem dX11_named_11 : decode cX11_named 11 = .ok (.aload_n 0, 1) := by decide +kernel
theorem dX11_named_12 : decode cX11_named 12 = .ok (.iload_n 1, 1) := by decide +kernel
theorem dX11_named_13 : decode cX11_named 13 = .ok (.iload 4, 2) := by decide +kernel
theorem dX11_named_15 : decode cX11_named 15 = .ok (.iload_n 3, 1) := by decide +kernel
theorem dX11_named_16 : decode cX11_named 16 = .ok (.invokevirtual 147, 3) := by decide +kernel
theorem dX11_named_19 : decode cX11_named 19 = .ok (.istore 5, 2) := by decide +kernel
theorem dX11_named_21 : decode cX11_named 21 = .ok (.iload 5, 2) := by decide +kernel
theorem dX11_named_23 : decode cX11_named 23 = .ok (.ifCond .ge 34, 3) := by decide +kernel
theorem dX11_named_26 : decode cX11_named 26 = .ok (.iload 4, 2) := by decide +kernel
theorem dX11_named_28 : decode cX11_named 28 = .ok (.ifCond .lt 29, 3) := by decide +kernel
theorem dX11_named_31 : decode cX11_named 31 = .ok (.iload 4, 2) := by decide +kernel
theorem dX11_named_33 : decode cX11_named 33 = .ok (.istore_n 3, 1) := by decide +kernel
theorem dX11_named_34 : decode cX11_named 34 = .ok (.aload_n 0, 1) := by decide +kernel
theorem dX11_named_35 : decode cX11_named 35 = .ok (.iload 4, 2) := by decide +kernel
theorem dX11_named_37 : decode cX11_named 37 = .ok (.bipush 13, 2) := by decide +kernel
theorem dX11_named_39 : decode cX11_named 39 = .ok (.invokevirtual 143, 3) := by decide +kernel
theorem dX11_named_42 : decode cX11_named 42 = .ok (.istore 4, 2) := by decide +kernel
theorem dX11_named_44 : decode cX11_named 44 = .ok (.aload_n 0, 1) := by decide +kernel
theorem dX11_named_45 : decode cX11_named 45 = .ok (.iload_n 1, 1) := by decide +kernel
theorem dX11_named_46 : decode cX11_named 46 = .ok (.iload 4, 2) := by decide +kernel
theorem dX11_named_48 : decode cX11_named 48 = .ok (.iload_n 3, 1) := by decide +kernel
theorem dX11_named_49 : decode cX11_named 49 = .ok (.invokevirtual 147, 3) := by decide +kernel
theorem dX11_named_52 : decode cX11_named 52 = .ok (.istore 5, 2) := by decide +kernel
theorem dX11_named_54 : decode cX11_named 54 = .ok (.goto (-33), 3) := by decide +kernel
theorem dX11_named_57 : decode cX11_named 57 = .ok (.iload 5, 2) := by decide +kernel
theorem dX11_named_59 : decode cX11_named 59 = .ok (.ireturn, 1) := by decide +kernel
theorem vc_X11_named_0 {G : zG} {d : Nat} {Q : Option zV → zHp → Prop} (p1 : Int) (p2 : Int) (h : zHp) (hS : zSh h) (hd : 3 ≤ d) (I_21 : Int → Int → Int → Int → Int → zHp → Prop) (hI_21 : ∀ (y1 : Int) (y2 : Int) (y3 : Int) (y4 : Int) (y5 : Int) (h' : zHp), I_21 y1 y2 y3 y4 y5 h' → wpN G d M_X11_named 21 [(0, vR 343), (1, vI y1), (2, vI y2), (3, vI y3), (4, vI y4), (5, vI y5)] [] h' Q) 
    (hv : (wpN G (d - 1) M_X11_readOf 0 (zar 0 [vR 343, vI p2, vI 13]) [] h (qI (fun z1 h2 => zSh h2 ∧ (wpN G (d - 1) M_X11_inBlock 0 (zar 0 [vR 343, vI p1, vI z1, vI p2]) [] h2 (qI (fun z5 h6 => zSh h6 ∧ (zSh h6 → I_21 p1 p2 p2 z1 z5 h6)))))))) : wpN G d M_X11_named 0 [(0, vR 343), (1, vI p1), (2, vI p2)] [] h Q := by
  refine wq_iload_n 2 rfl rfl dX11_named_0 ?_
  refine wq_istore_n (ls' := [(0, vR 343), (1, vI p1), (2, vI p2), (3, vI p2)]) rfl (by decide) rfl dX11_named_1 ?_
  refine wq_aload_n 0 rfl rfl dX11_named_2 ?_
  refine wq_iload_n 2 rfl rfl dX11_named_3 ?_
  refine wq_bipush (z := 13) (zlit rfl) rfl dX11_named_4 ?_
  refine wN_V (As := [vI p2, vI 13]) vm_X11_readOf lk_X11_143 tT_343 rfl rfl (Nat.le_of_ble_eq_true rfl) (Nat.le_of_ble_eq_true rfl) (d' := d - 1) (by omega) dX11_named_6 hv (fun v9 h2 q3 => ?_)
  obtain ⟨z1, rfl, hS4, q3⟩ := q3
  refine wq_st (st' := [vI z1]) rfl ?_
  refine wq_istore (ls' := [(0, vR 343), (1, vI p1), (2, vI p2), (3, vI p2), (4, vI z1)]) (by decide) rfl dX11_named_9 ?_
  refine wq_aload_n 0 rfl rfl dX11_named_11 ?_
  refine wq_iload_n 1 rfl rfl dX11_named_12 ?_
  refine wq_iload 4 rfl dX11_named_13 ?_
  refine wq_iload_n 3 rfl rfl dX11_named_15 ?_
  refine wN_V (As := [vI p1, vI z1, vI p2]) vm_X11_inBlock lk_X11_147 tT_343 rfl rfl (Nat.le_of_ble_eq_true rfl) (Nat.le_of_ble_eq_true rfl) (d' := d - 1) (by omega) dX11_named_16 q3 (fun v9 h6 q7 => ?_)
  obtain ⟨z5, rfl, hS8, q7⟩ := q7
  refine wq_st (st' := [vI z5]) rfl ?_
  refine wq_istore (ls' := [(0, vR 343), (1, vI p1), (2, vI p2), (3, vI p2), (4, vI z1), (5, vI z5)]) (by decide) rfl dX11_named_19 ?_
  exact wq_pick [0, 1, 2, 3, 4, 5] rfl (hI_21 p1 p2 p2 z1 z5 h6 (q7 hS8))
theorem vc_X11_named_21 {G : zG} {d : Nat} {Q : Option zV → zHp → Prop} (y1 : Int) (y2 : Int) (y3 : Int) (y4 : Int) (y5 : Int) (h : zHp) (hS : zSh h) (hd : 3 ≤ d) (I_21 : Int → Int → Int → Int → Int → zHp → Prop) (hI_21 : ∀ (y1 : Int) (y2 : Int) (y3 : Int) (y4 : Int) (y5 : Int) (h' : zHp), I_21 y1 y2 y3 y4 y5 h' → wpN G d M_X11_named 21 [(0, vR 343), (1, vI y1), (2, vI y2), (3, vI y3), (4, vI y4), (5, vI y5)] [] h' Q) 
    (hv : ((0 ≤ y5 → Q (some (vI y5)) h) ∧ (y5 < 0 → ((y4 < 0 → Q (some (vI y5)) h) ∧ (0 ≤ y4 → (wpN G (d - 1) M_X11_readOf 0 (zar 0 [vR 343, vI y4, vI 13]) [] h (qI (fun z3 h4 => zSh h4 ∧ (wpN G (d - 1) M_X11_inBlock 0 (zar 0 [vR 343, vI y1, vI z3, vI y4]) [] h4 (qI (fun z7 h8 => zSh h8 ∧ (zSh h8 → I_21 y1 y2 y4 z3 z7 h8)))))))))))) : wpN G d M_X11_named 21 [(0, vR 343), (1, vI y1), (2, vI y2), (3, vI y3), (4, vI y4), (5, vI y5)] [] h Q := by
  refine wq_iload 5 rfl dX11_named_21 ?_
  refine wq_if_ge 57 rfl dX11_named_23 (fun c1 => ?_) (fun c1 => ?_)
  · refine wq_iload 5 rfl dX11_named_57 ?_
    exact wp_iret rfl dX11_named_59 (hv.1 c1)
  · refine wq_iload 4 rfl dX11_named_26 ?_
    refine wq_if_lt 57 rfl dX11_named_28 (fun c2 => ?_) (fun c2 => ?_)
    · refine wq_iload 5 rfl dX11_named_57 ?_
      exact wp_iret rfl dX11_named_59 ((hv.2 c1).1 c2)
    · refine wq_iload 4 rfl dX11_named_31 ?_
      refine wq_istore_n (ls' := [(0, vR 343), (1, vI y1), (2, vI y2), (3, vI y4), (4, vI y4), (5, vI y5)]) rfl (by decide) rfl dX11_named_33 ?_
      refine wq_aload_n 0 rfl rfl dX11_named_34 ?_
      refine wq_iload 4 rfl dX11_named_35 ?_
      refine wq_bipush (z := 13) (zlit rfl) rfl dX11_named_37 ?_
      refine wN_V (As := [vI y4, vI 13]) vm_X11_readOf lk_X11_143 tT_343 rfl rfl (Nat.le_of_ble_eq_true rfl) (Nat.le_of_ble_eq_true rfl) (d' := d - 1) (by omega) dX11_named_39 ((hv.2 c1).2 c2) (fun v9 h4 q5 => ?_)
      obtain ⟨z3, rfl, hS6, q5⟩ := q5
      refine wq_st (st' := [vI z3]) rfl ?_
      refine wq_istore (ls' := [(0, vR 343), (1, vI y1), (2, vI y2), (3, vI y4), (4, vI z3), (5, vI y5)]) (by decide) rfl dX11_named_42 ?_
      refine wq_aload_n 0 rfl rfl dX11_named_44 ?_
      refine wq_iload_n 1 rfl rfl dX11_named_45 ?_
      refine wq_iload 4 rfl dX11_named_46 ?_
      refine wq_iload_n 3 rfl rfl dX11_named_48 ?_
      refine wN_V (As := [vI y1, vI z3, vI y4]) vm_X11_inBlock lk_X11_147 tT_343 rfl rfl (Nat.le_of_ble_eq_true rfl) (Nat.le_of_ble_eq_true rfl) (d' := d - 1) (by omega) dX11_named_49 q5 (fun v9 h8 q9 => ?_)
      obtain ⟨z7, rfl, hS10, q9⟩ := q9
      refine wq_st (st' := [vI z7]) rfl ?_
      refine wq_istore (ls' := [(0, vR 343), (1, vI y1), (2, vI y2), (3, vI y4), (4, vI z3), (5, vI z7)]) (by decide) rfl dX11_named_52 ?_
      refine wq_goto 21 rfl dX11_named_54 ?_
      exact wq_pick [0, 1, 2, 3, 4, 5] rfl (hI_21 y1 y2 y4 z3 z7 h8 (q9 hS10))
theorem dX11_integerNamed_0 : decode cX11_integerNamed 0 = .ok (.aload_n 0, 1) := by decide +kernel
theorem dX11_integerNamed_1 : decode cX11_integerNamed 1 = .ok (.invokevirtual 150, 3) := by decide +kernel
theorem dX11_integerNamed_4 : decode cX11_integerNamed 4 = .ok (.istore_n 2, 1) := by decide +kernel
theorem dX11_integerNamed_5 : decode cX11_integerNamed 5 = .ok (.aload_n 0, 1) := by decide +kernel
theorem dX11_integerNamed_6 : decode cX11_integerNamed 6 = .ok (.getfield 108, 3) := by decide +kernel
theorem dX11_integerNamed_9 : decode cX11_integerNamed 9 = .ok (.sipush (-1009), 3) := by decide +kernel
theorem dX11_integerNamed_12 : decode cX11_integerNamed 12 = .ok (.if_icmp .ne 12, 3) := by decide +kernel
theorem dX11_integerNamed_15 : decode cX11_integerNamed 15 = .ok (.aload_n 0, 1) := by decide +kernel
theorem dX11_integerNamed_16 : decode cX11_integerNamed 16 = .ok (.iload_n 2, 1) := by decide +kernel
theorem dX11_integerNamed_17 : decode cX11_integerNamed 17 = .ok (.iload_n 1, 1) := by decide +kernel
theorem dX11_integerNamed_18 : decode cX11_integerNamed 18 = .ok (.invokevirtual 153, 3) := by decide +kernel
theorem dX11_integerNamed_21 : decode cX11_integerNamed 21 = .ok (.goto 4, 3) := by decide +kernel
theorem dX11_integerNamed_24 : decode cX11_integerNamed 24 = .ok (.iconst (-1), 1) := by decide +kernel
theorem dX11_integerNamed_25 : decode cX11_integerNamed 25 = .ok (.istore_n 3, 1) := by decide +kernel
theorem dX11_integerNamed_26 : decode cX11_integerNamed 26 = .ok (.iload_n 3, 1) := by decide +kernel
theorem dX11_integerNamed_27 : decode cX11_integerNamed 27 = .ok (.ifCond .lt 22, 3) := by decide +kernel
theorem dX11_integerNamed_30 : decode cX11_integerNamed 30 = .ok (.aload_n 0, 1) := by decide +kernel
theorem dX11_integerNamed_31 : decode cX11_integerNamed 31 = .ok (.iload_n 3, 1) := by decide +kernel
theorem dX11_integerNamed_32 : decode cX11_integerNamed 32 = .ok (.iconst 0, 1) := by decide +kernel
theorem dX11_integerNamed_33 : decode cX11_integerNamed 33 = .ok (.invokevirtual 143, 3) := by decide +kernel
theorem dX11_integerNamed_36 : decode cX11_integerNamed 36 = .ok (.ifCond .ne 13, 3) := by decide +kernel
theorem dX11_integerNamed_39 : decode cX11_integerNamed 39 = .ok (.aload_n 0, 1) := by decide +kernel
theorem dX11_integerNamed_40 : decode cX11_integerNamed 40 = .ok (.iload_n 3, 1) := by decide +kernel
theorem dX11_integerNamed_41 : decode cX11_integerNamed 41 = .ok (.bipush 7, 2) := by decide +kernel
theorem dX11_integerNamed_43 : decode cX11_integerNamed 43 = .ok (.invokevirtual 143, 3) := by decide +kernel
theorem dX11_integerNamed_46 : decode cX11_integerNamed 46 = .ok (.ifCond .eq 11, 3) := by decide +kernel
theorem dX11_integerNamed_49 : decode cX11_integerNamed 49 = .ok (.aload_n 0, 1) := by decide +kernel
theorem dX11_integerNamed_50 : decode cX11_integerNamed 50 = .ok (.aload_n 0, 1) := by decide +kernel
theorem dX11_integerNamed_51 : decode cX11_integerNamed 51 = .ok (.getfield 132, 3) := by decide +kernel
theorem dX11_integerNamed_54 : decode cX11_integerNamed 54 = .ok (.invokevirtual 118, 3) := by decide +kernel
theorem dX11_integerNamed_57 : decode cX11_integerNamed 57 = .ok (.iload_n 3, 1) := by decide +kernel
theorem dX11_integerNamed_58 : decode cX11_integerNamed 58 = .ok (.ireturn, 1) := by decide +kernel
theorem vc_X11_integerNamed_0 {G : zG} {d : Nat} {Q : Option zV → zHp → Prop} (p1 : Int) (h : zHp) (hS : zSh h) (hd : 4 ≤ d)  
    (hv : (wpN G (d - 1) M_X11_name 0 (zar 0 [vR 343]) [] h (qI (fun z1 h2 => zSh h2 ∧ (((gI h2 343 16) ≠ (-1009) → (wpN G (d - 1) M_X11_faults 0 (zar 0 [vR 343, vI (gI h2 343 18)]) [] h2 (qV (fun h8 => zSh h8 ∧ Q (some (vI (-1))) h8)))) ∧ ((gI h2 343 16) = (-1009) → (wpN G (d - 1) M_X11_named 0 (zar 0 [vR 343, vI z1, vI p1]) [] h2 (qI (fun z11 h12 => zSh h12 ∧ ((z11 < 0 → (wpN G (d - 1) M_X11_faults 0 (zar 0 [vR 343, vI (gI h12 343 18)]) [] h12 (qV (fun h17 => zSh h17 ∧ Q (some (vI z11)) h17)))) ∧ (0 ≤ z11 → (wpN G (d - 1) M_X11_readOf 0 (zar 0 [vR 343, vI z11, vI 0]) [] h12 (qI (fun z20 h21 => zSh h21 ∧ ((z20 ≠ 0 → (wpN G (d - 1) M_X11_faults 0 (zar 0 [vR 343, vI (gI h21 343 18)]) [] h21 (qV (fun h26 => zSh h26 ∧ Q (some (vI z11)) h26)))) ∧ (z20 = 0 → (wpN G (d - 1) M_X11_readOf 0 (zar 0 [vR 343, vI z11, vI 7]) [] h21 (qI (fun z29 h30 => zSh h30 ∧ ((z29 = 0 → Q (some (vI z11)) h30) ∧ (z29 ≠ 0 → (wpN G (d - 1) M_X11_faults 0 (zar 0 [vR 343, vI (gI h30 343 18)]) [] h30 (qV (fun h35 => zSh h35 ∧ Q (some (vI z11)) h35)))))))))))))))))))))))) : wpN G d M_X11_integerNamed 0 [(0, vR 343), (1, vI p1)] [] h Q := by
  refine wq_aload_n 0 rfl rfl dX11_integerNamed_0 ?_
  refine wN_V (As := []) vm_X11_name lk_X11_150 tT_343 rfl rfl (Nat.le_of_ble_eq_true rfl) (Nat.le_of_ble_eq_true rfl) (d' := d - 1) (by omega) dX11_integerNamed_1 hv (fun v9 h2 q3 => ?_)
  obtain ⟨z1, rfl, hS4, q3⟩ := q3
  refine wq_st (st' := [vI z1]) rfl ?_
  refine wq_istore_n (ls' := [(0, vR 343), (1, vI p1), (2, vI z1)]) rfl (by decide) rfl dX11_integerNamed_4 ?_
  refine wq_aload_n 0 rfl rfl dX11_integerNamed_5 ?_
  refine wq_getI fk_X11_108 tT_343 (fun _ _ _ => rfl) dX11_integerNamed_6 ?_
  refine wq_sipush (z := -1009) (zlit rfl) rfl dX11_integerNamed_9 ?_
  refine wq_icmp_ne 24 rfl dX11_integerNamed_12 (fun c5 => ?_) (fun c5 => ?_)
  · refine wq_iconst (z := -1) (zlit rfl) dX11_integerNamed_24 ?_
    refine wq_istore_n (ls' := [(0, vR 343), (1, vI p1), (2, vI z1), (3, vI (-1))]) rfl (by decide) rfl dX11_integerNamed_25 ?_
    refine wq_iload_n 3 rfl rfl dX11_integerNamed_26 ?_
    refine wq_if_lt 49 rfl dX11_integerNamed_27 (fun _ => ?_) (fun c6 => absurd c6 (by decide))
    refine wq_aload_n 0 rfl rfl dX11_integerNamed_49 ?_
    refine wq_aload_n 0 rfl rfl dX11_integerNamed_50 ?_
    refine wq_getI fk_X11_132 tT_343 (fun _ _ _ => rfl) dX11_integerNamed_51 ?_
    refine wN_V (As := [vI (gI h2 343 18)]) vm_X11_faults lk_X11_118 tT_343 rfl rfl (Nat.le_of_ble_eq_true rfl) (Nat.le_of_ble_eq_true rfl) (d' := d - 1) (by omega) dX11_integerNamed_54 (q3.1 c5) (fun v9 h8 q9 => ?_)
    obtain ⟨rfl, hS10, q9⟩ := q9
    refine wq_st (st' := []) rfl ?_
    refine wq_iload_n 3 rfl rfl dX11_integerNamed_57 ?_
    exact wp_iret rfl dX11_integerNamed_58 q9
  · refine wq_aload_n 0 rfl rfl dX11_integerNamed_15 ?_
    refine wq_iload_n 2 rfl rfl dX11_integerNamed_16 ?_
    refine wq_iload_n 1 rfl rfl dX11_integerNamed_17 ?_
    refine wN_V (As := [vI z1, vI p1]) vm_X11_named lk_X11_153 tT_343 rfl rfl (Nat.le_of_ble_eq_true rfl) (Nat.le_of_ble_eq_true rfl) (d' := d - 1) (by omega) dX11_integerNamed_18 (q3.2 c5) (fun v9 h12 q13 => ?_)
    obtain ⟨z11, rfl, hS14, q13⟩ := q13
    refine wq_st (st' := [vI z11]) rfl ?_
    refine wq_goto 25 rfl dX11_integerNamed_21 ?_
    refine wq_istore_n (ls' := [(0, vR 343), (1, vI p1), (2, vI z1), (3, vI z11)]) rfl (by decide) rfl dX11_integerNamed_25 ?_
    refine wq_iload_n 3 rfl rfl dX11_integerNamed_26 ?_
    refine wq_if_lt 49 rfl dX11_integerNamed_27 (fun c15 => ?_) (fun c15 => ?_)
    · refine wq_aload_n 0 rfl rfl dX11_integerNamed_49 ?_
      refine wq_aload_n 0 rfl rfl dX11_integerNamed_50 ?_
      refine wq_getI fk_X11_132 tT_343 (fun _ _ _ => rfl) dX11_integerNamed_51 ?_
      refine wN_V (As := [vI (gI h12 343 18)]) vm_X11_faults lk_X11_118 tT_343 rfl rfl (Nat.le_of_ble_eq_true rfl) (Nat.le_of_ble_eq_true rfl) (d' := d - 1) (by omega) dX11_integerNamed_54 (q13.1 c15) (fun v9 h17 q18 => ?_)
      obtain ⟨rfl, hS19, q18⟩ := q18
      refine wq_st (st' := []) rfl ?_
      refine wq_iload_n 3 rfl rfl dX11_integerNamed_57 ?_
      exact wp_iret rfl dX11_integerNamed_58 q18
    · refine wq_aload_n 0 rfl rfl dX11_integerNamed_30 ?_
      refine wq_iload_n 3 rfl rfl dX11_integerNamed_31 ?_
      refine wq_iconst (z := 0) (zlit rfl) dX11_integerNamed_32 ?_
      refine wN_V (As := [vI z11, vI 0]) vm_X11_readOf lk_X11_143 tT_343 rfl rfl (Nat.le_of_ble_eq_true rfl) (Nat.le_of_ble_eq_true rfl) (d' := d - 1) (by omega) dX11_integerNamed_33 (q13.2 c15) (fun v9 h21 q22 => ?_)
      obtain ⟨z20, rfl, hS23, q22⟩ := q22
      refine wq_st (st' := [vI z20]) rfl ?_
      refine wq_if_ne 49 rfl dX11_integerNamed_36 (fun c24 => ?_) (fun c24 => ?_)
      · refine wq_aload_n 0 rfl rfl dX11_integerNamed_49 ?_
        refine wq_aload_n 0 rfl rfl dX11_integerNamed_50 ?_
        refine wq_getI fk_X11_132 tT_343 (fun _ _ _ => rfl) dX11_integerNamed_51 ?_
        refine wN_V (As := [vI (gI h21 343 18)]) vm_X11_faults lk_X11_118 tT_343 rfl rfl (Nat.le_of_ble_eq_true rfl) (Nat.le_of_ble_eq_true rfl) (d' := d - 1) (by omega) dX11_integerNamed_54 (q22.1 c24) (fun v9 h26 q27 => ?_)
        obtain ⟨rfl, hS28, q27⟩ := q27
        refine wq_st (st' := []) rfl ?_
        refine wq_iload_n 3 rfl rfl dX11_integerNamed_57 ?_
        exact wp_iret rfl dX11_integerNamed_58 q27
      · refine wq_aload_n 0 rfl rfl dX11_integerNamed_39 ?_
        refine wq_iload_n 3 rfl rfl dX11_integerNamed_40 ?_
        refine wq_bipush (z := 7) (zlit rfl) rfl dX11_integerNamed_41 ?_
        refine wN_V (As := [vI z11, vI 7]) vm_X11_readOf lk_X11_143 tT_343 rfl rfl (Nat.le_of_ble_eq_true rfl) (Nat.le_of_ble_eq_true rfl) (d' := d - 1) (by omega) dX11_integerNamed_43 (q22.2 c24) (fun v9 h30 q31 => ?_)
        obtain ⟨z29, rfl, hS32, q31⟩ := q31
        refine wq_st (st' := [vI z29]) rfl ?_
        refine wq_if_eq 57 rfl dX11_integerNamed_46 (fun c33 => ?_) (fun c33 => ?_)
        · refine wq_iload_n 3 rfl rfl dX11_integerNamed_57 ?_
          exact wp_iret rfl dX11_integerNamed_58 (q31.1 c33)
        · refine wq_aload_n 0 rfl rfl dX11_integerNamed_49 ?_
          refine wq_aload_n 0 rfl rfl dX11_integerNamed_50 ?_
          refine wq_getI fk_X11_132 tT_343 (fun _ _ _ => rfl) dX11_integerNamed_51 ?_
          refine wN_V (As := [vI (gI h30 343 18)]) vm_X11_faults lk_X11_118 tT_343 rfl rfl (Nat.le_of_ble_eq_true rfl) (Nat.le_of_ble_eq_true rfl) (d' := d - 1) (by omega) dX11_integerNamed_54 (q31.2 c33) (fun v9 h35 q36 => ?_)
          obtain ⟨rfl, hS37, q36⟩ := q36
          refine wq_st (st' := []) rfl ?_
          refine wq_iload_n 3 rfl rfl dX11_integerNamed_57 ?_
          exact wp_iret rfl dX11_integerNamed_58 q36
theorem dX11_readsCount_0 : decode cX11_readsCount 0 = .ok (.aload_n 0, 1) := by decide +kernel
theorem dX11_readsCount_1 : decode cX11_readsCount 1 = .ok (.bipush 42, 2) := by decide +kernel
theorem dX11_readsCount_3 : decode cX11_readsCount 3 = .ok (.invokevirtual 114, 3) := by decide +kernel
theorem dX11_readsCount_6 : decode cX11_readsCount 6 = .ok (.ifCond .ne 4, 3) := by decide +kernel
theorem dX11_readsCount_9 : decode cX11_readsCount 9 = .ok (.return_, 1) := by decide +kernel
theorem dX11_readsCount_10 : decode cX11_readsCount 10 = .ok (.aload_n 0, 1) := by decide +kernel
theorem dX11_readsCount_11 : decode cX11_readsCount 11 = .ok (.invokevirtual 104, 3) := by decide +kernel
theorem dX11_readsCount_14 : decode cX11_readsCount 14 = .ok (.i2l, 1) := by decide +kernel
theorem dX11_readsCount_15 : decode cX11_readsCount 15 = .ok (.ldc2_w 125, 3) := by decide +kernel
theorem dX11_readsCount_18 : decode cX11_readsCount 18 = .ok (.ldc2_w 127, 3) := by decide +kernel
theorem dX11_readsCount_21 : decode cX11_readsCount 21 = .ok (.invokestatic 91, 3) := by decide +kernel
theorem dX11_readsCount_24 : decode cX11_readsCount 24 = .ok (.istore_n 2, 1) := by decide +kernel
theorem dX11_readsCount_25 : decode cX11_readsCount 25 = .ok (.iload_n 2, 1) := by decide +kernel
theorem dX11_readsCount_26 : decode cX11_readsCount 26 = .ok (.ifCond .eq 10, 3) := by decide +kernel
theorem dX11_readsCount_29 : decode cX11_readsCount 29 = .ok (.aload_n 0, 1) := by decide +kernel
theorem dX11_readsCount_30 : decode cX11_readsCount 30 = .ok (.invokevirtual 156, 3) := by decide +kernel
theorem dX11_readsCount_33 : decode cX11_readsCount 33 = .ok (.goto 8, 3) := by decide +kernel
theorem dX11_readsCount_36 : decode cX11_readsCount 36 = .ok (.aload_n 0, 1) := by decide +kernel
theorem dX11_readsCount_37 : decode cX11_readsCount 37 = .ok (.iload_n 1, 1) := by decide +kernel
theorem dX11_readsCount_38 : decode cX11_readsCount 38 = .ok (.invokevirtual 159, 3) := by decide +kernel
theorem dX11_readsCount_41 : decode cX11_readsCount 41 = .ok (.istore_n 3, 1) := by decide +kernel
theorem dX11_readsCount_42 : decode cX11_readsCount 42 = .ok (.aload_n 0, 1) := by decide +kernel
theorem dX11_readsCount_43 : decode cX11_readsCount 43 = .ok (.iload_n 1, 1) := by decide +kernel
theorem dX11_readsCount_44 : decode cX11_readsCount 44 = .ok (.bipush 7, 2) := by decide +kernel
theorem dX11_readsCount_46 : decode cX11_readsCount 46 = .ok (.iload_n 2, 1) := by decide +kernel
theorem dX11_readsCount_47 : decode cX11_readsCount 47 = .ok (.ifCond .eq 7, 3) := by decide +kernel
theorem dX11_readsCount_50 : decode cX11_readsCount 50 = .ok (.iconst 1, 1) := by decide +kernel
theorem dX11_readsCount_51 : decode cX11_readsCount 51 = .ok (.goto 4, 3) := by decide +kernel
theorem dX11_readsCount_54 : decode cX11_readsCount 54 = .ok (.iconst 2, 1) := by decide +kernel
theorem dX11_readsCount_55 : decode cX11_readsCount 55 = .ok (.invokevirtual 163, 3) := by decide +kernel
theorem dX11_readsCount_58 : decode cX11_readsCount 58 = .ok (.aload_n 0, 1) := by decide +kernel
theorem dX11_readsCount_59 : decode cX11_readsCount 59 = .ok (.iload_n 1, 1) := by decide +kernel
theorem dX11_readsCount_60 : decode cX11_readsCount 60 = .ok (.bipush 8, 2) := by decide +kernel
theorem dX11_readsCount_62 : decode cX11_readsCount 62 = .ok (.iload_n 3, 1) := by decide +kernel
theorem dX11_readsCount_63 : decode cX11_readsCount 63 = .ok (.invokevirtual 163, 3) := by decide +kernel
theorem dX11_readsCount_66 : decode cX11_readsCount 66 = .ok (.return_, 1) := by decide +kernel
theorem vc_X11_readsCount_0 {G : zG} {d : Nat} {Q : Option zV → zHp → Prop} (p1 : Int) (h : zHp) (hS : zSh h) (hd : 5 ≤ d)  
    (hv : (wpN G (d - 1) M_X11_takes 0 (zar 0 [vR 343, vI 42]) [] h (qI (fun z1 h2 => zSh h2 ∧ ((z1 ≠ 0 → (wpN G (d - 1) M_X11_next 0 (zar 0 [vR 343]) [] h2 (qI (fun z6 h7 => zSh h7 ∧ (wpN G (d - 1) M_X11_in 0 (zar 0 [vL z6, vL 48, vL 57]) [] h7 (qI (fun z10 h11 => zSh h11 ∧ ((z10 = 0 → (wpN G (d - 1) M_X11_integerNamed 0 (zar 0 [vR 343, vI p1]) [] h11 (qI (fun z15 h16 => zSh h16 ∧ ((z10 = 0 → (wpN G (d - 1) M_X11_writes 0 (zar 0 [vR 343, vI p1, vI 7, vI 2]) [] h16 (qV (fun h21 => zSh h21 ∧ (wpN G (d - 1) M_X11_writes 0 (zar 0 [vR 343, vI p1, vI 8, vI z15]) [] h21 (qV (fun h25 => zSh h25 ∧ Q none h25))))))) ∧ (z10 ≠ 0 → (wpN G (d - 1) M_X11_writes 0 (zar 0 [vR 343, vI p1, vI 7, vI 1]) [] h16 (qV (fun h29 => zSh h29 ∧ (wpN G (d - 1) M_X11_writes 0 (zar 0 [vR 343, vI p1, vI 8, vI z15]) [] h29 (qV (fun h33 => zSh h33 ∧ Q none h33)))))))))))) ∧ (z10 ≠ 0 → (wpN G (d - 1) M_X11_number 0 (zar 0 [vR 343]) [] h11 (qI (fun z36 h37 => zSh h37 ∧ ((z10 = 0 → (wpN G (d - 1) M_X11_writes 0 (zar 0 [vR 343, vI p1, vI 7, vI 2]) [] h37 (qV (fun h42 => zSh h42 ∧ (wpN G (d - 1) M_X11_writes 0 (zar 0 [vR 343, vI p1, vI 8, vI z36]) [] h42 (qV (fun h46 => zSh h46 ∧ Q none h46))))))) ∧ (z10 ≠ 0 → (wpN G (d - 1) M_X11_writes 0 (zar 0 [vR 343, vI p1, vI 7, vI 1]) [] h37 (qV (fun h50 => zSh h50 ∧ (wpN G (d - 1) M_X11_writes 0 (zar 0 [vR 343, vI p1, vI 8, vI z36]) [] h50 (qV (fun h54 => zSh h54 ∧ Q none h54)))))))))))))))))))) ∧ (z1 = 0 → Q none h2)))))) : wpN G d M_X11_readsCount 0 [(0, vR 343), (1, vI p1)] [] h Q := by
  refine wq_aload_n 0 rfl rfl dX11_readsCount_0 ?_
  refine wq_bipush (z := 42) (zlit rfl) rfl dX11_readsCount_1 ?_
  refine wN_V (As := [vI 42]) vm_X11_takes lk_X11_114 tT_343 rfl rfl (Nat.le_of_ble_eq_true rfl) (Nat.le_of_ble_eq_true rfl) (d' := d - 1) (by omega) dX11_readsCount_3 hv (fun v9 h2 q3 => ?_)
  obtain ⟨z1, rfl, hS4, q3⟩ := q3
  refine wq_st (st' := [vI z1]) rfl ?_
  refine wq_if_ne 10 rfl dX11_readsCount_6 (fun c5 => ?_) (fun c5 => ?_)
  · refine wq_aload_n 0 rfl rfl dX11_readsCount_10 ?_
    refine wN_V (As := []) vm_X11_next lk_X11_104 tT_343 rfl rfl (Nat.le_of_ble_eq_true rfl) (Nat.le_of_ble_eq_true rfl) (d' := d - 1) (by omega) dX11_readsCount_11 (q3.1 c5) (fun v9 h7 q8 => ?_)
    obtain ⟨z6, rfl, hS9, q8⟩ := q8
    refine wq_st (st' := [vI z6]) rfl ?_
    refine wq_i2l dX11_readsCount_14 ?_
    refine wq_ldc2_w (z := 48) (zlitL rfl) kc_X11_125 dX11_readsCount_15 ?_
    refine wq_ldc2_w (z := 57) (zlitL rfl) kc_X11_127 dX11_readsCount_18 ?_
    refine wN_S (As := [vL z6, vL 48, vL 57]) md_X11_in ms_X11_in lk_X11_91 rfl rfl (Nat.le_of_ble_eq_true rfl) (Nat.le_of_ble_eq_true rfl) (d' := d - 1) (by omega) dX11_readsCount_21 q8 (fun v9 h11 q12 => ?_)
    obtain ⟨z10, rfl, hS13, q12⟩ := q12
    refine wq_st (st' := [vI z10]) rfl ?_
    refine wq_istore_n (ls' := [(0, vR 343), (1, vI p1), (2, vI z10)]) rfl (by decide) rfl dX11_readsCount_24 ?_
    refine wq_iload_n 2 rfl rfl dX11_readsCount_25 ?_
    refine wq_if_eq 36 rfl dX11_readsCount_26 (fun c14 => ?_) (fun c14 => ?_)
    · refine wq_aload_n 0 rfl rfl dX11_readsCount_36 ?_
      refine wq_iload_n 1 rfl rfl dX11_readsCount_37 ?_
      refine wN_V (As := [vI p1]) vm_X11_integerNamed lk_X11_159 tT_343 rfl rfl (Nat.le_of_ble_eq_true rfl) (Nat.le_of_ble_eq_true rfl) (d' := d - 1) (by omega) dX11_readsCount_38 (q12.1 c14) (fun v9 h16 q17 => ?_)
      obtain ⟨z15, rfl, hS18, q17⟩ := q17
      refine wq_st (st' := [vI z15]) rfl ?_
      refine wq_istore_n (ls' := [(0, vR 343), (1, vI p1), (2, vI z10), (3, vI z15)]) rfl (by decide) rfl dX11_readsCount_41 ?_
      refine wq_aload_n 0 rfl rfl dX11_readsCount_42 ?_
      refine wq_iload_n 1 rfl rfl dX11_readsCount_43 ?_
      refine wq_bipush (z := 7) (zlit rfl) rfl dX11_readsCount_44 ?_
      refine wq_iload_n 2 rfl rfl dX11_readsCount_46 ?_
      refine wq_if_eq 54 rfl dX11_readsCount_47 (fun c19 => ?_) (fun c19 => ?_)
      · refine wq_iconst (z := 2) (zlit rfl) dX11_readsCount_54 ?_
        refine wN_V (As := [vI p1, vI 7, vI 2]) vm_X11_writes lk_X11_163 tT_343 rfl rfl (Nat.le_of_ble_eq_true rfl) (Nat.le_of_ble_eq_true rfl) (d' := d - 1) (by omega) dX11_readsCount_55 (q17.1 c19) (fun v9 h21 q22 => ?_)
        obtain ⟨rfl, hS23, q22⟩ := q22
        refine wq_st (st' := []) rfl ?_
        refine wq_aload_n 0 rfl rfl dX11_readsCount_58 ?_
        refine wq_iload_n 1 rfl rfl dX11_readsCount_59 ?_
        refine wq_bipush (z := 8) (zlit rfl) rfl dX11_readsCount_60 ?_
        refine wq_iload_n 3 rfl rfl dX11_readsCount_62 ?_
        refine wN_V (As := [vI p1, vI 8, vI z15]) vm_X11_writes lk_X11_163 tT_343 rfl rfl (Nat.le_of_ble_eq_true rfl) (Nat.le_of_ble_eq_true rfl) (d' := d - 1) (by omega) dX11_readsCount_63 q22 (fun v9 h25 q26 => ?_)
        obtain ⟨rfl, hS27, q26⟩ := q26
        refine wq_st (st' := []) rfl ?_
        exact wp_vret rfl dX11_readsCount_66 q26
      · refine wq_iconst (z := 1) (zlit rfl) dX11_readsCount_50 ?_
        refine wq_goto 55 rfl dX11_readsCount_51 ?_
        refine wN_V (As := [vI p1, vI 7, vI 1]) vm_X11_writes lk_X11_163 tT_343 rfl rfl (Nat.le_of_ble_eq_true rfl) (Nat.le_of_ble_eq_true rfl) (d' := d - 1) (by omega) dX11_readsCount_55 (q17.2 c19) (fun v9 h29 q30 => ?_)
        obtain ⟨rfl, hS31, q30⟩ := q30
        refine wq_st (st' := []) rfl ?_
        refine wq_aload_n 0 rfl rfl dX11_readsCount_58 ?_
        refine wq_iload_n 1 rfl rfl dX11_readsCount_59 ?_
        refine wq_bipush (z := 8) (zlit rfl) rfl dX11_readsCount_60 ?_
        refine wq_iload_n 3 rfl rfl dX11_readsCount_62 ?_
        refine wN_V (As := [vI p1, vI 8, vI z15]) vm_X11_writes lk_X11_163 tT_343 rfl rfl (Nat.le_of_ble_eq_true rfl) (Nat.le_of_ble_eq_true rfl) (d' := d - 1) (by omega) dX11_readsCount_63 q30 (fun v9 h33 q34 => ?_)
        obtain ⟨rfl, hS35, q34⟩ := q34
        refine wq_st (st' := []) rfl ?_
        exact wp_vret rfl dX11_readsCount_66 q34
    · refine wq_aload_n 0 rfl rfl dX11_readsCount_29 ?_
      refine wN_V (As := []) vm_X11_number lk_X11_156 tT_343 rfl rfl (Nat.le_of_ble_eq_true rfl) (Nat.le_of_ble_eq_true rfl) (d' := d - 1) (by omega) dX11_readsCount_30 (q12.2 c14) (fun v9 h37 q38 => ?_)
      obtain ⟨z36, rfl, hS39, q38⟩ := q38
      refine wq_st (st' := [vI z36]) rfl ?_
      refine wq_goto 41 rfl dX11_readsCount_33 ?_
      refine wq_istore_n (ls' := [(0, vR 343), (1, vI p1), (2, vI z10), (3, vI z36)]) rfl (by decide) rfl dX11_readsCount_41 ?_
      refine wq_aload_n 0 rfl rfl dX11_readsCount_42 ?_
      refine wq_iload_n 1 rfl rfl dX11_readsCount_43 ?_
      refine wq_bipush (z := 7) (zlit rfl) rfl dX11_readsCount_44 ?_
      refine wq_iload_n 2 rfl rfl dX11_readsCount_46 ?_
      refine wq_if_eq 54 rfl dX11_readsCount_47 (fun c40 => ?_) (fun c40 => ?_)
      · refine wq_iconst (z := 2) (zlit rfl) dX11_readsCount_54 ?_
        refine wN_V (As := [vI p1, vI 7, vI 2]) vm_X11_writes lk_X11_163 tT_343 rfl rfl (Nat.le_of_ble_eq_true rfl) (Nat.le_of_ble_eq_true rfl) (d' := d - 1) (by omega) dX11_readsCount_55 (q38.1 c40) (fun v9 h42 q43 => ?_)
        obtain ⟨rfl, hS44, q43⟩ := q43
        refine wq_st (st' := []) rfl ?_
        refine wq_aload_n 0 rfl rfl dX11_readsCount_58 ?_
        refine wq_iload_n 1 rfl rfl dX11_readsCount_59 ?_
        refine wq_bipush (z := 8) (zlit rfl) rfl dX11_readsCount_60 ?_
        refine wq_iload_n 3 rfl rfl dX11_readsCount_62 ?_
        refine wN_V (As := [vI p1, vI 8, vI z36]) vm_X11_writes lk_X11_163 tT_343 rfl rfl (Nat.le_of_ble_eq_true rfl) (Nat.le_of_ble_eq_true rfl) (d' := d - 1) (by omega) dX11_readsCount_63 q43 (fun v9 h46 q47 => ?_)
        obtain ⟨rfl, hS48, q47⟩ := q47
        refine wq_st (st' := []) rfl ?_
        exact wp_vret rfl dX11_readsCount_66 q47
      · refine wq_iconst (z := 1) (zlit rfl) dX11_readsCount_50 ?_
        refine wq_goto 55 rfl dX11_readsCount_51 ?_
        refine wN_V (As := [vI p1, vI 7, vI 1]) vm_X11_writes lk_X11_163 tT_343 rfl rfl (Nat.le_of_ble_eq_true rfl) (Nat.le_of_ble_eq_true rfl) (d' := d - 1) (by omega) dX11_readsCount_55 (q38.2 c40) (fun v9 h50 q51 => ?_)
        obtain ⟨rfl, hS52, q51⟩ := q51
        refine wq_st (st' := []) rfl ?_
        refine wq_aload_n 0 rfl rfl dX11_readsCount_58 ?_
        refine wq_iload_n 1 rfl rfl dX11_readsCount_59 ?_
        refine wq_bipush (z := 8) (zlit rfl) rfl dX11_readsCount_60 ?_
        refine wq_iload_n 3 rfl rfl dX11_readsCount_62 ?_
        refine wN_V (As := [vI p1, vI 8, vI z36]) vm_X11_writes lk_X11_163 tT_343 rfl rfl (Nat.le_of_ble_eq_true rfl) (Nat.le_of_ble_eq_true rfl) (d' := d - 1) (by omega) dX11_readsCount_63 q51 (fun v9 h54 q55 => ?_)
        obtain ⟨rfl, hS56, q55⟩ := q55
        refine wq_st (st' := []) rfl ?_
        exact wp_vret rfl dX11_readsCount_66 q55
  · exact wp_vret rfl dX11_readsCount_9 (q3.2 c5)
theorem dX11_siblingNamed_0 : decode cX11_siblingNamed 0 = .ok (.aload_n 0, 1) := by decide +kernel
theorem dX11_siblingNamed_1 : decode cX11_siblingNamed 1 = .ok (.invokevirtual 150, 3) := by decide +kernel
theorem dX11_siblingNamed_4 : decode cX11_siblingNamed 4 = .ok (.istore_n 2, 1) := by decide +kernel
theorem dX11_siblingNamed_5 : decode cX11_siblingNamed 5 = .ok (.aload_n 0, 1) := by decide +kernel
theorem dX11_siblingNamed_6 : decode cX11_siblingNamed 6 = .ok (.getfield 108, 3) := by decide +kernel
theorem dX11_siblingNamed_9 : decode cX11_siblingNamed 9 = .ok (.sipush (-1009), 3) := by decide +kernel
theorem dX11_siblingNamed_12 : decode cX11_siblingNamed 12 = .ok (.if_icmp .ne 19, 3) := by decide +kernel
theorem dX11_siblingNamed_15 : decode cX11_siblingNamed 15 = .ok (.aload_n 0, 1) := by decide +kernel
theorem dX11_siblingNamed_16 : decode cX11_siblingNamed 16 = .ok (.iload_n 2, 1) := by decide +kernel
theorem dX11_siblingNamed_17 : decode cX11_siblingNamed 17 = .ok (.aload_n 0, 1) := by decide +kernel
theorem dX11_siblingNamed_18 : decode cX11_siblingNamed 18 = .ok (.iload_n 1, 1) := by decide +kernel
theorem dX11_siblingNamed_19 : decode cX11_siblingNamed 19 = .ok (.bipush 13, 2) := by decide +kernel
theorem dX11_siblingNamed_21 : decode cX11_siblingNamed 21 = .ok (.invokevirtual 143, 3) := by decide +kernel
theorem dX11_siblingNamed_24 : decode cX11_siblingNamed 24 = .ok (.iload_n 1, 1) := by decide +kernel
theorem dX11_siblingNamed_25 : decode cX11_siblingNamed 25 = .ok (.invokevirtual 147, 3) := by decide +kernel
theorem dX11_siblingNamed_28 : decode cX11_siblingNamed 28 = .ok (.goto 4, 3) := by decide +kernel
theorem dX11_siblingNamed_31 : decode cX11_siblingNamed 31 = .ok (.iconst (-1), 1) := by decide +kernel
theorem dX11_siblingNamed_32 : decode cX11_siblingNamed 32 = .ok (.istore_n 3, 1) := by decide +kernel
theorem dX11_siblingNamed_33 : decode cX11_siblingNamed 33 = .ok (.iload_n 3, 1) := by decide +kernel
theorem dX11_siblingNamed_34 : decode cX11_siblingNamed 34 = .ok (.ifCond .ge 11, 3) := by decide +kernel
theorem dX11_siblingNamed_37 : decode cX11_siblingNamed 37 = .ok (.aload_n 0, 1) := by decide +kernel
theorem dX11_siblingNamed_38 : decode cX11_siblingNamed 38 = .ok (.aload_n 0, 1) := by decide +kernel
theorem dX11_siblingNamed_39 : decode cX11_siblingNamed 39 = .ok (.getfield 132, 3) := by decide +kernel
theorem dX11_siblingNamed_42 : decode cX11_siblingNamed 42 = .ok (.invokevirtual 118, 3) := by decide +kernel
theorem dX11_siblingNamed_45 : decode cX11_siblingNamed 45 = .ok (.iload_n 3, 1) := by decide +kernel
theorem dX11_siblingNamed_46 : decode cX11_siblingNamed 46 = .ok (.ireturn, 1) := by decide +kernel
theorem vc_X11_siblingNamed_0 {G : zG} {d : Nat} {Q : Option zV → zHp → Prop} (p1 : Int) (h : zHp) (hS : zSh h) (hd : 3 ≤ d)  
    (hv : (wpN G (d - 1) M_X11_name 0 (zar 0 [vR 343]) [] h (qI (fun z1 h2 => zSh h2 ∧ (((gI h2 343 16) ≠ (-1009) → (wpN G (d - 1) M_X11_faults 0 (zar 0 [vR 343, vI (gI h2 343 18)]) [] h2 (qV (fun h8 => zSh h8 ∧ Q (some (vI (-1))) h8)))) ∧ ((gI h2 343 16) = (-1009) → (wpN G (d - 1) M_X11_readOf 0 (zar 0 [vR 343, vI p1, vI 13]) [] h2 (qI (fun z11 h12 => zSh h12 ∧ (wpN G (d - 1) M_X11_inBlock 0 (zar 0 [vR 343, vI z1, vI z11, vI p1]) [] h12 (qI (fun z15 h16 => zSh h16 ∧ ((0 ≤ z15 → Q (some (vI z15)) h16) ∧ (z15 < 0 → (wpN G (d - 1) M_X11_faults 0 (zar 0 [vR 343, vI (gI h16 343 18)]) [] h16 (qV (fun h21 => zSh h21 ∧ Q (some (vI z15)) h21))))))))))))))))) : wpN G d M_X11_siblingNamed 0 [(0, vR 343), (1, vI p1)] [] h Q := by
  refine wq_aload_n 0 rfl rfl dX11_siblingNamed_0 ?_
  refine wN_V (As := []) vm_X11_name lk_X11_150 tT_343 rfl rfl (Nat.le_of_ble_eq_true rfl) (Nat.le_of_ble_eq_true rfl) (d' := d - 1) (by omega) dX11_siblingNamed_1 hv (fun v9 h2 q3 => ?_)
  obtain ⟨z1, rfl, hS4, q3⟩ := q3
  refine wq_st (st' := [vI z1]) rfl ?_
  refine wq_istore_n (ls' := [(0, vR 343), (1, vI p1), (2, vI z1)]) rfl (by decide) rfl dX11_siblingNamed_4 ?_
  refine wq_aload_n 0 rfl rfl dX11_siblingNamed_5 ?_
  refine wq_getI fk_X11_108 tT_343 (fun _ _ _ => rfl) dX11_siblingNamed_6 ?_
  refine wq_sipush (z := -1009) (zlit rfl) rfl dX11_siblingNamed_9 ?_
  refine wq_icmp_ne 31 rfl dX11_siblingNamed_12 (fun c5 => ?_) (fun c5 => ?_)
  · refine wq_iconst (z := -1) (zlit rfl) dX11_siblingNamed_31 ?_
    refine wq_istore_n (ls' := [(0, vR 343), (1, vI p1), (2, vI z1), (3, vI (-1))]) rfl (by decide) rfl dX11_siblingNamed_32 ?_
    refine wq_iload_n 3 rfl rfl dX11_siblingNamed_33 ?_
    refine wq_if_ge 45 rfl dX11_siblingNamed_34 (fun c6 => absurd c6 (by decide)) (fun _ => ?_)
    refine wq_aload_n 0 rfl rfl dX11_siblingNamed_37 ?_
    refine wq_aload_n 0 rfl rfl dX11_siblingNamed_38 ?_
    refine wq_getI fk_X11_132 tT_343 (fun _ _ _ => rfl) dX11_siblingNamed_39 ?_
    refine wN_V (As := [vI (gI h2 343 18)]) vm_X11_faults lk_X11_118 tT_343 rfl rfl (Nat.le_of_ble_eq_true rfl) (Nat.le_of_ble_eq_true rfl) (d' := d - 1) (by omega) dX11_siblingNamed_42 (q3.1 c5) (fun v9 h8 q9 => ?_)
    obtain ⟨rfl, hS10, q9⟩ := q9
    refine wq_st (st' := []) rfl ?_
    refine wq_iload_n 3 rfl rfl dX11_siblingNamed_45 ?_
    exact wp_iret rfl dX11_siblingNamed_46 q9
  · refine wq_aload_n 0 rfl rfl dX11_siblingNamed_15 ?_
    refine wq_iload_n 2 rfl rfl dX11_siblingNamed_16 ?_
    refine wq_aload_n 0 rfl rfl dX11_siblingNamed_17 ?_
    refine wq_iload_n 1 rfl rfl dX11_siblingNamed_18 ?_
    refine wq_bipush (z := 13) (zlit rfl) rfl dX11_siblingNamed_19 ?_
    refine wN_V (As := [vI p1, vI 13]) vm_X11_readOf lk_X11_143 tT_343 rfl rfl (Nat.le_of_ble_eq_true rfl) (Nat.le_of_ble_eq_true rfl) (d' := d - 1) (by omega) dX11_siblingNamed_21 (q3.2 c5) (fun v9 h12 q13 => ?_)
    obtain ⟨z11, rfl, hS14, q13⟩ := q13
    refine wq_st (st' := [vI z11, vI z1, vR 343]) rfl ?_
    refine wq_iload_n 1 rfl rfl dX11_siblingNamed_24 ?_
    refine wN_V (As := [vI z1, vI z11, vI p1]) vm_X11_inBlock lk_X11_147 tT_343 rfl rfl (Nat.le_of_ble_eq_true rfl) (Nat.le_of_ble_eq_true rfl) (d' := d - 1) (by omega) dX11_siblingNamed_25 q13 (fun v9 h16 q17 => ?_)
    obtain ⟨z15, rfl, hS18, q17⟩ := q17
    refine wq_st (st' := [vI z15]) rfl ?_
    refine wq_goto 32 rfl dX11_siblingNamed_28 ?_
    refine wq_istore_n (ls' := [(0, vR 343), (1, vI p1), (2, vI z1), (3, vI z15)]) rfl (by decide) rfl dX11_siblingNamed_32 ?_
    refine wq_iload_n 3 rfl rfl dX11_siblingNamed_33 ?_
    refine wq_if_ge 45 rfl dX11_siblingNamed_34 (fun c19 => ?_) (fun c19 => ?_)
    · refine wq_iload_n 3 rfl rfl dX11_siblingNamed_45 ?_
      exact wp_iret rfl dX11_siblingNamed_46 (q17.1 c19)
    · refine wq_aload_n 0 rfl rfl dX11_siblingNamed_37 ?_
      refine wq_aload_n 0 rfl rfl dX11_siblingNamed_38 ?_
      refine wq_getI fk_X11_132 tT_343 (fun _ _ _ => rfl) dX11_siblingNamed_39 ?_
      refine wN_V (As := [vI (gI h16 343 18)]) vm_X11_faults lk_X11_118 tT_343 rfl rfl (Nat.le_of_ble_eq_true rfl) (Nat.le_of_ble_eq_true rfl) (d' := d - 1) (by omega) dX11_siblingNamed_42 (q17.2 c19) (fun v9 h21 q22 => ?_)
      obtain ⟨rfl, hS23, q22⟩ := q22
      refine wq_st (st' := []) rfl ?_
      refine wq_iload_n 3 rfl rfl dX11_siblingNamed_45 ?_
      exact wp_iret rfl dX11_siblingNamed_46 q22
