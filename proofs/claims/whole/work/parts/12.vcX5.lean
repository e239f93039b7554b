theorem dX5_reset_0 : decode cX5_reset 0 = .ok (.aload_n 0, 1) := by decide +kernel
theorem dX5_reset_1 : decode cX5_reset 1 = .ok (.bipush 6, 2) := by decide +kernel
theorem dX5_reset_3 : decode cX5_reset 3 = .ok (.putfield 9, 3) := by decide +kernel
theorem dX5_reset_6 : decode cX5_reset 6 = .ok (.aload_n 0, 1) := by decide +kernel
theorem dX5_reset_7 : decode cX5_reset 7 = .ok (.iconst (-1), 1) := by decide +kernel
theorem dX5_reset_8 : decode cX5_reset 8 = .ok (.putfield 13, 3) := by decide +kernel
theorem dX5_reset_11 : decode cX5_reset 11 = .ok (.aload_n 0, 1) := by decide +kernel
theorem dX5_reset_12 : decode cX5_reset 12 = .ok (.iconst 0, 1) := by decide +kernel
theorem dX5_reset_13 : decode cX5_reset 13 = .ok (.putfield 16, 3) := by decide +kernel
theorem dX5_reset_16 : decode cX5_reset 16 = .ok (.aload_n 0, 1) := by decide +kernel
theorem dX5_reset_17 : decode cX5_reset 17 = .ok (.iconst 0, 1) := by decide +kernel
theorem dX5_reset_18 : decode cX5_reset 18 = .ok (.putfield 19, 3) := by decide +kernel
theorem dX5_reset_21 : decode cX5_reset 21 = .ok (.aload_n 0, 1) := by decide +kernel
theorem dX5_reset_22 : decode cX5_reset 22 = .ok (.iload_n 1, 1) := by decide +kernel
theorem dX5_reset_23 : decode cX5_reset 23 = .ok (.putfield 23, 3) := by decide +kernel
theorem dX5_reset_26 : decode cX5_reset 26 = .ok (.aload_n 0, 1) := by decide +kernel
theorem dX5_reset_27 : decode cX5_reset 27 = .ok (.iconst (-1), 1) := by decide +kernel
theorem dX5_reset_28 : decode cX5_reset 28 = .ok (.putfield 26, 3) := by decide +kernel
theorem dX5_reset_31 : decode cX5_reset 31 = .ok (.aload_n 0, 1) := by decide +kernel
theorem dX5_reset_32 : decode cX5_reset 32 = .ok (.iconst 0, 1) := by decide +kernel
theorem dX5_reset_33 : decode cX5_reset 33 = .ok (.putfield 29, 3) := by decide +kernel
theorem dX5_reset_36 : decode cX5_reset 36 = .ok (.aload_n 0, 1) := by decide +kernel
theorem dX5_reset_37 : decode cX5_reset 37 = .ok (.iconst 0, 1) := by decide +kernel
theorem dX5_reset_38 : decode cX5_reset 38 = .ok (.putfield 32, 3) := by decide +kernel
theorem dX5_reset_41 : decode cX5_reset 41 = .ok (.aload_n 0, 1) := by decide +kernel
theorem dX5_reset_42 : decode cX5_reset 42 = .ok (.iconst (-1), 1) := by decide +kernel
theorem dX5_reset_43 : decode cX5_reset 43 = .ok (.putfield 35, 3) := by decide +kernel
theorem dX5_reset_46 : decode cX5_reset 46 = .ok (.aload_n 0, 1) := by decide +kernel
theorem dX5_reset_47 : decode cX5_reset 47 = .ok (.iconst 0, 1) := by decide +kernel
theorem dX5_reset_48 : decode cX5_reset 48 = .ok (.putfield 38, 3) := by decide +kernel
theorem dX5_reset_51 : decode cX5_reset 51 = .ok (.aload_n 0, 1) := by decide +kernel
theorem dX5_reset_52 : decode cX5_reset 52 = .ok (.iconst (-1), 1) := by decide +kernel
theorem dX5_reset_53 : decode cX5_reset 53 = .ok (.putfield 41, 3) := by decide +kernel
theorem dX5_reset_56 : decode cX5_reset 56 = .ok (.aload_n 0, 1) := by decide +kernel
theorem dX5_reset_57 : decode cX5_reset 57 = .ok (.iconst (-1), 1) := by decide +kernel
theorem dX5_reset_58 : decode cX5_reset 58 = .ok (.putfield 44, 3) := by decide +kernel
theorem dX5_reset_61 : decode cX5_reset 61 = .ok (.return_, 1) := by decide +kernel
theorem vc_X5_reset_0 {G : zG} {d : Nat} {Q : Option zV → zHp → Prop} (a : Nat) (hT_a : zT 369 a = (105, 13)) (p1 : Int) (h : zHp) (hS : zSh h) (hd : 0 ≤ d)  
    (hv : (∀ h1 : zHp, h1 = sI h a 0 6 → (∀ h3 : zHp, h3 = sI h1 a 1 (-1) → (∀ h5 : zHp, h5 = sI h3 a 2 0 → (∀ h7 : zHp, h7 = sI h5 a 3 0 → (∀ h9 : zHp, h9 = sI h7 a 4 p1 → (∀ h11 : zHp, h11 = sI h9 a 6 (-1) → (∀ h13 : zHp, h13 = sI h11 a 7 0 → (∀ h15 : zHp, h15 = sI h13 a 8 0 → (∀ h17 : zHp, h17 = sI h15 a 9 (-1) → (∀ h19 : zHp, h19 = sI h17 a 10 0 → (∀ h21 : zHp, h21 = sI h19 a 11 (-1) → (∀ h23 : zHp, h23 = sI h21 a 12 (-1) → Q none h23))))))))))))) : wpN G d M_X5_reset 0 [(0, vR a), (1, vI p1)] [] h Q := by
  refine wq_aload_n 0 rfl rfl dX5_reset_0 ?_
  refine wq_bipush (z := 6) (zlit rfl) rfl dX5_reset_1 ?_
  refine wq_putI fk_X5_9 hT_a rfl rfl dX5_reset_3 ?_
  refine wq_toph (fun h1 e2 => ?_)
  have sh1 : zSh h1 := zSh_of e2 hS
  refine wq_aload_n 0 rfl rfl dX5_reset_6 ?_
  refine wq_iconst (z := -1) (zlit rfl) dX5_reset_7 ?_
  refine wq_putI fk_X5_13 hT_a rfl rfl dX5_reset_8 ?_
  refine wq_toph (fun h3 e4 => ?_)
  have sh3 : zSh h3 := zSh_of e4 sh1
  refine wq_aload_n 0 rfl rfl dX5_reset_11 ?_
  refine wq_iconst (z := 0) (zlit rfl) dX5_reset_12 ?_
  refine wq_putI fk_X5_16 hT_a rfl rfl dX5_reset_13 ?_
  refine wq_toph (fun h5 e6 => ?_)
  have sh5 : zSh h5 := zSh_of e6 sh3
  refine wq_aload_n 0 rfl rfl dX5_reset_16 ?_
  refine wq_iconst (z := 0) (zlit rfl) dX5_reset_17 ?_
  refine wq_putZ (Or.inl rfl) fk_X5_19 hT_a rfl rfl dX5_reset_18 ?_
  refine wq_toph (fun h7 e8 => ?_)
  have sh7 : zSh h7 := zSh_of e8 sh5
  refine wq_aload_n 0 rfl rfl dX5_reset_21 ?_
  refine wq_iload_n 1 rfl rfl dX5_reset_22 ?_
  refine wq_putI fk_X5_23 hT_a rfl rfl dX5_reset_23 ?_
  refine wq_toph (fun h9 e10 => ?_)
  have sh9 : zSh h9 := zSh_of e10 sh7
  refine wq_aload_n 0 rfl rfl dX5_reset_26 ?_
  refine wq_iconst (z := -1) (zlit rfl) dX5_reset_27 ?_
  refine wq_putI fk_X5_26 hT_a rfl rfl dX5_reset_28 ?_
  refine wq_toph (fun h11 e12 => ?_)
  have sh11 : zSh h11 := zSh_of e12 sh9
  refine wq_aload_n 0 rfl rfl dX5_reset_31 ?_
  refine wq_iconst (z := 0) (zlit rfl) dX5_reset_32 ?_
  refine wq_putI fk_X5_29 hT_a rfl rfl dX5_reset_33 ?_
  refine wq_toph (fun h13 e14 => ?_)
  have sh13 : zSh h13 := zSh_of e14 sh11
  refine wq_aload_n 0 rfl rfl dX5_reset_36 ?_
  refine wq_iconst (z := 0) (zlit rfl) dX5_reset_37 ?_
  refine wq_putZ (Or.inl rfl) fk_X5_32 hT_a rfl rfl dX5_reset_38 ?_
  refine wq_toph (fun h15 e16 => ?_)
  have sh15 : zSh h15 := zSh_of e16 sh13
  refine wq_aload_n 0 rfl rfl dX5_reset_41 ?_
  refine wq_iconst (z := -1) (zlit rfl) dX5_reset_42 ?_
  refine wq_putI fk_X5_35 hT_a rfl rfl dX5_reset_43 ?_
  refine wq_toph (fun h17 e18 => ?_)
  have sh17 : zSh h17 := zSh_of e18 sh15
  refine wq_aload_n 0 rfl rfl dX5_reset_46 ?_
  refine wq_iconst (z := 0) (zlit rfl) dX5_reset_47 ?_
  refine wq_putI fk_X5_38 hT_a rfl rfl dX5_reset_48 ?_
  refine wq_toph (fun h19 e20 => ?_)
  have sh19 : zSh h19 := zSh_of e20 sh17
  refine wq_aload_n 0 rfl rfl dX5_reset_51 ?_
  refine wq_iconst (z := -1) (zlit rfl) dX5_reset_52 ?_
  refine wq_putI fk_X5_41 hT_a rfl rfl dX5_reset_53 ?_
  refine wq_toph (fun h21 e22 => ?_)
  have sh21 : zSh h21 := zSh_of e22 sh19
  refine wq_aload_n 0 rfl rfl dX5_reset_56 ?_
  refine wq_iconst (z := -1) (zlit rfl) dX5_reset_57 ?_
  refine wq_putI fk_X5_44 hT_a rfl rfl dX5_reset_58 ?_
  refine wq_toph (fun h23 e24 => ?_)
  have sh23 : zSh h23 := zSh_of e24 sh21
  exact wp_vret rfl dX5_reset_61 ((((((((((((hv h1 e2) h3 e4) h5 e6) h7 e8) h9 e10) h11 e12) h13 e14) h15 e16) h17 e18) h19 e20) h21 e22) h23 e24)
theorem dX5_isPlainInteger_0 : decode cX5_isPlainInteger 0 = .ok (.aload_n 0, 1) := by decide +kernel
theorem dX5_isPlainInteger_1 : decode cX5_isPlainInteger 1 = .ok (.getfield 9, 3) := by decide +kernel
theorem dX5_isPlainInteger_4 : decode cX5_isPlainInteger 4 = .ok (.ifCond .eq 11, 3) := by decide +kernel
theorem dX5_isPlainInteger_7 : decode cX5_isPlainInteger 7 = .ok (.aload_n 0, 1) := by decide +kernel
theorem dX5_isPlainInteger_8 : decode cX5_isPlainInteger 8 = .ok (.getfield 9, 3) := by decide +kernel
theorem dX5_isPlainInteger_11 : decode cX5_isPlainInteger 11 = .ok (.iconst 1, 1) := by decide +kernel
theorem dX5_isPlainInteger_12 : decode cX5_isPlainInteger 12 = .ok (.if_icmp .ne 14, 3) := by decide +kernel
theorem dX5_isPlainInteger_15 : decode cX5_isPlainInteger 15 = .ok (.aload_n 0, 1) := by decide +kernel
theorem dX5_isPlainInteger_16 : decode cX5_isPlainInteger 16 = .ok (.getfield 32, 3) := by decide +kernel
theorem dX5_isPlainInteger_19 : decode cX5_isPlainInteger 19 = .ok (.ifCond .ne 7, 3) := by decide +kernel
theorem dX5_isPlainInteger_22 : decode cX5_isPlainInteger 22 = .ok (.iconst 1, 1) := by decide +kernel
theorem dX5_isPlainInteger_23 : decode cX5_isPlainInteger 23 = .ok (.goto 4, 3) := by decide +kernel
theorem dX5_isPlainInteger_26 : decode cX5_isPlainInteger 26 = .ok (.iconst 0, 1) := by decide +kernel
theorem dX5_isPlainInteger_27 : decode cX5_isPlainInteger 27 = .ok (.ireturn, 1) := by decide +kernel
theorem vc_X5_isPlainInteger_0 {G : zG} {d : Nat} {Q : Option zV → zHp → Prop} (a : Nat) (hT_a : zT 369 a = (105, 13)) (h : zHp) (hS : zSh h) (hd : 0 ≤ d)  
    (hv : (((gI h a 0) = 0 → (((gI h a 8) ≠ 0 → Q (some (vI 0)) h) ∧ ((gI h a 8) = 0 → Q (some (vI 1)) h))) ∧ ((gI h a 0) ≠ 0 → (((gI h a 0) ≠ 1 → Q (some (vI 0)) h) ∧ ((gI h a 0) = 1 → (((gI h a 8) ≠ 0 → Q (some (vI 0)) h) ∧ ((gI h a 8) = 0 → Q (some (vI 1)) h))))))) : wpN G d M_X5_isPlainInteger 0 [(0, vR a)] [] h Q := by
  refine wq_aload_n 0 rfl rfl dX5_isPlainInteger_0 ?_
  refine wq_getI fk_X5_9 hT_a (fun _ _ _ => rfl) dX5_isPlainInteger_1 ?_
  refine wq_if_eq 15 rfl dX5_isPlainInteger_4 (fun c1 => ?_) (fun c1 => ?_)
  · refine wq_aload_n 0 rfl rfl dX5_isPlainInteger_15 ?_
    refine wq_getI fk_X5_32 hT_a (fun _ _ _ => rfl) dX5_isPlainInteger_16 ?_
    refine wq_if_ne 26 rfl dX5_isPlainInteger_19 (fun c2 => ?_) (fun c2 => ?_)
    · refine wq_iconst (z := 0) (zlit rfl) dX5_isPlainInteger_26 ?_
      exact wp_zret (Or.inl rfl) rfl dX5_isPlainInteger_27 ((hv.1 c1).1 c2)
    · refine wq_iconst (z := 1) (zlit rfl) dX5_isPlainInteger_22 ?_
      refine wq_goto 27 rfl dX5_isPlainInteger_23 ?_
      exact wp_zret (Or.inr rfl) rfl dX5_isPlainInteger_27 ((hv.1 c1).2 c2)
  · refine wq_aload_n 0 rfl rfl dX5_isPlainInteger_7 ?_
    refine wq_getI fk_X5_9 hT_a (fun _ _ _ => rfl) dX5_isPlainInteger_8 ?_
    refine wq_iconst (z := 1) (zlit rfl) dX5_isPlainInteger_11 ?_
    refine wq_icmp_ne 26 rfl dX5_isPlainInteger_12 (fun c3 => ?_) (fun c3 => ?_)
    · refine wq_iconst (z := 0) (zlit rfl) dX5_isPlainInteger_26 ?_
      exact wp_zret (Or.inl rfl) rfl dX5_isPlainInteger_27 ((hv.2 c1).1 c3)
    · refine wq_aload_n 0 rfl rfl dX5_isPlainInteger_15 ?_
      refine wq_getI fk_X5_32 hT_a (fun _ _ _ => rfl) dX5_isPlainInteger_16 ?_
      refine wq_if_ne 26 rfl dX5_isPlainInteger_19 (fun c4 => ?_) (fun c4 => ?_)
      · refine wq_iconst (z := 0) (zlit rfl) dX5_isPlainInteger_26 ?_
        exact wp_zret (Or.inl rfl) rfl dX5_isPlainInteger_27 (((hv.2 c1).2 c3).1 c4)
      · refine wq_iconst (z := 1) (zlit rfl) dX5_isPlainInteger_22 ?_
        refine wq_goto 27 rfl dX5_isPlainInteger_23 ?_
        exact wp_zret (Or.inr rfl) rfl dX5_isPlainInteger_27 (((hv.2 c1).2 c3).2 c4)
