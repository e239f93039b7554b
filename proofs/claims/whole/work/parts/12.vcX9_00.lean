theorem dX9_faultOf_0 : decode cX9_faultOf 0 = .ok (.aload_n 0, 1) := by decide +kernel
theorem dX9_faultOf_1 : decode cX9_faultOf 1 = .ok (.aload_n 1, 1) := by decide +kernel
theorem dX9_faultOf_2 : decode cX9_faultOf 2 = .ok (.putfield 15, 3) := by decide +kernel
theorem dX9_faultOf_5 : decode cX9_faultOf 5 = .ok (.aload_n 0, 1) := by decide +kernel
theorem dX9_faultOf_6 : decode cX9_faultOf 6 = .ok (.getfield 15, 3) := by decide +kernel
theorem dX9_faultOf_9 : decode cX9_faultOf 9 = .ok (.iconst 0, 1) := by decide +kernel
theorem dX9_faultOf_10 : decode cX9_faultOf 10 = .ok (.putfield 31, 3) := by decide +kernel
theorem dX9_faultOf_13 : decode cX9_faultOf 13 = .ok (.aload_n 0, 1) := by decide +kernel
theorem dX9_faultOf_14 : decode cX9_faultOf 14 = .ok (.sipush (-1009), 3) := by decide +kernel
theorem dX9_faultOf_17 : decode cX9_faultOf 17 = .ok (.putfield 28, 3) := by decide +kernel
theorem dX9_faultOf_20 : decode cX9_faultOf 20 = .ok (.aload_n 0, 1) := by decide +kernel
theorem dX9_faultOf_21 : decode cX9_faultOf 21 = .ok (.iconst 0, 1) := by decide +kernel
theorem dX9_faultOf_22 : decode cX9_faultOf 22 = .ok (.invokevirtual 36, 3) := by decide +kernel
theorem dX9_faultOf_25 : decode cX9_faultOf 25 = .ok (.aload_n 0, 1) := by decide +kernel
theorem dX9_faultOf_26 : decode cX9_faultOf 26 = .ok (.iconst (-1), 1) := by decide +kernel
theorem dX9_faultOf_27 : decode cX9_faultOf 27 = .ok (.iconst 0, 1) := by decide +kernel
theorem dX9_faultOf_28 : decode cX9_faultOf 28 = .ok (.invokevirtual 42, 3) := by decide +kernel
theorem dX9_faultOf_31 : decode cX9_faultOf 31 = .ok (.pop, 1) := by decide +kernel
theorem dX9_faultOf_32 : decode cX9_faultOf 32 = .ok (.aload_n 0, 1) := by decide +kernel
theorem dX9_faultOf_33 : decode cX9_faultOf 33 = .ok (.getfield 28, 3) := by decide +kernel
theorem dX9_faultOf_36 : decode cX9_faultOf 36 = .ok (.ireturn, 1) := by decide +kernel
theorem vc_X9_faultOf_0 {G : zG} {d : Nat} {Q : Option zV → zHp → Prop} (p1 : Nat) (hT_p1 : zT 369 p1 = (108, 2)) (h : zHp) (hS : zSh h) (hd : 7 ≤ d)  
    (hv : (∀ h1 : zHp, h1 = sR h 211 1 p1 → (zT 369 (gR h1 211 1) = (108, 2) ∧ (∀ h3 : zHp, h3 = sI h1 (gR h1 211 1) 1 0 → (∀ h5 : zHp, h5 = sI h3 211 4 (-1009) → (wpN G (d - 1) M_X9_moveTo 0 (zar 0 [vR 211, vI 0]) [] h5 (qV (fun h8 => zSh h8 ∧ (wpN G (d - 1) M_X9_parseBlock 0 (zar 0 [vR 211, vI (-1), vI 0]) [] h8 (qI (fun z11 h12 => zSh h12 ∧ Q (some (vI (gI h12 211 4))) h12))))))))))) : wpN G d M_X9_faultOf 0 [(0, vR 211), (1, vR p1)] [] h Q := by
  refine wq_aload_n 0 rfl rfl dX9_faultOf_0 ?_
  refine wq_aload_n 1 rfl rfl dX9_faultOf_1 ?_
  refine wq_putR (zT_nz hT_p1 (by decide)) fk_X9_15 tT_211 (Or.inl rfl) (fun _ _ _ => rfl) (fun _ => rfl) (fun _ => rfl) dX9_faultOf_2 ?_
  refine wq_toph (fun h1 e2 => ?_)
  have sh1 : zSh h1 := zSh_put e2 hS (by decide)
  refine wq_aload_n 0 rfl rfl dX9_faultOf_5 ?_
  refine wq_getR fk_X9_15 tT_211 (fun _ _ _ => rfl) rfl (zT_nz (hv h1 e2).1 (by decide)) dX9_faultOf_6 ?_
  refine wq_iconst (z := 0) (zlit rfl) dX9_faultOf_9 ?_
  refine wq_putI fk_X9_31 (hv h1 e2).1 rfl rfl dX9_faultOf_10 ?_
  refine wq_toph (fun h3 e4 => ?_)
  have sh3 : zSh h3 := zSh_of e4 sh1
  refine wq_aload_n 0 rfl rfl dX9_faultOf_13 ?_
  refine wq_sipush (z := -1009) (zlit rfl) rfl dX9_faultOf_14 ?_
  refine wq_putI fk_X9_28 tT_211 rfl rfl dX9_faultOf_17 ?_
  refine wq_toph (fun h5 e6 => ?_)
  have sh5 : zSh h5 := zSh_of e6 sh3
  refine wq_aload_n 0 rfl rfl dX9_faultOf_20 ?_
  refine wq_iconst (z := 0) (zlit rfl) dX9_faultOf_21 ?_
  refine wN_V (As := [vI 0]) vm_X9_moveTo lk_X9_36 tT_211 rfl rfl (Nat.le_of_ble_eq_true rfl) (Nat.le_of_ble_eq_true rfl) (d' := d - 1) (by omega) dX9_faultOf_22 (((hv h1 e2).2 h3 e4) h5 e6) (fun v9 h8 q9 => ?_)
  obtain ⟨rfl, hS10, q9⟩ := q9
  refine wq_st (st' := []) rfl ?_
  refine wq_aload_n 0 rfl rfl dX9_faultOf_25 ?_
  refine wq_iconst (z := -1) (zlit rfl) dX9_faultOf_26 ?_
  refine wq_iconst (z := 0) (zlit rfl) dX9_faultOf_27 ?_
  refine wN_V (As := [vI (-1), vI 0]) vm_X9_parseBlock lk_X9_42 tT_211 rfl rfl (Nat.le_of_ble_eq_true rfl) (Nat.le_of_ble_eq_true rfl) (d' := d - 1) (by omega) dX9_faultOf_28 q9 (fun v9 h12 q13 => ?_)
  obtain ⟨z11, rfl, hS14, q13⟩ := q13
  refine wq_st (st' := [vI z11]) rfl ?_
  refine wq_pop rfl dX9_faultOf_31 ?_
  refine wq_aload_n 0 rfl rfl dX9_faultOf_32 ?_
  refine wq_getI fk_X9_28 tT_211 (fun _ _ _ => rfl) dX9_faultOf_33 ?_
  exact wp_iret rfl dX9_faultOf_36 q13
theorem dX9_moveTo_0 : decode cX9_moveTo 0 = .ok (.aload_n 0, 1) := by decide +kernel
theorem dX9_moveTo_1 : decode cX9_moveTo 1 = .ok (.iload_n 1, 1) := by decide +kernel
theorem dX9_moveTo_2 : decode cX9_moveTo 2 = .ok (.iconst 0, 1) := by decide +kernel
theorem dX9_moveTo_3 : decode cX9_moveTo 3 = .ok (.invokestatic 46, 3) := by decide +kernel
theorem dX9_moveTo_6 : decode cX9_moveTo 6 = .ok (.putfield 19, 3) := by decide +kernel
theorem dX9_moveTo_9 : decode cX9_moveTo 9 = .ok (.aload_n 0, 1) := by decide +kernel
theorem dX9_moveTo_10 : decode cX9_moveTo 10 = .ok (.getfield 19, 3) := by decide +kernel
theorem dX9_moveTo_13 : decode cX9_moveTo 13 = .ok (.aload_n 0, 1) := by decide +kernel
theorem dX9_moveTo_14 : decode cX9_moveTo 14 = .ok (.getfield 9, 3) := by decide +kernel
theorem dX9_moveTo_17 : decode cX9_moveTo 17 = .ok (.getfield 52, 3) := by decide +kernel
theorem dX9_moveTo_20 : decode cX9_moveTo 20 = .ok (.if_icmp .ge 33, 3) := by decide +kernel
theorem dX9_moveTo_23 : decode cX9_moveTo 23 = .ok (.aload_n 0, 1) := by decide +kernel
theorem dX9_moveTo_24 : decode cX9_moveTo 24 = .ok (.getfield 9, 3) := by decide +kernel
theorem dX9_moveTo_27 : decode cX9_moveTo 27 = .ok (.getfield 55, 3) := by decide +kernel
theorem dX9_moveTo_30 : decode cX9_moveTo 30 = .ok (.aload_n 0, 1) := by decide +kernel
theorem dX9_moveTo_31 : decode cX9_moveTo 31 = .ok (.getfield 19, 3) := by decide +kernel
theorem dX9_moveTo_34 : decode cX9_moveTo 34 = .ok (.iaload, 1) := by decide +kernel
theorem dX9_moveTo_35 : decode cX9_moveTo 35 = .ok (.bipush 32, 2) := by decide +kernel
theorem dX9_moveTo_37 : decode cX9_moveTo 37 = .ok (.if_icmp .ne 16, 3) := by decide +kernel
theorem dX9_moveTo_40 : decode cX9_moveTo 40 = .ok (.aload_n 0, 1) := by decide +kernel
theorem dX9_moveTo_41 : decode cX9_moveTo 41 = .ok (.dup, 1) := by decide +kernel
theorem dX9_moveTo_42 : decode cX9_moveTo 42 = .ok (.getfield 19, 3) := by decide +kernel
theorem dX9_moveTo_45 : decode cX9_moveTo 45 = .ok (.iconst 1, 1) := by decide +kernel
theorem dX9_moveTo_46 : decode cX9_moveTo 46 = .ok (.iadd, 1) := by decide +kernel
theorem dX9_moveTo_47 : decode cX9_moveTo 47 = .ok (.putfield 19, 3) := by decide +kernel
theorem dX9_moveTo_50 : decode cX9_moveTo 50 = .ok (.goto (-41), 3) := by decide +kernel
theorem dX9_moveTo_53 : decode cX9_moveTo 53 = .ok (.aload_n 0, 1) := by decide +kernel
theorem dX9_moveTo_54 : decode cX9_moveTo 54 = .ok (.aload_n 0, 1) := by decide +kernel
theorem dX9_moveTo_55 : decode cX9_moveTo 55 = .ok (.getfield 19, 3) := by decide +kernel
theorem dX9_moveTo_58 : decode cX9_moveTo 58 = .ok (.aload_n 0, 1) := by decide +kernel
theorem dX9_moveTo_59 : decode cX9_moveTo 59 = .ok (.getfield 9, 3) := by decide +kernel
theorem dX9_moveTo_62 : decode cX9_moveTo 62 = .ok (.getfield 52, 3) := by decide +kernel
theorem dX9_moveTo_65 : decode cX9_moveTo 65 = .ok (.if_icmp .ge 18, 3) := by decide +kernel
theorem dX9_moveTo_68 : decode cX9_moveTo 68 = .ok (.aload_n 0, 1) := by decide +kernel
theorem dX9_moveTo_69 : decode cX9_moveTo 69 = .ok (.getfield 9, 3) := by decide +kernel
theorem dX9_moveTo_72 : decode cX9_moveTo 72 = .ok (.getfield 55, 3) := by decide +kernel
theorem dX9_moveTo_75 : decode cX9_moveTo 75 = .ok (.aload_n 0, 1) := by decide +kernel
theorem dX9_moveTo_76 : decode cX9_moveTo 76 = .ok (.getfield 19, 3) := by decide +kernel
theorem dX9_moveTo_79 : decode cX9_moveTo 79 = .ok (.iaload, 1) := by decide +kernel
theorem dX9_moveTo_80 : decode cX9_moveTo 80 = .ok (.goto 4, 3) := by decide +kernel
theorem dX9_moveTo_83 : decode cX9_moveTo 83 = .ok (.iconst (-1), 1) := by decide +kernel
theorem dX9_moveTo_84 : decode cX9_moveTo 84 = .ok (.putfield 25, 3) := by decide +kernel
theorem dX9_moveTo_87 : decode cX9_moveTo 87 = .ok (.return_, 1) := by decide +kernel
theorem vc_X9_moveTo_0 {G : zG} {d : Nat} {Q : Option zV → zHp → Prop} (p1 : Int) (h : zHp) (hS : zSh h) (hd : 1 ≤ d) (I_9 : Int → zHp → Prop) (hI_9 : ∀ (y1 : Int) (h' : zHp), I_9 y1 h' → wpN G d M_X9_moveTo 9 [(0, vR 211), (1, vI y1)] [] h' Q) 
    (hv : (wpN G (d - 1) M_J9_max_7cf53 0 (zar 0 [vI p1, vI 0]) [] h (qI (fun z1 h2 => zSh h2 ∧ (∀ h5 : zHp, h5 = sI h2 211 2 z1 → (zSh h5 → I_9 p1 h5)))))) : wpN G d M_X9_moveTo 0 [(0, vR 211), (1, vI p1)] [] h Q := by
  refine wq_aload_n 0 rfl rfl dX9_moveTo_0 ?_
  refine wq_iload_n 1 rfl rfl dX9_moveTo_1 ?_
  refine wq_iconst (z := 0) (zlit rfl) dX9_moveTo_2 ?_
  refine wN_S (As := [vI p1, vI 0]) md_J9_max_7cf53 ms_J9_max_7cf53 lk_X9_46 rfl rfl (Nat.le_of_ble_eq_true rfl) (Nat.le_of_ble_eq_true rfl) (d' := d - 1) (by omega) dX9_moveTo_3 hv (fun v9 h2 q3 => ?_)
  obtain ⟨z1, rfl, hS4, q3⟩ := q3
  refine wq_st (st' := [vI z1, vR 211]) rfl ?_
  refine wq_putI fk_X9_19 tT_211 rfl rfl dX9_moveTo_6 ?_
  refine wq_toph (fun h5 e6 => ?_)
  have sh5 : zSh h5 := zSh_of e6 hS4
  exact wq_pick [0, 1] rfl (hI_9 p1 h5 ((q3 h5 e6) sh5))
theorem vc_X9_moveTo_9 {G : zG} {d : Nat} {Q : Option zV → zHp → Prop} (y1 : Int) (h : zHp) (hS : zSh h) (hd : 1 ≤ d) (I_9 : Int → zHp → Prop) (hI_9 : ∀ (y1 : Int) (h' : zHp), I_9 y1 h' → wpN G d M_X9_moveTo 9 [(0, vR 211), (1, vI y1)] [] h' Q) 
    (hv : (((gI h 2 1) ≤ (gI h 211 2) → (((gI h 2 1) ≤ (gI h 211 2) → (∀ h3 : zHp, h3 = sI h 211 3 (-1) → Q none h3)) ∧ ((gI h 211 2) < (gI h 2 1) → (((0 : Int) ≤ (gI h 211 2) ∧ (gI h 211 2) < ((120 : Nat) : Int)) ∧ (∀ h5 : zHp, h5 = sI h 211 3 (gI h 3 (gI h 211 2).toNat) → Q none h5))))) ∧ ((gI h 211 2) < (gI h 2 1) → (((0 : Int) ≤ (gI h 211 2) ∧ (gI h 211 2) < ((120 : Nat) : Int)) ∧ (((gI h 3 (gI h 211 2).toNat) ≠ 32 → (((gI h 2 1) ≤ (gI h 211 2) → (∀ h9 : zHp, h9 = sI h 211 3 (-1) → Q none h9)) ∧ ((gI h 211 2) < (gI h 2 1) → (((0 : Int) ≤ (gI h 211 2) ∧ (gI h 211 2) < ((120 : Nat) : Int)) ∧ (∀ h11 : zHp, h11 = sI h 211 3 (gI h 3 (gI h 211 2).toNat) → Q none h11))))) ∧ ((gI h 3 (gI h 211 2).toNat) = 32 → ((-2147483648 ≤ (gI h 211 2) + 1 ∧ (gI h 211 2) + 1 ≤ 2147483647) ∧ (∀ h13 : zHp, h13 = sI h 211 2 ((gI h 211 2) + 1) → (zSh h13 → I_9 y1 h13))))))))) : wpN G d M_X9_moveTo 9 [(0, vR 211), (1, vI y1)] [] h Q := by
  refine wq_aload_n 0 rfl rfl dX9_moveTo_9 ?_
  refine wq_getI fk_X9_19 tT_211 (fun _ _ _ => rfl) dX9_moveTo_10 ?_
  refine wq_aload_n 0 rfl rfl dX9_moveTo_13 ?_
  refine wq_getR fk_X9_9 tT_211 (fun _ _ _ => rfl) (sh_9_0 hS) (by decide) dX9_moveTo_14 ?_
  refine wq_getI fk_X9_52 tT_2 (fun _ _ _ => rfl) dX9_moveTo_17 ?_
  refine wq_icmp_ge 53 rfl dX9_moveTo_20 (fun c1 => ?_) (fun c1 => ?_)
  · refine wq_aload_n 0 rfl rfl dX9_moveTo_53 ?_
    refine wq_aload_n 0 rfl rfl dX9_moveTo_54 ?_
    refine wq_getI fk_X9_19 tT_211 (fun _ _ _ => rfl) dX9_moveTo_55 ?_
    refine wq_aload_n 0 rfl rfl dX9_moveTo_58 ?_
    refine wq_getR fk_X9_9 tT_211 (fun _ _ _ => rfl) (sh_9_0 hS) (by decide) dX9_moveTo_59 ?_
    refine wq_getI fk_X9_52 tT_2 (fun _ _ _ => rfl) dX9_moveTo_62 ?_
    refine wq_icmp_ge 83 rfl dX9_moveTo_65 (fun c2 => ?_) (fun c2 => ?_)
    · refine wq_iconst (z := -1) (zlit rfl) dX9_moveTo_83 ?_
      refine wq_putI fk_X9_25 tT_211 rfl rfl dX9_moveTo_84 ?_
      refine wq_toph (fun h3 e4 => ?_)
      have sh3 : zSh h3 := zSh_of e4 hS
      exact wp_vret rfl dX9_moveTo_87 (((hv.1 c1).1 c2) h3 e4)
    · refine wq_aload_n 0 rfl rfl dX9_moveTo_68 ?_
      refine wq_getR fk_X9_9 tT_211 (fun _ _ _ => rfl) (sh_9_0 hS) (by decide) dX9_moveTo_69 ?_
      refine wq_getR (r := 3) fk_X9_55 tT_2 (fun _ _ _ => rfl) (sh_0_0 hS tT_2) (by decide) dX9_moveTo_72 ?_
      refine wq_aload_n 0 rfl rfl dX9_moveTo_75 ?_
      refine wq_getI fk_X9_19 tT_211 (fun _ _ _ => rfl) dX9_moveTo_76 ?_
      refine wq_iald tT_3 ((hv.1 c1).2 c2).1.1 ((hv.1 c1).2 c2).1.2 dX9_moveTo_79 ?_
      refine wq_goto 84 rfl dX9_moveTo_80 ?_
      refine wq_putI fk_X9_25 tT_211 rfl rfl dX9_moveTo_84 ?_
      refine wq_toph (fun h5 e6 => ?_)
      have sh5 : zSh h5 := zSh_of e6 hS
      exact wp_vret rfl dX9_moveTo_87 (((hv.1 c1).2 c2).2 h5 e6)
  · refine wq_aload_n 0 rfl rfl dX9_moveTo_23 ?_
    refine wq_getR fk_X9_9 tT_211 (fun _ _ _ => rfl) (sh_9_0 hS) (by decide) dX9_moveTo_24 ?_
    refine wq_getR (r := 3) fk_X9_55 tT_2 (fun _ _ _ => rfl) (sh_0_0 hS tT_2) (by decide) dX9_moveTo_27 ?_
    refine wq_aload_n 0 rfl rfl dX9_moveTo_30 ?_
    refine wq_getI fk_X9_19 tT_211 (fun _ _ _ => rfl) dX9_moveTo_31 ?_
    refine wq_iald tT_3 (hv.2 c1).1.1 (hv.2 c1).1.2 dX9_moveTo_34 ?_
    refine wq_bipush (z := 32) (zlit rfl) rfl dX9_moveTo_35 ?_
    refine wq_icmp_ne 53 rfl dX9_moveTo_37 (fun c7 => ?_) (fun c7 => ?_)
    · refine wq_aload_n 0 rfl rfl dX9_moveTo_53 ?_
      refine wq_aload_n 0 rfl rfl dX9_moveTo_54 ?_
      refine wq_getI fk_X9_19 tT_211 (fun _ _ _ => rfl) dX9_moveTo_55 ?_
      refine wq_aload_n 0 rfl rfl dX9_moveTo_58 ?_
      refine wq_getR fk_X9_9 tT_211 (fun _ _ _ => rfl) (sh_9_0 hS) (by decide) dX9_moveTo_59 ?_
      refine wq_getI fk_X9_52 tT_2 (fun _ _ _ => rfl) dX9_moveTo_62 ?_
      refine wq_icmp_ge 83 rfl dX9_moveTo_65 (fun c8 => ?_) (fun c8 => ?_)
      · refine wq_iconst (z := -1) (zlit rfl) dX9_moveTo_83 ?_
        refine wq_putI fk_X9_25 tT_211 rfl rfl dX9_moveTo_84 ?_
        refine wq_toph (fun h9 e10 => ?_)
        have sh9 : zSh h9 := zSh_of e10 hS
        exact wp_vret rfl dX9_moveTo_87 ((((hv.2 c1).2.1 c7).1 c8) h9 e10)
      · refine wq_aload_n 0 rfl rfl dX9_moveTo_68 ?_
        refine wq_getR fk_X9_9 tT_211 (fun _ _ _ => rfl) (sh_9_0 hS) (by decide) dX9_moveTo_69 ?_
        refine wq_getR (r := 3) fk_X9_55 tT_2 (fun _ _ _ => rfl) (sh_0_0 hS tT_2) (by decide) dX9_moveTo_72 ?_
        refine wq_aload_n 0 rfl rfl dX9_moveTo_75 ?_
        refine wq_getI fk_X9_19 tT_211 (fun _ _ _ => rfl) dX9_moveTo_76 ?_
        refine wq_iald tT_3 (((hv.2 c1).2.1 c7).2 c8).1.1 (((hv.2 c1).2.1 c7).2 c8).1.2 dX9_moveTo_79 ?_
        refine wq_goto 84 rfl dX9_moveTo_80 ?_
        refine wq_putI fk_X9_25 tT_211 rfl rfl dX9_moveTo_84 ?_
        refine wq_toph (fun h11 e12 => ?_)
        have sh11 : zSh h11 := zSh_of e12 hS
        exact wp_vret rfl dX9_moveTo_87 ((((hv.2 c1).2.1 c7).2 c8).2 h11 e12)
    · refine wq_aload_n 0 rfl rfl dX9_moveTo_40 ?_
      refine wq_dup rfl dX9_moveTo_41 ?_
      refine wq_getI fk_X9_19 tT_211 (fun _ _ _ => rfl) dX9_moveTo_42 ?_
      refine wq_iconst (z := 1) (zlit rfl) dX9_moveTo_45 ?_
      refine wq_iadd ((hv.2 c1).2.2 c7).1 dX9_moveTo_46 ?_
      refine wq_putI fk_X9_19 tT_211 rfl rfl dX9_moveTo_47 ?_
      refine wq_toph (fun h13 e14 => ?_)
      have sh13 : zSh h13 := zSh_of e14 hS
      refine wq_goto 9 rfl dX9_moveTo_50 ?_
      exact wq_pick [0, 1] rfl (hI_9 y1 h13 ((((hv.2 c1).2.2 c7).2 h13 e14) sh13))
theorem dX9_refuse_0 : decode cX9_refuse 0 = .ok (.aload_n 0, 1) := by decide +kernel
theorem dX9_refuse_1 : decode cX9_refuse 1 = .ok (.iload_n 1, 1) := by decide +kernel
theorem dX9_refuse_2 : decode cX9_refuse 2 = .ok (.putfield 28, 3) := by decide +kernel
theorem dX9_refuse_5 : decode cX9_refuse 5 = .ok (.iconst 0, 1) := by decide +kernel
theorem dX9_refuse_6 : decode cX9_refuse 6 = .ok (.ireturn, 1) := by decide +kernel
theorem vc_X9_refuse_0 {G : zG} {d : Nat} {Q : Option zV → zHp → Prop} (p1 : Int) (h : zHp) (hS : zSh h) (hd : 0 ≤ d)  
    (hv : (∀ h1 : zHp, h1 = sI h 211 4 p1 → Q (some (vI 0)) h1)) : wpN G d M_X9_refuse 0 [(0, vR 211), (1, vI p1)] [] h Q := by
  refine wq_aload_n 0 rfl rfl dX9_refuse_0 ?_
  refine wq_iload_n 1 rfl rfl dX9_refuse_1 ?_
  refine wq_putI fk_X9_28 tT_211 rfl rfl dX9_refuse_2 ?_
  refine wq_toph (fun h1 e2 => ?_)
  have sh1 : zSh h1 := zSh_of e2 hS
  refine wq_iconst (z := 0) (zlit rfl) dX9_refuse_5 ?_
  exact wp_zret (Or.inl rfl) rfl dX9_refuse_6 (hv h1 e2)
theorem dX9_parseSign_0 : decode cX9_parseSign 0 = .ok (.aload_n 0, 1) := by decide +kernel
theorem dX9_parseSign_1 : decode cX9_parseSign 1 = .ok (.getfield 25, 3) := by decide +kernel
theorem dX9_parseSign_4 : decode cX9_parseSign 4 = .ok (.iload_n 1, 1) := by decide +kernel
theorem dX9_parseSign_5 : decode cX9_parseSign 5 = .ok (.if_icmp .eq 12, 3) := by decide +kernel
theorem dX9_parseSign_8 : decode cX9_parseSign 8 = .ok (.aload_n 0, 1) := by decide +kernel
theorem dX9_parseSign_9 : decode cX9_parseSign 9 = .ok (.aload_n 0, 1) := by decide +kernel
theorem dX9_parseSign_10 : decode cX9_parseSign 10 = .ok (.getfield 19, 3) := by decide +kernel
theorem dX9_parseSign_13 : decode cX9_parseSign 13 = .ok (.invokevirtual 59, 3) := by decide +kernel
theorem dX9_parseSign_16 : decode cX9_parseSign 16 = .ok (.ireturn, 1) := by decide +kernel
theorem dX9_parseSign_17 : decode cX9_parseSign 17 = .ok (.aload_n 0, 1) := by decide +kernel
theorem dX9_parseSign_18 : decode cX9_parseSign 18 = .ok (.aload_n 0, 1) := by decide +kernel
theorem dX9_parseSign_19 : decode cX9_parseSign 19 = .ok (.getfield 19, 3) := by decide +kernel
theorem dX9_parseSign_22 : decode cX9_parseSign 22 = .ok (.iconst 1, 1) := by decide +kernel
theorem dX9_parseSign_23 : decode cX9_parseSign 23 = .ok (.iadd, 1) := by decide +kernel
theorem dX9_parseSign_24 : decode cX9_parseSign 24 = .ok (.invokevirtual 36, 3) := by decide +kernel
theorem dX9_parseSign_27 : decode cX9_parseSign 27 = .ok (.iconst 1, 1) := by decide +kernel
theorem dX9_parseSign_28 : decode cX9_parseSign 28 = .ok (.ireturn, 1) := by decide +kernel
theorem vc_X9_parseSign_0 {G : zG} {d : Nat} {Q : Option zV → zHp → Prop} (p1 : Int) (h : zHp) (hS : zSh h) (hd : 2 ≤ d)  
    (hv : (((gI h 211 3) = p1 → ((-2147483648 ≤ (gI h 211 2) + 1 ∧ (gI h 211 2) + 1 ≤ 2147483647) ∧ (wpN G (d - 1) M_X9_moveTo 0 (zar 0 [vR 211, vI ((gI h 211 2) + 1)]) [] h (qV (fun h3 => zSh h3 ∧ Q (some (vI 1)) h3))))) ∧ ((gI h 211 3) ≠ p1 → (wpN G (d - 1) M_X9_refuse 0 (zar 0 [vR 211, vI (gI h 211 2)]) [] h (qI (fun z6 h7 => zSh h7 ∧ ((z6 = 0 ∨ z6 = 1) ∧ Q (some (vI z6)) h7))))))) : wpN G d M_X9_parseSign 0 [(0, vR 211), (1, vI p1)] [] h Q := by
  refine wq_aload_n 0 rfl rfl dX9_parseSign_0 ?_
  refine wq_getI fk_X9_25 tT_211 (fun _ _ _ => rfl) dX9_parseSign_1 ?_
  refine wq_iload_n 1 rfl rfl dX9_parseSign_4 ?_
  refine wq_icmp_eq 17 rfl dX9_parseSign_5 (fun c1 => ?_) (fun c1 => ?_)
  · refine wq_aload_n 0 rfl rfl dX9_parseSign_17 ?_
    refine wq_aload_n 0 rfl rfl dX9_parseSign_18 ?_
    refine wq_getI fk_X9_19 tT_211 (fun _ _ _ => rfl) dX9_parseSign_19 ?_
    refine wq_iconst (z := 1) (zlit rfl) dX9_parseSign_22 ?_
    refine wq_iadd (hv.1 c1).1 dX9_parseSign_23 ?_
    refine wN_V (As := [vI ((gI h 211 2) + 1)]) vm_X9_moveTo lk_X9_36 tT_211 rfl rfl (Nat.le_of_ble_eq_true rfl) (Nat.le_of_ble_eq_true rfl) (d' := d - 1) (by omega) dX9_parseSign_24 (hv.1 c1).2 (fun v9 h3 q4 => ?_)
    obtain ⟨rfl, hS5, q4⟩ := q4
    refine wq_st (st' := []) rfl ?_
    refine wq_iconst (z := 1) (zlit rfl) dX9_parseSign_27 ?_
    exact wp_zret (Or.inr rfl) rfl dX9_parseSign_28 q4
  · refine wq_aload_n 0 rfl rfl dX9_parseSign_8 ?_
    refine wq_aload_n 0 rfl rfl dX9_parseSign_9 ?_
    refine wq_getI fk_X9_19 tT_211 (fun _ _ _ => rfl) dX9_parseSign_10 ?_
    refine wN_V (As := [vI (gI h 211 2)]) vm_X9_refuse lk_X9_59 tT_211 rfl rfl (Nat.le_of_ble_eq_true rfl) (Nat.le_of_ble_eq_true rfl) (d' := d - 1) (by omega) dX9_parseSign_13 (hv.2 c1) (fun v9 h7 q8 => ?_)
    obtain ⟨z6, rfl, hS9, q8⟩ := q8
    refine wq_st (st' := [vI z6]) rfl ?_
    exact wp_zret q8.1 rfl dX9_parseSign_16 q8.2
theorem dX9_parseBlock_0 : decode cX9_parseBlock 0 = .ok (.iload_n 2, 1) := by decide +kernel
theorem dX9_parseBlock_1 : decode cX9_parseBlock 1 = .ok (.ifCond .ne 7, 3) := by decide +kernel
theorem dX9_parseBlock_4 : decode cX9_parseBlock 4 = .ok (.iconst (-1), 1) := by decide +kernel
theorem dX9_parseBlock_5 : decode cX9_parseBlock 5 = .ok (.goto 5, 3) := by decide +kernel
theorem dX9_parseBlock_8 : decode cX9_parseBlock 8 = .ok (.bipush 125, 2) := by decide +kernel
theorem dX9_parseBlock_10 : decode cX9_parseBlock 10 = .ok (.istore_n 3, 1) := by decide +kernel
theorem dX9_parseBlock_11 : decode cX9_parseBlock 11 = .ok (.iconst 0, 1) := by decide +kernel
theorem dX9_parseBlock_12 : decode cX9_parseBlock 12 = .ok (.istore 4, 2) := by decide +kernel
theorem dX9_parseBlock_14 : decode cX9_parseBlock 14 = .ok (.iload 4, 2) := by decide +kernel
theorem dX9_parseBlock_16 : decode cX9_parseBlock 16 = .ok (.bipush 24, 2) := by decide +kernel
theorem dX9_parseBlock_18 : decode cX9_parseBlock 18 = .ok (.if_icmp .gt 30, 3) := by decide +kernel
theorem dX9_parseBlock_21 : decode cX9_parseBlock 21 = .ok (.aload_n 0, 1) := by decide +kernel
theorem dX9_parseBlock_22 : decode cX9_parseBlock 22 = .ok (.getfield 25, 3) := by decide +kernel
theorem dX9_parseBlock_25 : decode cX9_parseBlock 25 = .ok (.iload_n 3, 1) := by decide +kernel
theorem dX9_parseBlock_26 : decode cX9_parseBlock 26 = .ok (.if_icmp .ne 5, 3) := by decide +kernel
theorem dX9_parseBlock_29 : decode cX9_parseBlock 29 = .ok (.iconst 1, 1) := by decide +kernel
theorem dX9_parseBlock_30 : decode cX9_parseBlock 30 = .ok (.ireturn, 1) := by decide +kernel
theorem dX9_parseBlock_31 : decode cX9_parseBlock 31 = .ok (.aload_n 0, 1) := by decide +kernel
theorem dX9_parseBlock_32 : decode cX9_parseBlock 32 = .ok (.iload_n 1, 1) := by decide +kernel
theorem dX9_parseBlock_33 : decode cX9_parseBlock 33 = .ok (.iload_n 2, 1) := by decide +kernel
theorem dX9_parseBlock_34 : decode cX9_parseBlock 34 = .ok (.invokevirtual 63, 3) := by decide +kernel
theorem dX9_parseBlock_37 : decode cX9_parseBlock 37 = .ok (.ifCond .ne 5, 3) := by decide +kernel
theorem dX9_parseBlock_40 : decode cX9_parseBlock 40 = .ok (.iconst 0, 1) := by decide +kernel
theorem dX9_parseBlock_41 : decode cX9_parseBlock 41 = .ok (.ireturn, 1) := by decide +kernel
theorem dX9_parseBlock_42 : decode cX9_parseBlock 42 = .ok (.iinc 4 1, 3) := by decide +kernel
theorem dX9_parseBlock_45 : decode cX9_parseBlock 45 = .ok (.goto (-31), 3) := by decide +kernel
theorem dX9_parseBlock_48 : decode cX9_parseBlock 48 = .ok (.aload_n 0, 1) := by decide +kernel
theorem dX9_parseBlock_49 : decode cX9_parseBlock 49 = .ok (.aload_n 0, 1) := by decide +kernel
theorem dX9_parseBlock_50 : decode cX9_parseBlock 50 = .ok (.getfield 19, 3) := by decide +kernel
theorem dX9_parseBlock_53 : decode cX9_parseBlock 53 = .ok (.invokevirtual 59, 3) := by decide +kernel
theorem dX9_parseBlock_56 : decode cX9_parseBlock 56 = .ok (.ireturn, 1) := by decide +kernel
theorem vc_X9_parseBlock_0 {G : zG} {d : Nat} {Q : Option zV → zHp → Prop} (p1 : Int) (p2 : Int) (h : zHp) (hS : zSh h) (hd : 6 ≤ d) (I_14 : Int → Int → Int → Int → zHp → Prop) (hI_14 : ∀ (y1 : Int) (y2 : Int) (y3 : Int) (y4 : Int) (h' : zHp), I_14 y1 y2 y3 y4 h' → wpN G d M_X9_parseBlock 14 [(0, vR 211), (1, vI y1), (2, vI y2), (3, vI y3), (4, vI y4)] [] h' Q) 
    (hv : ((p2 ≠ 0 → (zSh h → I_14 p1 p2 125 0 h)) ∧ (p2 = 0 → (zSh h → I_14 p1 p2 (-1) 0 h)))) : wpN G d M_X9_parseBlock 0 [(0, vR 211), (1, vI p1), (2, vI p2)] [] h Q := by
  refine wq_iload_n 2 rfl rfl dX9_parseBlock_0 ?_
  refine wq_if_ne 8 rfl dX9_parseBlock_1 (fun c1 => ?_) (fun c1 => ?_)
  · refine wq_bipush (z := 125) (zlit rfl) rfl dX9_parseBlock_8 ?_
    refine wq_istore_n (ls' := [(0, vR 211), (1, vI p1), (2, vI p2), (3, vI 125)]) rfl (by decide) rfl dX9_parseBlock_10 ?_
    refine wq_iconst (z := 0) (zlit rfl) dX9_parseBlock_11 ?_
    refine wq_istore (ls' := [(0, vR 211), (1, vI p1), (2, vI p2), (3, vI 125), (4, vI 0)]) (by decide) rfl dX9_parseBlock_12 ?_
    exact wq_pick [0, 1, 2, 3, 4] rfl (hI_14 p1 p2 125 0 h ((hv.1 c1) hS))
  · refine wq_iconst (z := -1) (zlit rfl) dX9_parseBlock_4 ?_
    refine wq_goto 10 rfl dX9_parseBlock_5 ?_
    refine wq_istore_n (ls' := [(0, vR 211), (1, vI p1), (2, vI p2), (3, vI (-1))]) rfl (by decide) rfl dX9_parseBlock_10 ?_
    refine wq_iconst (z := 0) (zlit rfl) dX9_parseBlock_11 ?_
    refine wq_istore (ls' := [(0, vR 211), (1, vI p1), (2, vI p2), (3, vI (-1)), (4, vI 0)]) (by decide) rfl dX9_parseBlock_12 ?_
    exact wq_pick [0, 1, 2, 3, 4] rfl (hI_14 p1 p2 (-1) 0 h ((hv.2 c1) hS))
theorem vc_X9_parseBlock_14 {G : zG} {d : Nat} {Q : Option zV → zHp → Prop} (y1 : Int) (y2 : Int) (y3 : Int) (y4 : Int) (h : zHp) (hS : zSh h) (hd : 6 ≤ d) (I_14 : Int → Int → Int → Int → zHp → Prop) (hI_14 : ∀ (y1 : Int) (y2 : Int) (y3 : Int) (y4 : Int) (h' : zHp), I_14 y1 y2 y3 y4 h' → wpN G d M_X9_parseBlock 14 [(0, vR 211), (1, vI y1), (2, vI y2), (3, vI y3), (4, vI y4)] [] h' Q) 
    (hv : ((24 < y4 → (wpN G (d - 1) M_X9_refuse 0 (zar 0 [vR 211, vI (gI h 211 2)]) [] h (qI (fun z2 h3 => zSh h3 ∧ ((z2 = 0 ∨ z2 = 1) ∧ Q (some (vI z2)) h3))))) ∧ (y4 ≤ 24 → (((gI h 211 3) ≠ y3 → (wpN G (d - 1) M_X9_parseItem 0 (zar 0 [vR 211, vI y1, vI y2]) [] h (qI (fun z7 h8 => zSh h8 ∧ ((z7 ≠ 0 → ((-2147483648 ≤ y4 + 1 ∧ y4 + 1 ≤ 2147483647) ∧ ∀ x12 : Int, x12 = y4 + 1 → (zSh h8 → I_14 y1 y2 y3 x12 h8))) ∧ (z7 = 0 → Q (some (vI 0)) h8)))))) ∧ ((gI h 211 3) = y3 → Q (some (vI 1)) h))))) : wpN G d M_X9_parseBlock 14 [(0, vR 211), (1, vI y1), (2, vI y2), (3, vI y3), (4, vI y4)] [] h Q := by
  refine wq_iload 4 rfl dX9_parseBlock_14 ?_
  refine wq_bipush (z := 24) (zlit rfl) rfl dX9_parseBlock_16 ?_
  refine wq_icmp_gt 48 rfl dX9_parseBlock_18 (fun c1 => ?_) (fun c1 => ?_)
  · refine wq_aload_n 0 rfl rfl dX9_parseBlock_48 ?_
    refine wq_aload_n 0 rfl rfl dX9_parseBlock_49 ?_
    refine wq_getI fk_X9_19 tT_211 (fun _ _ _ => rfl) dX9_parseBlock_50 ?_
    refine wN_V (As := [vI (gI h 211 2)]) vm_X9_refuse lk_X9_59 tT_211 rfl rfl (Nat.le_of_ble_eq_true rfl) (Nat.le_of_ble_eq_true rfl) (d' := d - 1) (by omega) dX9_parseBlock_53 (hv.1 c1) (fun v9 h3 q4 => ?_)
    obtain ⟨z2, rfl, hS5, q4⟩ := q4
    refine wq_st (st' := [vI z2]) rfl ?_
    exact wp_zret q4.1 rfl dX9_parseBlock_56 q4.2
  · refine wq_aload_n 0 rfl rfl dX9_parseBlock_21 ?_
    refine wq_getI fk_X9_25 tT_211 (fun _ _ _ => rfl) dX9_parseBlock_22 ?_
    refine wq_iload_n 3 rfl rfl dX9_parseBlock_25 ?_
    refine wq_icmp_ne 31 rfl dX9_parseBlock_26 (fun c6 => ?_) (fun c6 => ?_)
    · refine wq_aload_n 0 rfl rfl dX9_parseBlock_31 ?_
      refine wq_iload_n 1 rfl rfl dX9_parseBlock_32 ?_
      refine wq_iload_n 2 rfl rfl dX9_parseBlock_33 ?_
      refine wN_V (As := [vI y1, vI y2]) vm_X9_parseItem lk_X9_63 tT_211 rfl rfl (Nat.le_of_ble_eq_true rfl) (Nat.le_of_ble_eq_true rfl) (d' := d - 1) (by omega) dX9_parseBlock_34 ((hv.2 c1).1 c6) (fun v9 h8 q9 => ?_)
      obtain ⟨z7, rfl, hS10, q9⟩ := q9
      refine wq_st (st' := [vI z7]) rfl ?_
      refine wq_if_ne 42 rfl dX9_parseBlock_37 (fun c11 => ?_) (fun c11 => ?_)
      · refine z_nm (y4 + 1) (fun x12 e13 => ?_)
        refine wq_iinc (y := x12) (ls' := [(0, vR 211), (1, vI y1), (2, vI y2), (3, vI y3), (4, vI x12)]) 4 rfl e13.symm (by rw [e13]; exact (q9.1 c11).1) (by decide) rfl dX9_parseBlock_42 ?_
        refine wq_goto 14 rfl dX9_parseBlock_45 ?_
        exact wq_pick [0, 1, 2, 3, 4] rfl (hI_14 y1 y2 y3 x12 h8 (((q9.1 c11).2 x12 e13) hS10))
      · refine wq_iconst (z := 0) (zlit rfl) dX9_parseBlock_40 ?_
        exact wp_zret (Or.inl rfl) rfl dX9_parseBlock_41 (q9.2 c11)
    · refine wq_iconst (z := 1) (zlit rfl) dX9_parseBlock_29 ?_
      exact wp_zret (Or.inr rfl) rfl dX9_parseBlock_30 ((hv.2 c1).2 c6)
theorem dX9_parseItem_0 : decode cX9_parseItem 0 = .ok (.aload_n 0, 1) := by decide +kernel
theorem dX9_parseItem_1 : decode cX9_parseItem 1 = .ok (.getfield 15, 3) := by decide +kernel
theorem dX9_parseItem_4 : decode cX9_parseItem 4 = .ok (.iload_n 1, 1) := by decide +kernel
theorem dX9_parseItem_5 : decode cX9_parseItem 5 = .ok (.invokevirtual 66, 3) := by decide +kernel
theorem dX9_parseItem_8 : decode cX9_parseItem 8 = .ok (.istore_n 3, 1) := by decide +kernel
theorem dX9_parseItem_9 : decode cX9_parseItem 9 = .ok (.iload_n 3, 1) := by decide +kernel
theorem dX9_parseItem_10 : decode cX9_parseItem 10 = .ok (.iconst (-1), 1) := by decide +kernel
theorem dX9_parseItem_11 : decode cX9_parseItem 11 = .ok (.if_icmp .ne 12, 3) := by decide +kernel
theorem dX9_parseItem_14 : decode cX9_parseItem 14 = .ok (.aload_n 0, 1) := by decide +kernel
theorem dX9_parseItem_15 : decode cX9_parseItem 15 = .ok (.aload_n 0, 1) := by decide +kernel
theorem dX9_parseItem_16 : decode cX9_parseItem 16 = .ok (.getfield 19, 3) := by decide +kernel
theorem dX9_parseItem_19 : decode cX9_parseItem 19 = .ok (.invokevirtual 59, 3) := by decide +kernel
theorem dX9_parseItem_22 : decode cX9_parseItem 22 = .ok (.ireturn, 1) := by decide +kernel
theorem dX9_parseItem_23 : decode cX9_parseItem 23 = .ok (.aload_n 0, 1) := by decide +kernel
theorem dX9_parseItem_24 : decode cX9_parseItem 24 = .ok (.getfield 25, 3) := by decide +kernel
theorem dX9_parseItem_27 : decode cX9_parseItem 27 = .ok (.bipush 63, 2) := by decide +kernel
theorem dX9_parseItem_29 : decode cX9_parseItem 29 = .ok (.if_icmp .ne 13, 3) := by decide +kernel
theorem dX9_parseItem_32 : decode cX9_parseItem 32 = .ok (.aload_n 0, 1) := by decide +kernel
theorem dX9_parseItem_33 : decode cX9_parseItem 33 = .ok (.iload_n 3, 1) := by decide +kernel
theorem dX9_parseItem_34 : decode cX9_parseItem 34 = .ok (.invokevirtual 70, 3) := by decide +kernel
theorem dX9_parseItem_37 : decode cX9_parseItem 37 = .ok (.ifCond .ne 5, 3) := by decide +kernel
theorem dX9_parseItem_40 : decode cX9_parseItem 40 = .ok (.iconst 0, 1) := by decide +kernel
theorem dX9_parseItem_41 : decode cX9_parseItem 41 = .ok (.ireturn, 1) := by decide +kernel
theorem dX9_parseItem_42 : decode cX9_parseItem 42 = .ok (.aload_n 0, 1) := by decide +kernel
theorem dX9_parseItem_43 : decode cX9_parseItem 43 = .ok (.getfield 25, 3) := by decide +kernel
theorem dX9_parseItem_46 : decode cX9_parseItem 46 = .ok (.bipush 46, 2) := by decide +kernel
theorem dX9_parseItem_48 : decode cX9_parseItem 48 = .ok (.if_icmp .eq 12, 3) := by decide +kernel
theorem dX9_parseItem_51 : decode cX9_parseItem 51 = .ok (.aload_n 0, 1) := by decide +kernel
theorem dX9_parseItem_52 : decode cX9_parseItem 52 = .ok (.getfield 25, 3) := by decide +kernel
theorem dX9_parseItem_55 : decode cX9_parseItem 55 = .ok (.bipush 64, 2) := by decide +kernel
theorem dX9_parseItem_57 : decode cX9_parseItem 57 = .ok (.if_icmp .ne 21, 3) := by decide +kernel
theorem dX9_parseItem_60 : decode cX9_parseItem 60 = .ok (.aload_n 0, 1) := by decide +kernel
theorem dX9_parseItem_61 : decode cX9_parseItem 61 = .ok (.aload_n 0, 1) := by decide +kernel
theorem dX9_parseItem_62 : decode cX9_parseItem 62 = .ok (.getfield 15, 3) := by decide +kernel
theorem dX9_parseItem_65 : decode cX9_parseItem 65 = .ok (.getfield 73, 3) := by decide +kernel
theorem dX9_parseItem_68 : decode cX9_parseItem 68 = .ok (.iload_n 3, 1) := by decide +kernel
theorem dX9_parseItem_69 : decode cX9_parseItem 69 = .ok (.aaload, 1) := by decide +kernel
theorem dX9_parseItem_70 : decode cX9_parseItem 70 = .ok (.invokevirtual 77, 3) := by decide +kernel
theorem dX9_parseItem_73 : decode cX9_parseItem 73 = .ok (.istore 4, 2) := by decide +kernel
theorem dX9_parseItem_75 : decode cX9_parseItem 75 = .ok (.goto 27, 3) := by decide +kernel
theorem dX9_parseItem_78 : decode cX9_parseItem 78 = .ok (.aload_n 0, 1) := by decide +kernel
theorem dX9_parseItem_79 : decode cX9_parseItem 79 = .ok (.iload_n 3, 1) := by decide +kernel
theorem dX9_parseItem_80 : decode cX9_parseItem 80 = .ok (.invokevirtual 81, 3) := by decide +kernel
theorem dX9_parseItem_83 : decode cX9_parseItem 83 = .ok (.ifCond .eq 16, 3) := by decide +kernel
theorem dX9_parseItem_86 : decode cX9_parseItem 86 = .ok (.aload_n 0, 1) := by decide +kernel
theorem dX9_parseItem_87 : decode cX9_parseItem 87 = .ok (.iload_n 3, 1) := by decide +kernel
theorem dX9_parseItem_88 : decode cX9_parseItem 88 = .ok (.iload_n 2, 1) := by decide +kernel
theorem dX9_parseItem_89 : decode cX9_parseItem 89 = .ok (.invokevirtual 84, 3) := by decide +kernel
theorem dX9_parseItem_92 : decode cX9_parseItem 92 = .ok (.ifCond .eq 7, 3) := by decide +kernel
theorem dX9_parseItem_95 : decode cX9_parseItem 95 = .ok (.iconst 1, 1) := by decide +kernel
theorem dX9_parseItem_96 : decode cX9_parseItem 96 = .ok (.goto 4, 3) := by decide +kernel
theorem dX9_parseItem_99 : decode cX9_parseItem 99 = .ok (.iconst 0, 1) := by decide +kernel
theorem dX9_parseItem_100 : decode cX9_parseItem 100 = .ok (.istore 4, 2) := by decide +kernel
theorem dX9_parseItem_102 : decode cX9_parseItem 102 = .ok (.iload 4, 2) := by decide +kernel
theorem dX9_parseItem_104 : decode cX9_parseItem 104 = .ok (.ifCond .eq 12, 3) := by decide +kernel
theorem dX9_parseItem_107 : decode cX9_parseItem 107 = .ok (.aload_n 0, 1) := by decide +kernel
theorem dX9_parseItem_108 : decode cX9_parseItem 108 = .ok (.bipush 59, 2) := by decide +kernel
theorem dX9_parseItem_110 : decode cX9_parseItem 110 = .ok (.invokevirtual 87, 3) := by decide +kernel
theorem dX9_parseItem_113 : decode cX9_parseItem 113 = .ok (.ifCond .ne 5, 3) := by decide +kernel
theorem dX9_parseItem_116 : decode cX9_parseItem 116 = .ok (.iconst 0, 1) := by decide +kernel
theorem dX9_parseItem_117 : decode cX9_parseItem 117 = .ok (.ireturn, 1) := by decide +kernel
theorem dX9_parseItem_118 : decode cX9_parseItem 118 = .ok (.aload_n 0, 1) := by decide +kernel
theorem dX9_parseItem_119 : decode cX9_parseItem 119 = .ok (.getfield 15, 3) := by decide +kernel
theorem dX9_parseItem_122 : decode cX9_parseItem 122 = .ok (.getfield 73, 3) := by decide +kernel
theorem dX9_parseItem_125 : decode cX9_parseItem 125 = .ok (.iload_n 3, 1) := by decide +kernel
theorem dX9_parseItem_126 : decode cX9_parseItem 126 = .ok (.aaload, 1) := by decide +kernel
theorem dX9_parseItem_127 : decode cX9_parseItem 127 = .ok (.aload_n 0, 1) := by decide +kernel
theorem dX9_parseItem_128 : decode cX9_parseItem 128 = .ok (.getfield 15, 3) := by decide +kernel
theorem dX9_parseItem_131 : decode cX9_parseItem 131 = .ok (.getfield 31, 3) := by decide +kernel
theorem dX9_parseItem_134 : decode cX9_parseItem 134 = .ok (.putfield 90, 3) := by decide +kernel
theorem dX9_parseItem_137 : decode cX9_parseItem 137 = .ok (.iconst 1, 1) := by decide +kernel
theorem dX9_parseItem_138 : decode cX9_parseItem 138 = .ok (.ireturn, 1) := by decide +kernel
theorem vc_X9_parseItem_0 {G : zG} {d : Nat} {Q : Option zV → zHp → Prop} (p1 : Int) (p2 : Int) (h : zHp) (hS : zSh h) (hd : 9 ≤ d)  
    (hv : (zT 369 (gR h 211 1) = (108, 2) ∧ (wpN G (d - 1) M_X8_append 0 (zar 0 [vR (gR h 211 1), vI p1]) [] h (qI (fun z1 h2 => zSh h2 ∧ ((z1 ≠ (-1) → (((gI h2 211 3) ≠ 63 → (((gI h2 211 3) = 46 → (zT 369 (gR h2 211 1) = (108, 2) ∧ (((0 : Int) ≤ z1 ∧ z1 < ((24 : Nat) : Int)) ∧ (wpN G (d - 1) M_X9_parseGap 0 (zar 0 [vR 211, vR ((gR h2 211 1) + 2 + z1.toNat)]) [] h2 (qI (fun z8 h9 => zSh h9 ∧ ((z8 = 0 → Q (some (vI 0)) h9) ∧ (z8 ≠ 0 → (wpN G (d - 1) M_X9_parseSign 0 (zar 0 [vR 211, vI 59]) [] h9 (qI (fun z13 h14 => zSh h14 ∧ ((z13 ≠ 0 → (zT 369 (gR h14 211 1) = (108, 2) ∧ (((0 : Int) ≤ z1 ∧ z1 < ((24 : Nat) : Int)) ∧ (zT 369 (gR h14 211 1) = (108, 2) ∧ (∀ h18 : zHp, h18 = sI h14 ((gR h14 211 1) + 2 + z1.toNat) 5 (gI h14 (gR h14 211 1) 1) → Q (some (vI 1)) h18))))) ∧ (z13 = 0 → Q (some (vI 0)) h14))))))))))))) ∧ ((gI h2 211 3) ≠ 46 → (((gI h2 211 3) ≠ 64 → (wpN G (d - 1) M_X9_parseName 0 (zar 0 [vR 211, vI z1]) [] h2 (qI (fun z21 h22 => zSh h22 ∧ ((z21 = 0 → Q (some (vI 0)) h22) ∧ (z21 ≠ 0 → (wpN G (d - 1) M_X9_parseType 0 (zar 0 [vR 211, vI z1, vI p2]) [] h22 (qI (fun z27 h28 => zSh h28 ∧ ((z27 = 0 → Q (some (vI 0)) h28) ∧ (z27 ≠ 0 → (wpN G (d - 1) M_X9_parseSign 0 (zar 0 [vR 211, vI 59]) [] h28 (qI (fun z34 h35 => zSh h35 ∧ ((z34 ≠ 0 → (zT 369 (gR h35 211 1) = (108, 2) ∧ (((0 : Int) ≤ z1 ∧ z1 < ((24 : Nat) : Int)) ∧ (zT 369 (gR h35 211 1) = (108, 2) ∧ (∀ h39 : zHp, h39 = sI h35 ((gR h35 211 1) + 2 + z1.toNat) 5 (gI h35 (gR h35 211 1) 1) → Q (some (vI 1)) h39))))) ∧ (z34 = 0 → Q (some (vI 0)) h35)))))))))))))))) ∧ ((gI h2 211 3) = 64 → (zT 369 (gR h2 211 1) = (108, 2) ∧ (((0 : Int) ≤ z1 ∧ z1 < ((24 : Nat) : Int)) ∧ (wpN G (d - 1) M_X9_parseGap 0 (zar 0 [vR 211, vR ((gR h2 211 1) + 2 + z1.toNat)]) [] h2 (qI (fun z41 h42 => zSh h42 ∧ ((z41 = 0 → Q (some (vI 0)) h42) ∧ (z41 ≠ 0 → (wpN G (d - 1) M_X9_parseSign 0 (zar 0 [vR 211, vI 59]) [] h42 (qI (fun z46 h47 => zSh h47 ∧ ((z46 ≠ 0 → (zT 369 (gR h47 211 1) = (108, 2) ∧ (((0 : Int) ≤ z1 ∧ z1 < ((24 : Nat) : Int)) ∧ (zT 369 (gR h47 211 1) = (108, 2) ∧ (∀ h51 : zHp, h51 = sI h47 ((gR h47 211 1) + 2 + z1.toNat) 5 (gI h47 (gR h47 211 1) 1) → Q (some (vI 1)) h51))))) ∧ (z46 = 0 → Q (some (vI 0)) h47))))))))))))))))) ∧ ((gI h2 211 3) = 63 → (wpN G (d - 1) M_X9_parseCondition 0 (zar 0 [vR 211, vI z1]) [] h2 (qI (fun z53 h54 => zSh h54 ∧ ((z53 ≠ 0 → (((gI h54 211 3) = 46 → (zT 369 (gR h54 211 1) = (108, 2) ∧ (((0 : Int) ≤ z1 ∧ z1 < ((24 : Nat) : Int)) ∧ (wpN G (d - 1) M_X9_parseGap 0 (zar 0 [vR 211, vR ((gR h54 211 1) + 2 + z1.toNat)]) [] h54 (qI (fun z59 h60 => zSh h60 ∧ ((z59 = 0 → Q (some (vI 0)) h60) ∧ (z59 ≠ 0 → (wpN G (d - 1) M_X9_parseSign 0 (zar 0 [vR 211, vI 59]) [] h60 (qI (fun z64 h65 => zSh h65 ∧ ((z64 ≠ 0 → (zT 369 (gR h65 211 1) = (108, 2) ∧ (((0 : Int) ≤ z1 ∧ z1 < ((24 : Nat) : Int)) ∧ (zT 369 (gR h65 211 1) = (108, 2) ∧ (∀ h69 : zHp, h69 = sI h65 ((gR h65 211 1) + 2 + z1.toNat) 5 (gI h65 (gR h65 211 1) 1) → Q (some (vI 1)) h69))))) ∧ (z64 = 0 → Q (some (vI 0)) h65))))))))))))) ∧ ((gI h54 211 3) ≠ 46 → (((gI h54 211 3) ≠ 64 → (wpN G (d - 1) M_X9_parseName 0 (zar 0 [vR 211, vI z1]) [] h54 (qI (fun z72 h73 => zSh h73 ∧ ((z72 = 0 → Q (some (vI 0)) h73) ∧ (z72 ≠ 0 → (wpN G (d - 1) M_X9_parseType 0 (zar 0 [vR 211, vI z1, vI p2]) [] h73 (qI (fun z78 h79 => zSh h79 ∧ ((z78 = 0 → Q (some (vI 0)) h79) ∧ (z78 ≠ 0 → (wpN G (d - 1) M_X9_parseSign 0 (zar 0 [vR 211, vI 59]) [] h79 (qI (fun z85 h86 => zSh h86 ∧ ((z85 ≠ 0 → (zT 369 (gR h86 211 1) = (108, 2) ∧ (((0 : Int) ≤ z1 ∧ z1 < ((24 : Nat) : Int)) ∧ (zT 369 (gR h86 211 1) = (108, 2) ∧ (∀ h90 : zHp, h90 = sI h86 ((gR h86 211 1) + 2 + z1.toNat) 5 (gI h86 (gR h86 211 1) 1) → Q (some (vI 1)) h90))))) ∧ (z85 = 0 → Q (some (vI 0)) h86)))))))))))))))) ∧ ((gI h54 211 3) = 64 → (zT 369 (gR h54 211 1) = (108, 2) ∧ (((0 : Int) ≤ z1 ∧ z1 < ((24 : Nat) : Int)) ∧ (wpN G (d - 1) M_X9_parseGap 0 (zar 0 [vR 211, vR ((gR h54 211 1) + 2 + z1.toNat)]) [] h54 (qI (fun z92 h93 => zSh h93 ∧ ((z92 = 0 → Q (some (vI 0)) h93) ∧ (z92 ≠ 0 → (wpN G (d - 1) M_X9_parseSign 0 (zar 0 [vR 211, vI 59]) [] h93 (qI (fun z97 h98 => zSh h98 ∧ ((z97 ≠ 0 → (zT 369 (gR h98 211 1) = (108, 2) ∧ (((0 : Int) ≤ z1 ∧ z1 < ((24 : Nat) : Int)) ∧ (zT 369 (gR h98 211 1) = (108, 2) ∧ (∀ h102 : zHp, h102 = sI h98 ((gR h98 211 1) + 2 + z1.toNat) 5 (gI h98 (gR h98 211 1) 1) → Q (some (vI 1)) h102))))) ∧ (z97 = 0 → Q (some (vI 0)) h98))))))))))))))))) ∧ (z53 = 0 → Q (some (vI 0)) h54)))))))) ∧ (z1 = (-1) → (wpN G (d - 1) M_X9_refuse 0 (zar 0 [vR 211, vI (gI h2 211 2)]) [] h2 (qI (fun z104 h105 => zSh h105 ∧ ((z104 = 0 ∨ z104 = 1) ∧ Q (some (vI z104)) h105))))))))))) : wpN G d M_X9_parseItem 0 [(0, vR 211), (1, vI p1), (2, vI p2)] [] h Q := by
  refine wq_aload_n 0 rfl rfl dX9_parseItem_0 ?_
  refine wq_getR fk_X9_15 tT_211 (fun _ _ _ => rfl) rfl (zT_nz hv.1 (by decide)) dX9_parseItem_1 ?_
  refine wq_iload_n 1 rfl rfl dX9_parseItem_4 ?_
  refine wN_V (As := [vI p1]) vm_X8_append lk_X9_66 hv.1 rfl rfl (Nat.le_of_ble_eq_true rfl) (Nat.le_of_ble_eq_true rfl) (d' := d - 1) (by omega) dX9_parseItem_5 hv.2 (fun v9 h2 q3 => ?_)
  obtain ⟨z1, rfl, hS4, q3⟩ := q3
  refine wq_st (st' := [vI z1]) rfl ?_
  refine wq_istore_n (ls' := [(0, vR 211), (1, vI p1), (2, vI p2), (3, vI z1)]) rfl (by decide) rfl dX9_parseItem_8 ?_
  refine wq_iload_n 3 rfl rfl dX9_parseItem_9 ?_
  refine wq_iconst (z := -1) (zlit rfl) dX9_parseItem_10 ?_
  refine wq_icmp_ne 23 rfl dX9_parseItem_11 (fun c5 => ?_) (fun c5 => ?_)
  · refine wq_aload_n 0 rfl rfl dX9_parseItem_23 ?_
    refine wq_getI fk_X9_25 tT_211 (fun _ _ _ => rfl) dX9_parseItem_24 ?_
    refine wq_bipush (z := 63) (zlit rfl) rfl dX9_parseItem_27 ?_
    refine wq_icmp_ne 42 rfl dX9_parseItem_29 (fun c6 => ?_) (fun c6 => ?_)
    · refine wq_aload_n 0 rfl rfl dX9_parseItem_42 ?_
      refine wq_getI fk_X9_25 tT_211 (fun _ _ _ => rfl) dX9_parseItem_43 ?_
      refine wq_bipush (z := 46) (zlit rfl) rfl dX9_parseItem_46 ?_
      refine wq_icmp_eq 60 rfl dX9_parseItem_48 (fun c7 => ?_) (fun c7 => ?_)
      · refine wq_aload_n 0 rfl rfl dX9_parseItem_60 ?_
        refine wq_aload_n 0 rfl rfl dX9_parseItem_61 ?_
        refine wq_getR fk_X9_15 tT_211 (fun _ _ _ => rfl) rfl (zT_nz (((q3.1 c5).1 c6).1 c7).1 (by decide)) dX9_parseItem_62 ?_
        refine wq_getR (r := ((gR h2 211 1) + 1)) fk_X9_73 (((q3.1 c5).1 c6).1 c7).1 (fun _ _ _ => rfl) (sh_8_0 hS4 (((q3.1 c5).1 c6).1 c7).1) (by omega) dX9_parseItem_65 ?_
        refine wq_iload_n 3 rfl rfl dX9_parseItem_68 ?_
        refine wq_aald (r := ((gR h2 211 1) + 2 + z1.toNat)) (ztm0 (((q3.1 c5).1 c6).1 c7).1) (by decide) (by decide) rfl (((q3.1 c5).1 c6).1 c7).2.1.1 (((q3.1 c5).1 c6).1 c7).2.1.2 (sh_itm hS4 (((q3.1 c5).1 c6).1 c7).1 (zlt_n (((q3.1 c5).1 c6).1 c7).2.1.1 (((q3.1 c5).1 c6).1 c7).2.1.2)) (by omega) dX9_parseItem_69 ?_
        refine wN_V (As := [vR ((gR h2 211 1) + 2 + z1.toNat)]) vm_X9_parseGap lk_X9_77 tT_211 rfl rfl (Nat.le_of_ble_eq_true rfl) (Nat.le_of_ble_eq_true rfl) (d' := d - 1) (by omega) dX9_parseItem_70 (((q3.1 c5).1 c6).1 c7).2.2 (fun v9 h9 q10 => ?_)
        obtain ⟨z8, rfl, hS11, q10⟩ := q10
        refine wq_st (st' := [vI z8]) rfl ?_
        refine wq_istore (ls' := [(0, vR 211), (1, vI p1), (2, vI p2), (3, vI z1), (4, vI z8)]) (by decide) rfl dX9_parseItem_73 ?_
        refine wq_goto 102 rfl dX9_parseItem_75 ?_
        refine wq_iload 4 rfl dX9_parseItem_102 ?_
        refine wq_if_eq 116 rfl dX9_parseItem_104 (fun c12 => ?_) (fun c12 => ?_)
        · refine wq_iconst (z := 0) (zlit rfl) dX9_parseItem_116 ?_
          exact wp_zret (Or.inl rfl) rfl dX9_parseItem_117 (q10.1 c12)
        · refine wq_aload_n 0 rfl rfl dX9_parseItem_107 ?_
          refine wq_bipush (z := 59) (zlit rfl) rfl dX9_parseItem_108 ?_
          refine wN_V (As := [vI 59]) vm_X9_parseSign lk_X9_87 tT_211 rfl rfl (Nat.le_of_ble_eq_true rfl) (Nat.le_of_ble_eq_true rfl) (d' := d - 1) (by omega) dX9_parseItem_110 (q10.2 c12) (fun v9 h14 q15 => ?_)
          obtain ⟨z13, rfl, hS16, q15⟩ := q15
          refine wq_st (st' := [vI z13]) rfl ?_
          refine wq_if_ne 118 rfl dX9_parseItem_113 (fun c17 => ?_) (fun c17 => ?_)
          · refine wq_aload_n 0 rfl rfl dX9_parseItem_118 ?_
            refine wq_getR fk_X9_15 tT_211 (fun _ _ _ => rfl) rfl (zT_nz (q15.1 c17).1 (by decide)) dX9_parseItem_119 ?_
            refine wq_getR (r := ((gR h14 211 1) + 1)) fk_X9_73 (q15.1 c17).1 (fun _ _ _ => rfl) (sh_8_0 hS16 (q15.1 c17).1) (by omega) dX9_parseItem_122 ?_
            refine wq_iload_n 3 rfl rfl dX9_parseItem_125 ?_
            refine wq_aald (r := ((gR h14 211 1) + 2 + z1.toNat)) (ztm0 (q15.1 c17).1) (by decide) (by decide) rfl (q15.1 c17).2.1.1 (q15.1 c17).2.1.2 (sh_itm hS16 (q15.1 c17).1 (zlt_n (q15.1 c17).2.1.1 (q15.1 c17).2.1.2)) (by omega) dX9_parseItem_126 ?_
            refine wq_aload_n 0 rfl rfl dX9_parseItem_127 ?_
            refine wq_getR fk_X9_15 tT_211 (fun _ _ _ => rfl) rfl (zT_nz (q15.1 c17).2.2.1 (by decide)) dX9_parseItem_128 ?_
            refine wq_getI fk_X9_31 (q15.1 c17).2.2.1 (fun _ _ _ => rfl) dX9_parseItem_131 ?_
            refine wq_putI fk_X9_90 (zitm (q15.1 c17).1 (zlt_n (q15.1 c17).2.1.1 (q15.1 c17).2.1.2)) rfl rfl dX9_parseItem_134 ?_
            refine wq_toph (fun h18 e19 => ?_)
            have sh18 : zSh h18 := zSh_of e19 hS16
            refine wq_iconst (z := 1) (zlit rfl) dX9_parseItem_137 ?_
            exact wp_zret (Or.inr rfl) rfl dX9_parseItem_138 ((q15.1 c17).2.2.2 h18 e19)
          · refine wq_iconst (z := 0) (zlit rfl) dX9_parseItem_116 ?_
            exact wp_zret (Or.inl rfl) rfl dX9_parseItem_117 (q15.2 c17)
      · refine wq_aload_n 0 rfl rfl dX9_parseItem_51 ?_
        refine wq_getI fk_X9_25 tT_211 (fun _ _ _ => rfl) dX9_parseItem_52 ?_
        refine wq_bipush (z := 64) (zlit rfl) rfl dX9_parseItem_55 ?_
        refine wq_icmp_ne 78 rfl dX9_parseItem_57 (fun c20 => ?_) (fun c20 => ?_)
        · refine wq_aload_n 0 rfl rfl dX9_parseItem_78 ?_
          refine wq_iload_n 3 rfl rfl dX9_parseItem_79 ?_
          refine wN_V (As := [vI z1]) vm_X9_parseName lk_X9_81 tT_211 rfl rfl (Nat.le_of_ble_eq_true rfl) (Nat.le_of_ble_eq_true rfl) (d' := d - 1) (by omega) dX9_parseItem_80 ((((q3.1 c5).1 c6).2 c7).1 c20) (fun v9 h22 q23 => ?_)
          obtain ⟨z21, rfl, hS24, q23⟩ := q23
          refine wq_st (st' := [vI z21]) rfl ?_
          refine wq_if_eq 99 rfl dX9_parseItem_83 (fun c25 => ?_) (fun c25 => ?_)
          · refine wq_iconst (z := 0) (zlit rfl) dX9_parseItem_99 ?_
            refine wq_istore (ls' := [(0, vR 211), (1, vI p1), (2, vI p2), (3, vI z1), (4, vI 0)]) (by decide) rfl dX9_parseItem_100 ?_
            refine wq_iload 4 rfl dX9_parseItem_102 ?_
            refine wq_if_eq 116 rfl dX9_parseItem_104 (fun _ => ?_) (fun c26 => absurd c26 (by decide))
            refine wq_iconst (z := 0) (zlit rfl) dX9_parseItem_116 ?_
            exact wp_zret (Or.inl rfl) rfl dX9_parseItem_117 (q23.1 c25)
          · refine wq_aload_n 0 rfl rfl dX9_parseItem_86 ?_
            refine wq_iload_n 3 rfl rfl dX9_parseItem_87 ?_
            refine wq_iload_n 2 rfl rfl dX9_parseItem_88 ?_
            refine wN_V (As := [vI z1, vI p2]) vm_X9_parseType lk_X9_84 tT_211 rfl rfl (Nat.le_of_ble_eq_true rfl) (Nat.le_of_ble_eq_true rfl) (d' := d - 1) (by omega) dX9_parseItem_89 (q23.2 c25) (fun v9 h28 q29 => ?_)
            obtain ⟨z27, rfl, hS30, q29⟩ := q29
            refine wq_st (st' := [vI z27]) rfl ?_
            refine wq_if_eq 99 rfl dX9_parseItem_92 (fun c31 => ?_) (fun c31 => ?_)
            · refine wq_iconst (z := 0) (zlit rfl) dX9_parseItem_99 ?_
              refine wq_istore (ls' := [(0, vR 211), (1, vI p1), (2, vI p2), (3, vI z1), (4, vI 0)]) (by decide) rfl dX9_parseItem_100 ?_
              refine wq_iload 4 rfl dX9_parseItem_102 ?_
              refine wq_if_eq 116 rfl dX9_parseItem_104 (fun _ => ?_) (fun c32 => absurd c32 (by decide))
              refine wq_iconst (z := 0) (zlit rfl) dX9_parseItem_116 ?_
              exact wp_zret (Or.inl rfl) rfl dX9_parseItem_117 (q29.1 c31)
            · refine wq_iconst (z := 1) (zlit rfl) dX9_parseItem_95 ?_
              refine wq_goto 100 rfl dX9_parseItem_96 ?_
              refine wq_istore (ls' := [(0, vR 211), (1, vI p1), (2, vI p2), (3, vI z1), (4, vI 1)]) (by decide) rfl dX9_parseItem_100 ?_
              refine wq_iload 4 rfl dX9_parseItem_102 ?_
              refine wq_if_eq 116 rfl dX9_parseItem_104 (fun c33 => absurd c33 (by decide)) (fun _ => ?_)
              refine wq_aload_n 0 rfl rfl dX9_parseItem_107 ?_
              refine wq_bipush (z := 59) (zlit rfl) rfl dX9_parseItem_108 ?_
              refine wN_V (As := [vI 59]) vm_X9_parseSign lk_X9_87 tT_211 rfl rfl (Nat.le_of_ble_eq_true rfl) (Nat.le_of_ble_eq_true rfl) (d' := d - 1) (by omega) dX9_parseItem_110 (q29.2 c31) (fun v9 h35 q36 => ?_)
              obtain ⟨z34, rfl, hS37, q36⟩ := q36
              refine wq_st (st' := [vI z34]) rfl ?_
              refine wq_if_ne 118 rfl dX9_parseItem_113 (fun c38 => ?_) (fun c38 => ?_)
              · refine wq_aload_n 0 rfl rfl dX9_parseItem_118 ?_
                refine wq_getR fk_X9_15 tT_211 (fun _ _ _ => rfl) rfl (zT_nz (q36.1 c38).1 (by decide)) dX9_parseItem_119 ?_
                refine wq_getR (r := ((gR h35 211 1) + 1)) fk_X9_73 (q36.1 c38).1 (fun _ _ _ => rfl) (sh_8_0 hS37 (q36.1 c38).1) (by omega) dX9_parseItem_122 ?_
                refine wq_iload_n 3 rfl rfl dX9_parseItem_125 ?_
                refine wq_aald (r := ((gR h35 211 1) + 2 + z1.toNat)) (ztm0 (q36.1 c38).1) (by decide) (by decide) rfl (q36.1 c38).2.1.1 (q36.1 c38).2.1.2 (sh_itm hS37 (q36.1 c38).1 (zlt_n (q36.1 c38).2.1.1 (q36.1 c38).2.1.2)) (by omega) dX9_parseItem_126 ?_
                refine wq_aload_n 0 rfl rfl dX9_parseItem_127 ?_
                refine wq_getR fk_X9_15 tT_211 (fun _ _ _ => rfl) rfl (zT_nz (q36.1 c38).2.2.1 (by decide)) dX9_parseItem_128 ?_
                refine wq_getI fk_X9_31 (q36.1 c38).2.2.1 (fun _ _ _ => rfl) dX9_parseItem_131 ?_
                refine wq_putI fk_X9_90 (zitm (q36.1 c38).1 (zlt_n (q36.1 c38).2.1.1 (q36.1 c38).2.1.2)) rfl rfl dX9_parseItem_134 ?_
                refine wq_toph (fun h39 e40 => ?_)
                have sh39 : zSh h39 := zSh_of e40 hS37
                refine wq_iconst (z := 1) (zlit rfl) dX9_parseItem_137 ?_
                exact wp_zret (Or.inr rfl) rfl dX9_parseItem_138 ((q36.1 c38).2.2.2 h39 e40)
              · refine wq_iconst (z := 0) (zlit rfl) dX9_parseItem_116 ?_
                exact wp_zret (Or.inl rfl) rfl dX9_parseItem_117 (q36.2 c38)
        · refine wq_aload_n 0 rfl rfl dX9_parseItem_60 ?_
          refine wq_aload_n 0 rfl rfl dX9_parseItem_61 ?_
          refine wq_getR fk_X9_15 tT_211 (fun _ _ _ => rfl) rfl (zT_nz ((((q3.1 c5).1 c6).2 c7).2 c20).1 (by decide)) dX9_parseItem_62 ?_
          refine wq_getR (r := ((gR h2 211 1) + 1)) fk_X9_73 ((((q3.1 c5).1 c6).2 c7).2 c20).1 (fun _ _ _ => rfl) (sh_8_0 hS4 ((((q3.1 c5).1 c6).2 c7).2 c20).1) (by omega) dX9_parseItem_65 ?_
          refine wq_iload_n 3 rfl rfl dX9_parseItem_68 ?_
          refine wq_aald (r := ((gR h2 211 1) + 2 + z1.toNat)) (ztm0 ((((q3.1 c5).1 c6).2 c7).2 c20).1) (by decide) (by decide) rfl ((((q3.1 c5).1 c6).2 c7).2 c20).2.1.1 ((((q3.1 c5).1 c6).2 c7).2 c20).2.1.2 (sh_itm hS4 ((((q3.1 c5).1 c6).2 c7).2 c20).1 (zlt_n ((((q3.1 c5).1 c6).2 c7).2 c20).2.1.1 ((((q3.1 c5).1 c6).2 c7).2 c20).2.1.2)) (by omega) dX9_parseItem_69 ?_
          refine wN_V (As := [vR ((gR h2 211 1) + 2 + z1.toNat)]) vm_X9_parseGap lk_X9_77 tT_211 rfl rfl (Nat.le_of_ble_eq_true rfl) (Nat.le_of_ble_eq_true rfl) (d' := d - 1) (by omega) dX9_parseItem_70 ((((q3.1 c5).1 c6).2 c7).2 c20).2.2 (fun v9 h42 q43 => ?_)
          obtain ⟨z41, rfl, hS44, q43⟩ := q43
          refine wq_st (st' := [vI z41]) rfl ?_
          refine wq_istore (ls' := [(0, vR 211), (1, vI p1), (2, vI p2), (3, vI z1), (4, vI z41)]) (by decide) rfl dX9_parseItem_73 ?_
          refine wq_goto 102 rfl dX9_parseItem_75 ?_
          refine wq_iload 4 rfl dX9_parseItem_102 ?_
          refine wq_if_eq 116 rfl dX9_parseItem_104 (fun c45 => ?_) (fun c45 => ?_)
          · refine wq_iconst (z := 0) (zlit rfl) dX9_parseItem_116 ?_
            exact wp_zret (Or.inl rfl) rfl dX9_parseItem_117 (q43.1 c45)
          · refine wq_aload_n 0 rfl rfl dX9_parseItem_107 ?_
            refine wq_bipush (z := 59) (zlit rfl) rfl dX9_parseItem_108 ?_
            refine wN_V (As := [vI 59]) vm_X9_parseSign lk_X9_87 tT_211 rfl rfl (Nat.le_of_ble_eq_true rfl) (Nat.le_of_ble_eq_true rfl) (d' := d - 1) (by omega) dX9_parseItem_110 (q43.2 c45) (fun v9 h47 q48 => ?_)
            obtain ⟨z46, rfl, hS49, q48⟩ := q48
            refine wq_st (st' := [vI z46]) rfl ?_
            refine wq_if_ne 118 rfl dX9_parseItem_113 (fun c50 => ?_) (fun c50 => ?_)
            · refine wq_aload_n 0 rfl rfl dX9_parseItem_118 ?_
              refine wq_getR fk_X9_15 tT_211 (fun _ _ _ => rfl) rfl (zT_nz (q48.1 c50).1 (by decide)) dX9_parseItem_119 ?_
              refine wq_getR (r := ((gR h47 211 1) + 1)) fk_X9_73 (q48.1 c50).1 (fun _ _ _ => rfl) (sh_8_0 hS49 (q48.1 c50).1) (by omega) dX9_parseItem_122 ?_
              refine wq_iload_n 3 rfl rfl dX9_parseItem_125 ?_
              refine wq_aald (r := ((gR h47 211 1) + 2 + z1.toNat)) (ztm0 (q48.1 c50).1) (by decide) (by decide) rfl (q48.1 c50).2.1.1 (q48.1 c50).2.1.2 (sh_itm hS49 (q48.1 c50).1 (zlt_n (q48.1 c50).2.1.1 (q48.1 c50).2.1.2)) (by omega) dX9_parseItem_126 ?_
              refine wq_aload_n 0 rfl rfl dX9_parseItem_127 ?_
              refine wq_getR fk_X9_15 tT_211 (fun _ _ _ => rfl) rfl (zT_nz (q48.1 c50).2.2.1 (by decide)) dX9_parseItem_128 ?_
              refine wq_getI fk_X9_31 (q48.1 c50).2.2.1 (fun _ _ _ => rfl) dX9_parseItem_131 ?_
              refine wq_putI fk_X9_90 (zitm (q48.1 c50).1 (zlt_n (q48.1 c50).2.1.1 (q48.1 c50).2.1.2)) rfl rfl dX9_parseItem_134 ?_
              refine wq_toph (fun h51 e52 => ?_)
              have sh51 : zSh h51 := zSh_of e52 hS49
              refine wq_iconst (z := 1) (zlit rfl) dX9_parseItem_137 ?_
              exact wp_zret (Or.inr rfl) rfl dX9_parseItem_138 ((q48.1 c50).2.2.2 h51 e52)
            · refine wq_iconst (z := 0) (zlit rfl) dX9_parseItem_116 ?_
              exact wp_zret (Or.inl rfl) rfl dX9_parseItem_117 (q48.2 c50)
    · refine wq_aload_n 0 rfl rfl dX9_parseItem_32 ?_
      refine wq_iload_n 3 rfl rfl dX9_parseItem_33 ?_
      refine wN_V (As := [vI z1]) vm_X9_parseCondition lk_X9_70 tT_211 rfl rfl (Nat.le_of_ble_eq_true rfl) (Nat.le_of_ble_eq_true rfl) (d' := d - 1) (by omega) dX9_parseItem_34 ((q3.1 c5).2 c6) (fun v9 h54 q55 => ?_)
      obtain ⟨z53, rfl, hS56, q55⟩ := q55
      refine wq_st (st' := [vI z53]) rfl ?_
      refine wq_if_ne 42 rfl dX9_parseItem_37 (fun c57 => ?_) (fun c57 => ?_)
      · refine wq_aload_n 0 rfl rfl dX9_parseItem_42 ?_
        refine wq_getI fk_X9_25 tT_211 (fun _ _ _ => rfl) dX9_parseItem_43 ?_
        refine wq_bipush (z := 46) (zlit rfl) rfl dX9_parseItem_46 ?_
        refine wq_icmp_eq 60 rfl dX9_parseItem_48 (fun c58 => ?_) (fun c58 => ?_)
        · refine wq_aload_n 0 rfl rfl dX9_parseItem_60 ?_
          refine wq_aload_n 0 rfl rfl dX9_parseItem_61 ?_
          refine wq_getR fk_X9_15 tT_211 (fun _ _ _ => rfl) rfl (zT_nz ((q55.1 c57).1 c58).1 (by decide)) dX9_parseItem_62 ?_
          refine wq_getR (r := ((gR h54 211 1) + 1)) fk_X9_73 ((q55.1 c57).1 c58).1 (fun _ _ _ => rfl) (sh_8_0 hS56 ((q55.1 c57).1 c58).1) (by omega) dX9_parseItem_65 ?_
          refine wq_iload_n 3 rfl rfl dX9_parseItem_68 ?_
          refine wq_aald (r := ((gR h54 211 1) + 2 + z1.toNat)) (ztm0 ((q55.1 c57).1 c58).1) (by decide) (by decide) rfl ((q55.1 c57).1 c58).2.1.1 ((q55.1 c57).1 c58).2.1.2 (sh_itm hS56 ((q55.1 c57).1 c58).1 (zlt_n ((q55.1 c57).1 c58).2.1.1 ((q55.1 c57).1 c58).2.1.2)) (by omega) dX9_parseItem_69 ?_
          refine wN_V (As := [vR ((gR h54 211 1) + 2 + z1.toNat)]) vm_X9_parseGap lk_X9_77 tT_211 rfl rfl (Nat.le_of_ble_eq_true rfl) (Nat.le_of_ble_eq_true rfl) (d' := d - 1) (by omega) dX9_parseItem_70 ((q55.1 c57).1 c58).2.2 (fun v9 h60 q61 => ?_)
          obtain ⟨z59, rfl, hS62, q61⟩ := q61
          refine wq_st (st' := [vI z59]) rfl ?_
          refine wq_istore (ls' := [(0, vR 211), (1, vI p1), (2, vI p2), (3, vI z1), (4, vI z59)]) (by decide) rfl dX9_parseItem_73 ?_
          refine wq_goto 102 rfl dX9_parseItem_75 ?_
          refine wq_iload 4 rfl dX9_parseItem_102 ?_
          refine wq_if_eq 116 rfl dX9_parseItem_104 (fun c63 => ?_) (fun c63 => ?_)
          · refine wq_iconst (z := 0) (zlit rfl) dX9_parseItem_116 ?_
            exact wp_zret (Or.inl rfl) rfl dX9_parseItem_117 (q61.1 c63)
          · refine wq_aload_n 0 rfl rfl dX9_parseItem_107 ?_
            refine wq_bipush (z := 59) (zlit rfl) rfl dX9_parseItem_108 ?_
            refine wN_V (As := [vI 59]) vm_X9_parseSign lk_X9_87 tT_211 rfl rfl (Nat.le_of_ble_eq_true rfl) (Nat.le_of_ble_eq_true rfl) (d' := d - 1) (by omega) dX9_parseItem_110 (q61.2 c63) (fun v9 h65 q66 => ?_)
            obtain ⟨z64, rfl, hS67, q66⟩ := q66
            refine wq_st (st' := [vI z64]) rfl ?_
            refine wq_if_ne 118 rfl dX9_parseItem_113 (fun c68 => ?_) (fun c68 => ?_)
            · refine wq_aload_n 0 rfl rfl dX9_parseItem_118 ?_
              refine wq_getR fk_X9_15 tT_211 (fun _ _ _ => rfl) rfl (zT_nz (q66.1 c68).1 (by decide)) dX9_parseItem_119 ?_
              refine wq_getR (r := ((gR h65 211 1) + 1)) fk_X9_73 (q66.1 c68).1 (fun _ _ _ => rfl) (sh_8_0 hS67 (q66.1 c68).1) (by omega) dX9_parseItem_122 ?_
              refine wq_iload_n 3 rfl rfl dX9_parseItem_125 ?_
              refine wq_aald (r := ((gR h65 211 1) + 2 + z1.toNat)) (ztm0 (q66.1 c68).1) (by decide) (by decide) rfl (q66.1 c68).2.1.1 (q66.1 c68).2.1.2 (sh_itm hS67 (q66.1 c68).1 (zlt_n (q66.1 c68).2.1.1 (q66.1 c68).2.1.2)) (by omega) dX9_parseItem_126 ?_
              refine wq_aload_n 0 rfl rfl dX9_parseItem_127 ?_
              refine wq_getR fk_X9_15 tT_211 (fun _ _ _ => rfl) rfl (zT_nz (q66.1 c68).2.2.1 (by decide)) dX9_parseItem_128 ?_
              refine wq_getI fk_X9_31 (q66.1 c68).2.2.1 (fun _ _ _ => rfl) dX9_parseItem_131 ?_
              refine wq_putI fk_X9_90 (zitm (q66.1 c68).1 (zlt_n (q66.1 c68).2.1.1 (q66.1 c68).2.1.2)) rfl rfl dX9_parseItem_134 ?_
              refine wq_toph (fun h69 e70 => ?_)
              have sh69 : zSh h69 := zSh_of e70 hS67
              refine wq_iconst (z := 1) (zlit rfl) dX9_parseItem_137 ?_
              exact wp_zret (Or.inr rfl) rfl dX9_parseItem_138 ((q66.1 c68).2.2.2 h69 e70)
            · refine wq_iconst (z := 0) (zlit rfl) dX9_parseItem_116 ?_
              exact wp_zret (Or.inl rfl) rfl dX9_parseItem_117 (q66.2 c68)
        · refine wq_aload_n 0 rfl rfl dX9_parseItem_51 ?_
          refine wq_getI fk_X9_25 tT_211 (fun _ _ _ => rfl) dX9_parseItem_52 ?_
          refine wq_bipush (z := 64) (zlit rfl) rfl dX9_parseItem_55 ?_
          refine wq_icmp_ne 78 rfl dX9_parseItem_57 (fun c71 => ?_) (fun c71 => ?_)
          · refine wq_aload_n 0 rfl rfl dX9_parseItem_78 ?_
            refine wq_iload_n 3 rfl rfl dX9_parseItem_79 ?_
            refine wN_V (As := [vI z1]) vm_X9_parseName lk_X9_81 tT_211 rfl rfl (Nat.le_of_ble_eq_true rfl) (Nat.le_of_ble_eq_true rfl) (d' := d - 1) (by omega) dX9_parseItem_80 (((q55.1 c57).2 c58).1 c71) (fun v9 h73 q74 => ?_)
            obtain ⟨z72, rfl, hS75, q74⟩ := q74
            refine wq_st (st' := [vI z72]) rfl ?_
            refine wq_if_eq 99 rfl dX9_parseItem_83 (fun c76 => ?_) (fun c76 => ?_)
            · refine wq_iconst (z := 0) (zlit rfl) dX9_parseItem_99 ?_
              refine wq_istore (ls' := [(0, vR 211), (1, vI p1), (2, vI p2), (3, vI z1), (4, vI 0)]) (by decide) rfl dX9_parseItem_100 ?_
              refine wq_iload 4 rfl dX9_parseItem_102 ?_
              refine wq_if_eq 116 rfl dX9_parseItem_104 (fun _ => ?_) (fun c77 => absurd c77 (by decide))
              refine wq_iconst (z := 0) (zlit rfl) dX9_parseItem_116 ?_
              exact wp_zret (Or.inl rfl) rfl dX9_parseItem_117 (q74.1 c76)
            · refine wq_aload_n 0 rfl rfl dX9_parseItem_86 ?_
              refine wq_iload_n 3 rfl rfl dX9_parseItem_87 ?_
              refine wq_iload_n 2 rfl rfl dX9_parseItem_88 ?_
              refine wN_V (As := [vI z1, vI p2]) vm_X9_parseType lk_X9_84 tT_211 rfl rfl (Nat.le_of_ble_eq_true rfl) (Nat.le_of_ble_eq_true rfl) (d' := d - 1) (by omega) dX9_parseItem_89 (q74.2 c76) (fun v9 h79 q80 => ?_)
              obtain ⟨z78, rfl, hS81, q80⟩ := q80
              refine wq_st (st' := [vI z78]) rfl ?_
              refine wq_if_eq 99 rfl dX9_parseItem_92 (fun c82 => ?_) (fun c82 => ?_)
              · refine wq_iconst (z := 0) (zlit rfl) dX9_parseItem_99 ?_
                refine wq_istore (ls' := [(0, vR 211), (1, vI p1), (2, vI p2), (3, vI z1), (4, vI 0)]) (by decide) rfl dX9_parseItem_100 ?_
                refine wq_iload 4 rfl dX9_parseItem_102 ?_
                refine wq_if_eq 116 rfl dX9_parseItem_104 (fun _ => ?_) (fun c83 => absurd c83 (by decide))
                refine wq_iconst (z := 0) (zlit rfl) dX9_parseItem_116 ?_
                exact wp_zret (Or.inl rfl) rfl dX9_parseItem_117 (q80.1 c82)
              · refine wq_iconst (z := 1) (zlit rfl) dX9_parseItem_95 ?_
                refine wq_goto 100 rfl dX9_parseItem_96 ?_
                refine wq_istore (ls' := [(0, vR 211), (1, vI p1), (2, vI p2), (3, vI z1), (4, vI 1)]) (by decide) rfl dX9_parseItem_100 ?_
                refine wq_iload 4 rfl dX9_parseItem_102 ?_
                refine wq_if_eq 116 rfl dX9_parseItem_104 (fun c84 => absurd c84 (by decide)) (fun _ => ?_)
                refine wq_aload_n 0 rfl rfl dX9_parseItem_107 ?_
                refine wq_bipush (z := 59) (zlit rfl) rfl dX9_parseItem_108 ?_
                refine wN_V (As := [vI 59]) vm_X9_parseSign lk_X9_87 tT_211 rfl rfl (Nat.le_of_ble_eq_true rfl) (Nat.le_of_ble_eq_true rfl) (d' := d - 1) (by omega) dX9_parseItem_110 (q80.2 c82) (fun v9 h86 q87 => ?_)
                obtain ⟨z85, rfl, hS88, q87⟩ := q87
                refine wq_st (st' := [vI z85]) rfl ?_
                refine wq_if_ne 118 rfl dX9_parseItem_113 (fun c89 => ?_) (fun c89 => ?_)
                · refine wq_aload_n 0 rfl rfl dX9_parseItem_118 ?_
                  refine wq_getR fk_X9_15 tT_211 (fun _ _ _ => rfl) rfl (zT_nz (q87.1 c89).1 (by decide)) dX9_parseItem_119 ?_
                  refine wq_getR (r := ((gR h86 211 1) + 1)) fk_X9_73 (q87.1 c89).1 (fun _ _ _ => rfl) (sh_8_0 hS88 (q87.1 c89).1) (by omega) dX9_parseItem_122 ?_
                  refine wq_iload_n 3 rfl rfl dX9_parseItem_125 ?_
                  refine wq_aald (r := ((gR h86 211 1) + 2 + z1.toNat)) (ztm0 (q87.1 c89).1) (by decide) (by decide) rfl (q87.1 c89).2.1.1 (q87.1 c89).2.1.2 (sh_itm hS88 (q87.1 c89).1 (zlt_n (q87.1 c89).2.1.1 (q87.1 c89).2.1.2)) (by omega) dX9_parseItem_126 ?_
                  refine wq_aload_n 0 rfl rfl dX9_parseItem_127 ?_
                  refine wq_getR fk_X9_15 tT_211 (fun _ _ _ => rfl) rfl (zT_nz (q87.1 c89).2.2.1 (by decide)) dX9_parseItem_128 ?_
                  refine wq_getI fk_X9_31 (q87.1 c89).2.2.1 (fun _ _ _ => rfl) dX9_parseItem_131 ?_
                  refine wq_putI fk_X9_90 (zitm (q87.1 c89).1 (zlt_n (q87.1 c89).2.1.1 (q87.1 c89).2.1.2)) rfl rfl dX9_parseItem_134 ?_
                  refine wq_toph (fun h90 e91 => ?_)
                  have sh90 : zSh h90 := zSh_of e91 hS88
                  refine wq_iconst (z := 1) (zlit rfl) dX9_parseItem_137 ?_
                  exact wp_zret (Or.inr rfl) rfl dX9_parseItem_138 ((q87.1 c89).2.2.2 h90 e91)
                · refine wq_iconst (z := 0) (zlit rfl) dX9_parseItem_116 ?_
                  exact wp_zret (Or.inl rfl) rfl dX9_parseItem_117 (q87.2 c89)
          · refine wq_aload_n 0 rfl rfl dX9_parseItem_60 ?_
            refine wq_aload_n 0 rfl rfl dX9_parseItem_61 ?_
            refine wq_getR fk_X9_15 tT_211 (fun _ _ _ => rfl) rfl (zT_nz (((q55.1 c57).2 c58).2 c71).1 (by decide)) dX9_parseItem_62 ?_
            refine wq_getR (r := ((gR h54 211 1) + 1)) fk_X9_73 (((q55.1 c57).2 c58).2 c71).1 (fun _ _ _ => rfl) (sh_8_0 hS56 (((q55.1 c57).2 c58).2 c71).1) (by omega) dX9_parseItem_65 ?_
            refine wq_iload_n 3 rfl rfl dX9_parseItem_68 ?_
            refine wq_aald (r := ((gR h54 211 1) + 2 + z1.toNat)) (ztm0 (((q55.1 c57).2 c58).2 c71).1) (by decide) (by decide) rfl (((q55.1 c57).2 c58).2 c71).2.1.1 (((q55.1 c57).2 c58).2 c71).2.1.2 (sh_itm hS56 (((q55.1 c57).2 c58).2 c71).1 (zlt_n (((q55.1 c57).2 c58).2 c71).2.1.1 (((q55.1 c57).2 c58).2 c71).2.1.2)) (by omega) dX9_parseItem_69 ?_
            refine wN_V (As := [vR ((gR h54 211 1) + 2 + z1.toNat)]) vm_X9_parseGap lk_X9_77 tT_211 rfl rfl (Nat.le_of_ble_eq_true rfl) (Nat.le_of_ble_eq_true rfl) (d' := d - 1) (by omega) dX9_parseItem_70 (((q55.1 c57).2 c58).2 c71).2.2 (fun v9 h93 q94 => ?_)
            obtain ⟨z92, rfl, hS95, q94⟩ := q94
            refine wq_st (st' := [vI z92]) rfl ?_
            refine wq_istore (ls' := [(0, vR 211), (1, vI p1), (2, vI p2), (3, vI z1), (4, vI z92)]) (by decide) rfl dX9_parseItem_73 ?_
            refine wq_goto 102 rfl dX9_parseItem_75 ?_
            refine wq_iload 4 rfl dX9_parseItem_102 ?_
            refine wq_if_eq 116 rfl dX9_parseItem_104 (fun c96 => ?_) (fun c96 => ?_)
            · refine wq_iconst (z := 0) (zlit rfl) dX9_parseItem_116 ?_
              exact wp_zret (Or.inl rfl) rfl dX9_parseItem_117 (q94.1 c96)
            · refine wq_aload_n 0 rfl rfl dX9_parseItem_107 ?_
              refine wq_bipush (z := 59) (zlit rfl) rfl dX9_parseItem_108 ?_
              refine wN_V (As := [vI 59]) vm_X9_parseSign lk_X9_87 tT_211 rfl rfl (Nat.le_of_ble_eq_true rfl) (Nat.le_of_ble_eq_true rfl) (d' := d - 1) (by omega) dX9_parseItem_110 (q94.2 c96) (fun v9 h98 q99 => ?_)
              obtain ⟨z97, rfl, hS100, q99⟩ := q99
              refine wq_st (st' := [vI z97]) rfl ?_
              refine wq_if_ne 118 rfl dX9_parseItem_113 (fun c101 => ?_) (fun c101 => ?_)
              · refine wq_aload_n 0 rfl rfl dX9_parseItem_118 ?_
                refine wq_getR fk_X9_15 tT_211 (fun _ _ _ => rfl) rfl (zT_nz (q99.1 c101).1 (by decide)) dX9_parseItem_119 ?_
                refine wq_getR (r := ((gR h98 211 1) + 1)) fk_X9_73 (q99.1 c101).1 (fun _ _ _ => rfl) (sh_8_0 hS100 (q99.1 c101).1) (by omega) dX9_parseItem_122 ?_
                refine wq_iload_n 3 rfl rfl dX9_parseItem_125 ?_
                refine wq_aald (r := ((gR h98 211 1) + 2 + z1.toNat)) (ztm0 (q99.1 c101).1) (by decide) (by decide) rfl (q99.1 c101).2.1.1 (q99.1 c101).2.1.2 (sh_itm hS100 (q99.1 c101).1 (zlt_n (q99.1 c101).2.1.1 (q99.1 c101).2.1.2)) (by omega) dX9_parseItem_126 ?_
                refine wq_aload_n 0 rfl rfl dX9_parseItem_127 ?_
                refine wq_getR fk_X9_15 tT_211 (fun _ _ _ => rfl) rfl (zT_nz (q99.1 c101).2.2.1 (by decide)) dX9_parseItem_128 ?_
                refine wq_getI fk_X9_31 (q99.1 c101).2.2.1 (fun _ _ _ => rfl) dX9_parseItem_131 ?_
                refine wq_putI fk_X9_90 (zitm (q99.1 c101).1 (zlt_n (q99.1 c101).2.1.1 (q99.1 c101).2.1.2)) rfl rfl dX9_parseItem_134 ?_
                refine wq_toph (fun h102 e103 => ?_)
                have sh102 : zSh h102 := zSh_of e103 hS100
                refine wq_iconst (z := 1) (zlit rfl) dX9_parseItem_137 ?_
                exact wp_zret (Or.inr rfl) rfl dX9_parseItem_138 ((q99.1 c101).2.2.2 h102 e103)
              · refine wq_iconst (z := 0) (zlit rfl) dX9_parseItem_116 ?_
                exact wp_zret (Or.inl rfl) rfl dX9_parseItem_117 (q99.2 c101)
      · refine wq_iconst (z := 0) (zlit rfl) dX9_parseItem_40 ?_
        exact wp_zret (Or.inl rfl) rfl dX9_parseItem_41 (q55.2 c57)
  · refine wq_aload_n 0 rfl rfl dX9_parseItem_14 ?_
    refine wq_aload_n 0 rfl rfl dX9_parseItem_15 ?_
    refine wq_getI fk_X9_19 tT_211 (fun _ _ _ => rfl) dX9_parseItem_16 ?_
    refine wN_V (As := [vI (gI h2 211 2)]) vm_X9_refuse lk_X9_59 tT_211 rfl rfl (Nat.le_of_ble_eq_true rfl) (Nat.le_of_ble_eq_true rfl) (d' := d - 1) (by omega) dX9_parseItem_19 (q3.2 c5) (fun v9 h105 q106 => ?_)
    obtain ⟨z104, rfl, hS107, q106⟩ := q106
    refine wq_st (st' := [vI z104]) rfl ?_
    exact wp_zret q106.1 rfl dX9_parseItem_22 q106.2
theorem dX9_parseCondition_0 : decode cX9_parseCondition 0 = .ok (.aload_n 0, 1) := by decide +kernel
theorem dX9_parseCondition_1 : decode cX9_parseCondition 1 = .ok (.aload_n 0, 1) := by decide +kernel
theorem dX9_parseCondition_2 : decode cX9_parseCondition 2 = .ok (.getfield 19, 3) := by decide +kernel
theorem dX9_parseCondition_5 : decode cX9_parseCondition 5 = .ok (.iconst 1, 1) := by decide +kernel
theorem dX9_parseCondition_6 : decode cX9_parseCondition 6 = .ok (.iadd, 1) := by decide +kernel
theorem dX9_parseCondition_7 : decode cX9_parseCondition 7 = .ok (.invokevirtual 36, 3) := by decide +kernel
theorem dX9_parseCondition_10 : decode cX9_parseCondition 10 = .ok (.aload_n 0, 1) := by decide +kernel
theorem dX9_parseCondition_11 : decode cX9_parseCondition 11 = .ok (.iload_n 1, 1) := by decide +kernel
theorem dX9_parseCondition_12 : decode cX9_parseCondition 12 = .ok (.invokevirtual 93, 3) := by decide +kernel
theorem dX9_parseCondition_15 : decode cX9_parseCondition 15 = .ok (.istore_n 2, 1) := by decide +kernel
theorem dX9_parseCondition_16 : decode cX9_parseCondition 16 = .ok (.iload_n 2, 1) := by decide +kernel
theorem dX9_parseCondition_17 : decode cX9_parseCondition 17 = .ok (.iconst (-1), 1) := by decide +kernel
theorem dX9_parseCondition_18 : decode cX9_parseCondition 18 = .ok (.if_icmp .eq 12, 3) := by decide +kernel
theorem dX9_parseCondition_21 : decode cX9_parseCondition 21 = .ok (.aload_n 0, 1) := by decide +kernel
theorem dX9_parseCondition_22 : decode cX9_parseCondition 22 = .ok (.bipush 61, 2) := by decide +kernel
theorem dX9_parseCondition_24 : decode cX9_parseCondition 24 = .ok (.invokevirtual 87, 3) := by decide +kernel
theorem dX9_parseCondition_27 : decode cX9_parseCondition 27 = .ok (.ifCond .ne 5, 3) := by decide +kernel
theorem dX9_parseCondition_30 : decode cX9_parseCondition 30 = .ok (.iconst 0, 1) := by decide +kernel
theorem dX9_parseCondition_31 : decode cX9_parseCondition 31 = .ok (.ireturn, 1) := by decide +kernel
theorem dX9_parseCondition_32 : decode cX9_parseCondition 32 = .ok (.aload_n 0, 1) := by decide +kernel
theorem dX9_parseCondition_33 : decode cX9_parseCondition 33 = .ok (.invokevirtual 96, 3) := by decide +kernel
theorem dX9_parseCondition_36 : decode cX9_parseCondition 36 = .ok (.istore_n 3, 1) := by decide +kernel
theorem dX9_parseCondition_37 : decode cX9_parseCondition 37 = .ok (.aload_n 0, 1) := by decide +kernel
theorem dX9_parseCondition_38 : decode cX9_parseCondition 38 = .ok (.getfield 15, 3) := by decide +kernel
theorem dX9_parseCondition_41 : decode cX9_parseCondition 41 = .ok (.getfield 73, 3) := by decide +kernel
theorem dX9_parseCondition_44 : decode cX9_parseCondition 44 = .ok (.iload_n 1, 1) := by decide +kernel
theorem dX9_parseCondition_45 : decode cX9_parseCondition 45 = .ok (.aaload, 1) := by decide +kernel
theorem dX9_parseCondition_46 : decode cX9_parseCondition 46 = .ok (.iload_n 2, 1) := by decide +kernel
theorem dX9_parseCondition_47 : decode cX9_parseCondition 47 = .ok (.putfield 100, 3) := by decide +kernel
theorem dX9_parseCondition_50 : decode cX9_parseCondition 50 = .ok (.aload_n 0, 1) := by decide +kernel
theorem dX9_parseCondition_51 : decode cX9_parseCondition 51 = .ok (.getfield 15, 3) := by decide +kernel
theorem dX9_parseCondition_54 : decode cX9_parseCondition 54 = .ok (.getfield 73, 3) := by decide +kernel
theorem dX9_parseCondition_57 : decode cX9_parseCondition 57 = .ok (.iload_n 1, 1) := by decide +kernel
theorem dX9_parseCondition_58 : decode cX9_parseCondition 58 = .ok (.aaload, 1) := by decide +kernel
theorem dX9_parseCondition_59 : decode cX9_parseCondition 59 = .ok (.iload_n 3, 1) := by decide +kernel
theorem dX9_parseCondition_60 : decode cX9_parseCondition 60 = .ok (.putfield 103, 3) := by decide +kernel
theorem dX9_parseCondition_63 : decode cX9_parseCondition 63 = .ok (.iload_n 3, 1) := by decide +kernel
theorem dX9_parseCondition_64 : decode cX9_parseCondition 64 = .ok (.iconst (-1), 1) := by decide +kernel
theorem dX9_parseCondition_65 : decode cX9_parseCondition 65 = .ok (.if_icmp .eq 7, 3) := by decide +kernel
theorem dX9_parseCondition_68 : decode cX9_parseCondition 68 = .ok (.iconst 1, 1) := by decide +kernel
theorem dX9_parseCondition_69 : decode cX9_parseCondition 69 = .ok (.goto 4, 3) := by decide +kernel
theorem dX9_parseCondition_72 : decode cX9_parseCondition 72 = .ok (.iconst 0, 1) := by decide +kernel
theorem dX9_parseCondition_73 : decode cX9_parseCondition 73 = .ok (.ireturn, 1) := by decide +kernel
theorem vc_X9_parseCondition_0 {G : zG} {d : Nat} {Q : Option zV → zHp → Prop} (p1 : Int) (h : zHp) (hS : zSh h) (hd : 3 ≤ d)  
    (hv : ((-2147483648 ≤ (gI h 211 2) + 1 ∧ (gI h 211 2) + 1 ≤ 2147483647) ∧ (wpN G (d - 1) M_X9_moveTo 0 (zar 0 [vR 211, vI ((gI h 211 2) + 1)]) [] h (qV (fun h2 => zSh h2 ∧ (wpN G (d - 1) M_X9_parseReference 0 (zar 0 [vR 211, vI p1]) [] h2 (qI (fun z5 h6 => zSh h6 ∧ ((z5 = (-1) → Q (some (vI 0)) h6) ∧ (z5 ≠ (-1) → (wpN G (d - 1) M_X9_parseSign 0 (zar 0 [vR 211, vI 61]) [] h6 (qI (fun z10 h11 => zSh h11 ∧ ((z10 ≠ 0 → (wpN G (d - 1) M_X9_parseNumber 0 (zar 0 [vR 211]) [] h11 (qI (fun z15 h16 => zSh h16 ∧ (zT 369 (gR h16 211 1) = (108, 2) ∧ (((0 : Int) ≤ p1 ∧ p1 < ((24 : Nat) : Int)) ∧ (∀ h19 : zHp, h19 = sI h16 ((gR h16 211 1) + 2 + p1.toNat) 6 z5 → (zT 369 (gR h19 211 1) = (108, 2) ∧ (((0 : Int) ≤ p1 ∧ p1 < ((24 : Nat) : Int)) ∧ (∀ h21 : zHp, h21 = sI h19 ((gR h19 211 1) + 2 + p1.toNat) 7 z15 → ((z15 = (-1) → Q (some (vI 0)) h21) ∧ (z15 ≠ (-1) → Q (some (vI 1)) h21)))))))))))) ∧ (z10 = 0 → Q (some (vI 0)) h11))))))))))))))) : wpN G d M_X9_parseCondition 0 [(0, vR 211), (1, vI p1)] [] h Q := by
  refine wq_aload_n 0 rfl rfl dX9_parseCondition_0 ?_
  refine wq_aload_n 0 rfl rfl dX9_parseCondition_1 ?_
  refine wq_getI fk_X9_19 tT_211 (fun _ _ _ => rfl) dX9_parseCondition_2 ?_
  refine wq_iconst (z := 1) (zlit rfl) dX9_parseCondition_5 ?_
  refine wq_iadd hv.1 dX9_parseCondition_6 ?_
  refine wN_V (As := [vI ((gI h 211 2) + 1)]) vm_X9_moveTo lk_X9_36 tT_211 rfl rfl (Nat.le_of_ble_eq_true rfl) (Nat.le_of_ble_eq_true rfl) (d' := d - 1) (by omega) dX9_parseCondition_7 hv.2 (fun v9 h2 q3 => ?_)
  obtain ⟨rfl, hS4, q3⟩ := q3
  refine wq_st (st' := []) rfl ?_
  refine wq_aload_n 0 rfl rfl dX9_parseCondition_10 ?_
  refine wq_iload_n 1 rfl rfl dX9_parseCondition_11 ?_
  refine wN_V (As := [vI p1]) vm_X9_parseReference lk_X9_93 tT_211 rfl rfl (Nat.le_of_ble_eq_true rfl) (Nat.le_of_ble_eq_true rfl) (d' := d - 1) (by omega) dX9_parseCondition_12 q3 (fun v9 h6 q7 => ?_)
  obtain ⟨z5, rfl, hS8, q7⟩ := q7
  refine wq_st (st' := [vI z5]) rfl ?_
  refine wq_istore_n (ls' := [(0, vR 211), (1, vI p1), (2, vI z5)]) rfl (by decide) rfl dX9_parseCondition_15 ?_
  refine wq_iload_n 2 rfl rfl dX9_parseCondition_16 ?_
  refine wq_iconst (z := -1) (zlit rfl) dX9_parseCondition_17 ?_
  refine wq_icmp_eq 30 rfl dX9_parseCondition_18 (fun c9 => ?_) (fun c9 => ?_)
  · refine wq_iconst (z := 0) (zlit rfl) dX9_parseCondition_30 ?_
    exact wp_zret (Or.inl rfl) rfl dX9_parseCondition_31 (q7.1 c9)
  · refine wq_aload_n 0 rfl rfl dX9_parseCondition_21 ?_
    refine wq_bipush (z := 61) (zlit rfl) rfl dX9_parseCondition_22 ?_
    refine wN_V (As := [vI 61]) vm_X9_parseSign lk_X9_87 tT_211 rfl rfl (Nat.le_of_ble_eq_true rfl) (Nat.le_of_ble_eq_true rfl) (d' := d - 1) (by omega) dX9_parseCondition_24 (q7.2 c9) (fun v9 h11 q12 => ?_)
    obtain ⟨z10, rfl, hS13, q12⟩ := q12
    refine wq_st (st' := [vI z10]) rfl ?_
    refine wq_if_ne 32 rfl dX9_parseCondition_27 (fun c14 => ?_) (fun c14 => ?_)
    · refine wq_aload_n 0 rfl rfl dX9_parseCondition_32 ?_
      refine wN_V (As := []) vm_X9_parseNumber lk_X9_96 tT_211 rfl rfl (Nat.le_of_ble_eq_true rfl) (Nat.le_of_ble_eq_true rfl) (d' := d - 1) (by omega) dX9_parseCondition_33 (q12.1 c14) (fun v9 h16 q17 => ?_)
      obtain ⟨z15, rfl, hS18, q17⟩ := q17
      refine wq_st (st' := [vI z15]) rfl ?_
      refine wq_istore_n (ls' := [(0, vR 211), (1, vI p1), (2, vI z5), (3, vI z15)]) rfl (by decide) rfl dX9_parseCondition_36 ?_
      refine wq_aload_n 0 rfl rfl dX9_parseCondition_37 ?_
      refine wq_getR fk_X9_15 tT_211 (fun _ _ _ => rfl) rfl (zT_nz q17.1 (by decide)) dX9_parseCondition_38 ?_
      refine wq_getR (r := ((gR h16 211 1) + 1)) fk_X9_73 q17.1 (fun _ _ _ => rfl) (sh_8_0 hS18 q17.1) (by omega) dX9_parseCondition_41 ?_
      refine wq_iload_n 1 rfl rfl dX9_parseCondition_44 ?_
      refine wq_aald (r := ((gR h16 211 1) + 2 + p1.toNat)) (ztm0 q17.1) (by decide) (by decide) rfl q17.2.1.1 q17.2.1.2 (sh_itm hS18 q17.1 (zlt_n q17.2.1.1 q17.2.1.2)) (by omega) dX9_parseCondition_45 ?_
      refine wq_iload_n 2 rfl rfl dX9_parseCondition_46 ?_
      refine wq_putI fk_X9_100 (zitm q17.1 (zlt_n q17.2.1.1 q17.2.1.2)) rfl rfl dX9_parseCondition_47 ?_
      refine wq_toph (fun h19 e20 => ?_)
      have sh19 : zSh h19 := zSh_of e20 hS18
      refine wq_aload_n 0 rfl rfl dX9_parseCondition_50 ?_
      refine wq_getR fk_X9_15 tT_211 (fun _ _ _ => rfl) rfl (zT_nz (q17.2.2 h19 e20).1 (by decide)) dX9_parseCondition_51 ?_
      refine wq_getR (r := ((gR h19 211 1) + 1)) fk_X9_73 (q17.2.2 h19 e20).1 (fun _ _ _ => rfl) (sh_8_0 sh19 (q17.2.2 h19 e20).1) (by omega) dX9_parseCondition_54 ?_
      refine wq_iload_n 1 rfl rfl dX9_parseCondition_57 ?_
      refine wq_aald (r := ((gR h19 211 1) + 2 + p1.toNat)) (ztm0 (q17.2.2 h19 e20).1) (by decide) (by decide) rfl (q17.2.2 h19 e20).2.1.1 (q17.2.2 h19 e20).2.1.2 (sh_itm sh19 (q17.2.2 h19 e20).1 (zlt_n (q17.2.2 h19 e20).2.1.1 (q17.2.2 h19 e20).2.1.2)) (by omega) dX9_parseCondition_58 ?_
      refine wq_iload_n 3 rfl rfl dX9_parseCondition_59 ?_
      refine wq_putI fk_X9_103 (zitm (q17.2.2 h19 e20).1 (zlt_n (q17.2.2 h19 e20).2.1.1 (q17.2.2 h19 e20).2.1.2)) rfl rfl dX9_parseCondition_60 ?_
      refine wq_toph (fun h21 e22 => ?_)
      have sh21 : zSh h21 := zSh_of e22 sh19
      refine wq_iload_n 3 rfl rfl dX9_parseCondition_63 ?_
      refine wq_iconst (z := -1) (zlit rfl) dX9_parseCondition_64 ?_
      refine wq_icmp_eq 72 rfl dX9_parseCondition_65 (fun c23 => ?_) (fun c23 => ?_)
      · refine wq_iconst (z := 0) (zlit rfl) dX9_parseCondition_72 ?_
        exact wp_zret (Or.inl rfl) rfl dX9_parseCondition_73 (((q17.2.2 h19 e20).2.2 h21 e22).1 c23)
      · refine wq_iconst (z := 1) (zlit rfl) dX9_parseCondition_68 ?_
        refine wq_goto 73 rfl dX9_parseCondition_69 ?_
        exact wp_zret (Or.inr rfl) rfl dX9_parseCondition_73 (((q17.2.2 h19 e20).2.2 h21 e22).2 c23)
    · refine wq_iconst (z := 0) (zlit rfl) dX9_parseCondition_30 ?_
      exact wp_zret (Or.inl rfl) rfl dX9_parseCondition_31 (q12.2 c14)
theorem dX9_parseGap_0 : decode cX9_parseGap 0 = .ok (.aload_n 1, 1) := by decide +kernel
theorem dX9_parseGap_1 : decode cX9_parseGap 1 = .ok (.aload_n 0, 1) := by decide +kernel
theorem dX9_parseGap_2 : decode cX9_parseGap 2 = .ok (.getfield 25, 3) := by decide +kernel
theorem dX9_parseGap_5 : decode cX9_parseGap 5 = .ok (.bipush 64, 2) := by decide +kernel
theorem dX9_parseGap_7 : decode cX9_parseGap 7 = .ok (.if_icmp .ne 8, 3) := by decide +kernel
theorem dX9_parseGap_10 : decode cX9_parseGap 10 = .ok (.bipush 7, 2) := by decide +kernel
theorem dX9_parseGap_12 : decode cX9_parseGap 12 = .ok (.goto 5, 3) := by decide +kernel
theorem dX9_parseGap_15 : decode cX9_parseGap 15 = .ok (.bipush 6, 2) := by decide +kernel
theorem dX9_parseGap_17 : decode cX9_parseGap 17 = .ok (.putfield 106, 3) := by decide +kernel
theorem dX9_parseGap_20 : decode cX9_parseGap 20 = .ok (.aload_n 0, 1) := by decide +kernel
theorem dX9_parseGap_21 : decode cX9_parseGap 21 = .ok (.aload_n 0, 1) := by decide +kernel
theorem dX9_parseGap_22 : decode cX9_parseGap 22 = .ok (.getfield 19, 3) := by decide +kernel
theorem dX9_parseGap_25 : decode cX9_parseGap 25 = .ok (.iconst 1, 1) := by decide +kernel
theorem dX9_parseGap_26 : decode cX9_parseGap 26 = .ok (.iadd, 1) := by decide +kernel
theorem dX9_parseGap_27 : decode cX9_parseGap 27 = .ok (.invokevirtual 36, 3) := by decide +kernel
theorem dX9_parseGap_30 : decode cX9_parseGap 30 = .ok (.aload_n 0, 1) := by decide +kernel
theorem dX9_parseGap_31 : decode cX9_parseGap 31 = .ok (.getfield 19, 3) := by decide +kernel
theorem dX9_parseGap_34 : decode cX9_parseGap 34 = .ok (.istore_n 2, 1) := by decide +kernel
theorem dX9_parseGap_35 : decode cX9_parseGap 35 = .ok (.aload_n 1, 1) := by decide +kernel
theorem dX9_parseGap_36 : decode cX9_parseGap 36 = .ok (.aload_n 0, 1) := by decide +kernel
theorem dX9_parseGap_37 : decode cX9_parseGap 37 = .ok (.invokevirtual 96, 3) := by decide +kernel
theorem dX9_parseGap_40 : decode cX9_parseGap 40 = .ok (.putfield 109, 3) := by decide +kernel
theorem dX9_parseGap_43 : decode cX9_parseGap 43 = .ok (.aload_n 1, 1) := by decide +kernel
theorem dX9_parseGap_44 : decode cX9_parseGap 44 = .ok (.getfield 109, 3) := by decide +kernel
theorem dX9_parseGap_47 : decode cX9_parseGap 47 = .ok (.ifCond .ne 18, 3) := by decide +kernel
theorem dX9_parseGap_50 : decode cX9_parseGap 50 = .ok (.aload_n 1, 1) := by decide +kernel
theorem dX9_parseGap_51 : decode cX9_parseGap 51 = .ok (.getfield 106, 3) := by decide +kernel
theorem dX9_parseGap_54 : decode cX9_parseGap 54 = .ok (.bipush 7, 2) := by decide +kernel
theorem dX9_parseGap_56 : decode cX9_parseGap 56 = .ok (.if_icmp .ne 9, 3) := by decide +kernel
theorem dX9_parseGap_59 : decode cX9_parseGap 59 = .ok (.aload_n 0, 1) := by decide +kernel
theorem dX9_parseGap_60 : decode cX9_parseGap 60 = .ok (.iload_n 2, 1) := by decide +kernel
theorem dX9_parseGap_61 : decode cX9_parseGap 61 = .ok (.invokevirtual 59, 3) := by decide +kernel
theorem dX9_parseGap_64 : decode cX9_parseGap 64 = .ok (.ireturn, 1) := by decide +kernel
theorem dX9_parseGap_65 : decode cX9_parseGap 65 = .ok (.aload_n 1, 1) := by decide +kernel
theorem dX9_parseGap_66 : decode cX9_parseGap 66 = .ok (.getfield 109, 3) := by decide +kernel
theorem dX9_parseGap_69 : decode cX9_parseGap 69 = .ok (.iconst (-1), 1) := by decide +kernel
theorem dX9_parseGap_70 : decode cX9_parseGap 70 = .ok (.if_icmp .eq 7, 3) := by decide +kernel
theorem dX9_parseGap_73 : decode cX9_parseGap 73 = .ok (.iconst 1, 1) := by decide +kernel
theorem dX9_parseGap_74 : decode cX9_parseGap 74 = .ok (.goto 4, 3) := by decide +kernel
theorem dX9_parseGap_77 : decode cX9_parseGap 77 = .ok (.iconst 0, 1) := by decide +kernel
theorem dX9_parseGap_78 : decode cX9_parseGap 78 = .ok (.ireturn, 1) := by decide +kernel
theorem vc_X9_parseGap_0 {G : zG} {d : Nat} {Q : Option zV → zHp → Prop} (p1 : Nat) (hT_p1 : zT 369 p1 = (105, 13)) (h : zHp) (hS : zSh h) (hd : 3 ≤ d)  
    (hv : (((gI h 211 3) ≠ 64 → (∀ h2 : zHp, h2 = sI h p1 0 6 → ((-2147483648 ≤ (gI h2 211 2) + 1 ∧ (gI h2 211 2) + 1 ≤ 2147483647) ∧ (wpN G (d - 1) M_X9_moveTo 0 (zar 0 [vR 211, vI ((gI h2 211 2) + 1)]) [] h2 (qV (fun h5 => zSh h5 ∧ (∀ x8 : Int, x8 = (gI h5 211 2) → (wpN G (d - 1) M_X9_parseNumber 0 (zar 0 [vR 211]) [] h5 (qI (fun z10 h11 => zSh h11 ∧ (∀ h14 : zHp, h14 = sI h11 p1 10 z10 → (((gI h14 p1 10) ≠ 0 → (((gI h14 p1 10) = (-1) → Q (some (vI 0)) h14) ∧ ((gI h14 p1 10) ≠ (-1) → Q (some (vI 1)) h14))) ∧ ((gI h14 p1 10) = 0 → (((gI h14 p1 0) ≠ 7 → (((gI h14 p1 10) = (-1) → Q (some (vI 0)) h14) ∧ ((gI h14 p1 10) ≠ (-1) → Q (some (vI 1)) h14))) ∧ ((gI h14 p1 0) = 7 → (wpN G (d - 1) M_X9_refuse 0 (zar 0 [vR 211, vI x8]) [] h14 (qI (fun z20 h21 => zSh h21 ∧ ((z20 = 0 ∨ z20 = 1) ∧ Q (some (vI z20)) h21))))))))))))))))))) ∧ ((gI h 211 3) = 64 → (∀ h24 : zHp, h24 = sI h p1 0 7 → ((-2147483648 ≤ (gI h24 211 2) + 1 ∧ (gI h24 211 2) + 1 ≤ 2147483647) ∧ (wpN G (d - 1) M_X9_moveTo 0 (zar 0 [vR 211, vI ((gI h24 211 2) + 1)]) [] h24 (qV (fun h27 => zSh h27 ∧ (∀ x30 : Int, x30 = (gI h27 211 2) → (wpN G (d - 1) M_X9_parseNumber 0 (zar 0 [vR 211]) [] h27 (qI (fun z32 h33 => zSh h33 ∧ (∀ h36 : zHp, h36 = sI h33 p1 10 z32 → (((gI h36 p1 10) ≠ 0 → (((gI h36 p1 10) = (-1) → Q (some (vI 0)) h36) ∧ ((gI h36 p1 10) ≠ (-1) → Q (some (vI 1)) h36))) ∧ ((gI h36 p1 10) = 0 → (((gI h36 p1 0) ≠ 7 → (((gI h36 p1 10) = (-1) → Q (some (vI 0)) h36) ∧ ((gI h36 p1 10) ≠ (-1) → Q (some (vI 1)) h36))) ∧ ((gI h36 p1 0) = 7 → (wpN G (d - 1) M_X9_refuse 0 (zar 0 [vR 211, vI x30]) [] h36 (qI (fun z42 h43 => zSh h43 ∧ ((z42 = 0 ∨ z42 = 1) ∧ Q (some (vI z42)) h43))))))))))))))))))))) : wpN G d M_X9_parseGap 0 [(0, vR 211), (1, vR p1)] [] h Q := by
  refine wq_aload_n 1 rfl rfl dX9_parseGap_0 ?_
  refine wq_aload_n 0 rfl rfl dX9_parseGap_1 ?_
  refine wq_getI fk_X9_25 tT_211 (fun _ _ _ => rfl) dX9_parseGap_2 ?_
  refine wq_bipush (z := 64) (zlit rfl) rfl dX9_parseGap_5 ?_
  refine wq_icmp_ne 15 rfl dX9_parseGap_7 (fun c1 => ?_) (fun c1 => ?_)
  · refine wq_bipush (z := 6) (zlit rfl) rfl dX9_parseGap_15 ?_
    refine wq_putI fk_X9_106 hT_p1 rfl rfl dX9_parseGap_17 ?_
    refine wq_toph (fun h2 e3 => ?_)
    have sh2 : zSh h2 := zSh_of e3 hS
    refine wq_aload_n 0 rfl rfl dX9_parseGap_20 ?_
    refine wq_aload_n 0 rfl rfl dX9_parseGap_21 ?_
    refine wq_getI fk_X9_19 tT_211 (fun _ _ _ => rfl) dX9_parseGap_22 ?_
    refine wq_iconst (z := 1) (zlit rfl) dX9_parseGap_25 ?_
    refine wq_iadd ((hv.1 c1) h2 e3).1 dX9_parseGap_26 ?_
    refine wN_V (As := [vI ((gI h2 211 2) + 1)]) vm_X9_moveTo lk_X9_36 tT_211 rfl rfl (Nat.le_of_ble_eq_true rfl) (Nat.le_of_ble_eq_true rfl) (d' := d - 1) (by omega) dX9_parseGap_27 ((hv.1 c1) h2 e3).2 (fun v9 h5 q6 => ?_)
    obtain ⟨rfl, hS7, q6⟩ := q6
    refine wq_st (st' := []) rfl ?_
    refine wq_aload_n 0 rfl rfl dX9_parseGap_30 ?_
    refine wq_getI fk_X9_19 tT_211 (fun _ _ _ => rfl) dX9_parseGap_31 ?_
    refine wq_topI (fun x8 e9 => ?_)
    refine wq_istore_n (ls' := [(0, vR 211), (1, vR p1), (2, vI x8)]) rfl (by decide) rfl dX9_parseGap_34 ?_
    refine wq_aload_n 1 rfl rfl dX9_parseGap_35 ?_
    refine wq_aload_n 0 rfl rfl dX9_parseGap_36 ?_
    refine wN_V (As := []) vm_X9_parseNumber lk_X9_96 tT_211 rfl rfl (Nat.le_of_ble_eq_true rfl) (Nat.le_of_ble_eq_true rfl) (d' := d - 1) (by omega) dX9_parseGap_37 (q6 x8 e9) (fun v9 h11 q12 => ?_)
    obtain ⟨z10, rfl, hS13, q12⟩ := q12
    refine wq_st (st' := [vI z10, vR p1]) rfl ?_
    refine wq_putI fk_X9_109 hT_p1 rfl rfl dX9_parseGap_40 ?_
    refine wq_toph (fun h14 e15 => ?_)
    have sh14 : zSh h14 := zSh_of e15 hS13
    refine wq_aload_n 1 rfl rfl dX9_parseGap_43 ?_
    refine wq_getI fk_X9_109 hT_p1 (fun _ _ _ => rfl) dX9_parseGap_44 ?_
    refine wq_if_ne 65 rfl dX9_parseGap_47 (fun c16 => ?_) (fun c16 => ?_)
    · refine wq_aload_n 1 rfl rfl dX9_parseGap_65 ?_
      refine wq_getI fk_X9_109 hT_p1 (fun _ _ _ => rfl) dX9_parseGap_66 ?_
      refine wq_iconst (z := -1) (zlit rfl) dX9_parseGap_69 ?_
      refine wq_icmp_eq 77 rfl dX9_parseGap_70 (fun c17 => ?_) (fun c17 => ?_)
      · refine wq_iconst (z := 0) (zlit rfl) dX9_parseGap_77 ?_
        exact wp_zret (Or.inl rfl) rfl dX9_parseGap_78 (((q12 h14 e15).1 c16).1 c17)
      · refine wq_iconst (z := 1) (zlit rfl) dX9_parseGap_73 ?_
        refine wq_goto 78 rfl dX9_parseGap_74 ?_
        exact wp_zret (Or.inr rfl) rfl dX9_parseGap_78 (((q12 h14 e15).1 c16).2 c17)
    · refine wq_aload_n 1 rfl rfl dX9_parseGap_50 ?_
      refine wq_getI fk_X9_106 hT_p1 (fun _ _ _ => rfl) dX9_parseGap_51 ?_
      refine wq_bipush (z := 7) (zlit rfl) rfl dX9_parseGap_54 ?_
      refine wq_icmp_ne 65 rfl dX9_parseGap_56 (fun c18 => ?_) (fun c18 => ?_)
      · refine wq_aload_n 1 rfl rfl dX9_parseGap_65 ?_
        refine wq_getI fk_X9_109 hT_p1 (fun _ _ _ => rfl) dX9_parseGap_66 ?_
        refine wq_iconst (z := -1) (zlit rfl) dX9_parseGap_69 ?_
        refine wq_icmp_eq 77 rfl dX9_parseGap_70 (fun c19 => ?_) (fun c19 => ?_)
        · refine wq_iconst (z := 0) (zlit rfl) dX9_parseGap_77 ?_
          exact wp_zret (Or.inl rfl) rfl dX9_parseGap_78 ((((q12 h14 e15).2 c16).1 c18).1 c19)
        · refine wq_iconst (z := 1) (zlit rfl) dX9_parseGap_73 ?_
          refine wq_goto 78 rfl dX9_parseGap_74 ?_
          exact wp_zret (Or.inr rfl) rfl dX9_parseGap_78 ((((q12 h14 e15).2 c16).1 c18).2 c19)
      · refine wq_aload_n 0 rfl rfl dX9_parseGap_59 ?_
        refine wq_iload_n 2 rfl rfl dX9_parseGap_60 ?_
        refine wN_V (As := [vI x8]) vm_X9_refuse lk_X9_59 tT_211 rfl rfl (Nat.le_of_ble_eq_true rfl) (Nat.le_of_ble_eq_true rfl) (d' := d - 1) (by omega) dX9_parseGap_61 (((q12 h14 e15).2 c16).2 c18) (fun v9 h21 q22 => ?_)
        obtain ⟨z20, rfl, hS23, q22⟩ := q22
        refine wq_st (st' := [vI z20]) rfl ?_
        exact wp_zret q22.1 rfl dX9_parseGap_64 q22.2
  · refine wq_bipush (z := 7) (zlit rfl) rfl dX9_parseGap_10 ?_
    refine wq_goto 17 rfl dX9_parseGap_12 ?_
    refine wq_putI fk_X9_106 hT_p1 rfl rfl dX9_parseGap_17 ?_
    refine wq_toph (fun h24 e25 => ?_)
    have sh24 : zSh h24 := zSh_of e25 hS
    refine wq_aload_n 0 rfl rfl dX9_parseGap_20 ?_
    refine wq_aload_n 0 rfl rfl dX9_parseGap_21 ?_
    refine wq_getI fk_X9_19 tT_211 (fun _ _ _ => rfl) dX9_parseGap_22 ?_
    refine wq_iconst (z := 1) (zlit rfl) dX9_parseGap_25 ?_
    refine wq_iadd ((hv.2 c1) h24 e25).1 dX9_parseGap_26 ?_
    refine wN_V (As := [vI ((gI h24 211 2) + 1)]) vm_X9_moveTo lk_X9_36 tT_211 rfl rfl (Nat.le_of_ble_eq_true rfl) (Nat.le_of_ble_eq_true rfl) (d' := d - 1) (by omega) dX9_parseGap_27 ((hv.2 c1) h24 e25).2 (fun v9 h27 q28 => ?_)
    obtain ⟨rfl, hS29, q28⟩ := q28
    refine wq_st (st' := []) rfl ?_
    refine wq_aload_n 0 rfl rfl dX9_parseGap_30 ?_
    refine wq_getI fk_X9_19 tT_211 (fun _ _ _ => rfl) dX9_parseGap_31 ?_
    refine wq_topI (fun x30 e31 => ?_)
    refine wq_istore_n (ls' := [(0, vR 211), (1, vR p1), (2, vI x30)]) rfl (by decide) rfl dX9_parseGap_34 ?_
    refine wq_aload_n 1 rfl rfl dX9_parseGap_35 ?_
    refine wq_aload_n 0 rfl rfl dX9_parseGap_36 ?_
    refine wN_V (As := []) vm_X9_parseNumber lk_X9_96 tT_211 rfl rfl (Nat.le_of_ble_eq_true rfl) (Nat.le_of_ble_eq_true rfl) (d' := d - 1) (by omega) dX9_parseGap_37 (q28 x30 e31) (fun v9 h33 q34 => ?_)
    obtain ⟨z32, rfl, hS35, q34⟩ := q34
    refine wq_st (st' := [vI z32, vR p1]) rfl ?_
    refine wq_putI fk_X9_109 hT_p1 rfl rfl dX9_parseGap_40 ?_
    refine wq_toph (fun h36 e37 => ?_)
    have sh36 : zSh h36 := zSh_of e37 hS35
    refine wq_aload_n 1 rfl rfl dX9_parseGap_43 ?_
    refine wq_getI fk_X9_109 hT_p1 (fun _ _ _ => rfl) dX9_parseGap_44 ?_
    refine wq_if_ne 65 rfl dX9_parseGap_47 (fun c38 => ?_) (fun c38 => ?_)
    · refine wq_aload_n 1 rfl rfl dX9_parseGap_65 ?_
      refine wq_getI fk_X9_109 hT_p1 (fun _ _ _ => rfl) dX9_parseGap_66 ?_
      refine wq_iconst (z := -1) (zlit rfl) dX9_parseGap_69 ?_
      refine wq_icmp_eq 77 rfl dX9_parseGap_70 (fun c39 => ?_) (fun c39 => ?_)
      · refine wq_iconst (z := 0) (zlit rfl) dX9_parseGap_77 ?_
        exact wp_zret (Or.inl rfl) rfl dX9_parseGap_78 (((q34 h36 e37).1 c38).1 c39)
      · refine wq_iconst (z := 1) (zlit rfl) dX9_parseGap_73 ?_
        refine wq_goto 78 rfl dX9_parseGap_74 ?_
        exact wp_zret (Or.inr rfl) rfl dX9_parseGap_78 (((q34 h36 e37).1 c38).2 c39)
    · refine wq_aload_n 1 rfl rfl dX9_parseGap_50 ?_
      refine wq_getI fk_X9_106 hT_p1 (fun _ _ _ => rfl) dX9_parseGap_51 ?_
      refine wq_bipush (z := 7) (zlit rfl) rfl dX9_parseGap_54 ?_
      refine wq_icmp_ne 65 rfl dX9_parseGap_56 (fun c40 => ?_) (fun c40 => ?_)
      · refine wq_aload_n 1 rfl rfl dX9_parseGap_65 ?_
        refine wq_getI fk_X9_109 hT_p1 (fun _ _ _ => rfl) dX9_parseGap_66 ?_
        refine wq_iconst (z := -1) (zlit rfl) dX9_parseGap_69 ?_
        refine wq_icmp_eq 77 rfl dX9_parseGap_70 (fun c41 => ?_) (fun c41 => ?_)
        · refine wq_iconst (z := 0) (zlit rfl) dX9_parseGap_77 ?_
          exact wp_zret (Or.inl rfl) rfl dX9_parseGap_78 ((((q34 h36 e37).2 c38).1 c40).1 c41)
        · refine wq_iconst (z := 1) (zlit rfl) dX9_parseGap_73 ?_
          refine wq_goto 78 rfl dX9_parseGap_74 ?_
          exact wp_zret (Or.inr rfl) rfl dX9_parseGap_78 ((((q34 h36 e37).2 c38).1 c40).2 c41)
      · refine wq_aload_n 0 rfl rfl dX9_parseGap_59 ?_
        refine wq_iload_n 2 rfl rfl dX9_parseGap_60 ?_
        refine wN_V (As := [vI x30]) vm_X9_refuse lk_X9_59 tT_211 rfl rfl (Nat.le_of_ble_eq_true rfl) (Nat.le_of_ble_eq_true rfl) (d' := d - 1) (by omega) dX9_parseGap_61 (((q34 h36 e37).2 c38).2 c40) (fun v9 h43 q44 => ?_)
        obtain ⟨z42, rfl, hS45, q44⟩ := q44
        refine wq_st (st' := [vI z42]) rfl ?_
        exact wp_zret q44.1 rfl dX9_parseGap_64 q44.2
theorem dX9_parseName_0 : decode cX9_parseName 0 = .ok (.aload_n 0, 1) := by decide +kernel
theorem dX9_parseName_1 : decode cX9_parseName 1 = .ok (.getfield 25, 3) := by decide +kernel
theorem dX9_parseName_4 : decode cX9_parseName 4 = .ok (.invokestatic 112, 3) := by decide +kernel
theorem dX9_parseName_7 : decode cX9_parseName 7 = .ok (.ifCond .eq 19, 3) := by decide +kernel
theorem dX9_parseName_10 : decode cX9_parseName 10 = .ok (.aload_n 0, 1) := by decide +kernel
theorem dX9_parseName_11 : decode cX9_parseName 11 = .ok (.getfield 15, 3) := by decide +kernel
theorem dX9_parseName_14 : decode cX9_parseName 14 = .ok (.iload_n 1, 1) := by decide +kernel
theorem dX9_parseName_15 : decode cX9_parseName 15 = .ok (.aload_n 0, 1) := by decide +kernel
theorem dX9_parseName_16 : decode cX9_parseName 16 = .ok (.getfield 25, 3) := by decide +kernel
theorem dX9_parseName_19 : decode cX9_parseName 19 = .ok (.invokevirtual 115, 3) := by decide +kernel
theorem dX9_parseName_22 : decode cX9_parseName 22 = .ok (.iconst (-1), 1) := by decide +kernel
theorem dX9_parseName_23 : decode cX9_parseName 23 = .ok (.if_icmp .eq 12, 3) := by decide +kernel
theorem dX9_parseName_26 : decode cX9_parseName 26 = .ok (.aload_n 0, 1) := by decide +kernel
theorem dX9_parseName_27 : decode cX9_parseName 27 = .ok (.aload_n 0, 1) := by decide +kernel
theorem dX9_parseName_28 : decode cX9_parseName 28 = .ok (.getfield 19, 3) := by decide +kernel
theorem dX9_parseName_31 : decode cX9_parseName 31 = .ok (.invokevirtual 59, 3) := by decide +kernel
theorem dX9_parseName_34 : decode cX9_parseName 34 = .ok (.ireturn, 1) := by decide +kernel
theorem dX9_parseName_35 : decode cX9_parseName 35 = .ok (.aload_n 0, 1) := by decide +kernel
theorem dX9_parseName_36 : decode cX9_parseName 36 = .ok (.getfield 15, 3) := by decide +kernel
theorem dX9_parseName_39 : decode cX9_parseName 39 = .ok (.getfield 73, 3) := by decide +kernel
theorem dX9_parseName_42 : decode cX9_parseName 42 = .ok (.iload_n 1, 1) := by decide +kernel
theorem dX9_parseName_43 : decode cX9_parseName 43 = .ok (.aaload, 1) := by decide +kernel
theorem dX9_parseName_44 : decode cX9_parseName 44 = .ok (.aload_n 0, 1) := by decide +kernel
theorem dX9_parseName_45 : decode cX9_parseName 45 = .ok (.getfield 25, 3) := by decide +kernel
theorem dX9_parseName_48 : decode cX9_parseName 48 = .ok (.putfield 118, 3) := by decide +kernel
theorem dX9_parseName_51 : decode cX9_parseName 51 = .ok (.aload_n 0, 1) := by decide +kernel
theorem dX9_parseName_52 : decode cX9_parseName 52 = .ok (.aload_n 0, 1) := by decide +kernel
theorem dX9_parseName_53 : decode cX9_parseName 53 = .ok (.getfield 19, 3) := by decide +kernel
theorem dX9_parseName_56 : decode cX9_parseName 56 = .ok (.iconst 1, 1) := by decide +kernel
theorem dX9_parseName_57 : decode cX9_parseName 57 = .ok (.iadd, 1) := by decide +kernel
theorem dX9_parseName_58 : decode cX9_parseName 58 = .ok (.invokevirtual 36, 3) := by decide +kernel
theorem dX9_parseName_61 : decode cX9_parseName 61 = .ok (.aload_n 0, 1) := by decide +kernel
theorem dX9_parseName_62 : decode cX9_parseName 62 = .ok (.bipush 58, 2) := by decide +kernel
theorem dX9_parseName_64 : decode cX9_parseName 64 = .ok (.invokevirtual 87, 3) := by decide +kernel
theorem dX9_parseName_67 : decode cX9_parseName 67 = .ok (.ireturn, 1) := by decide +kernel
theorem vc_X9_parseName_0 {G : zG} {d : Nat} {Q : Option zV → zHp → Prop} (p1 : Int) (h : zHp) (hS : zSh h) (hd : 3 ≤ d)  
    (hv : (wpN G (d - 1) M_X9_isName 0 (zar 0 [vI (gI h 211 3)]) [] h (qI (fun z1 h2 => zSh h2 ∧ ((z1 = 0 → (wpN G (d - 1) M_X9_refuse 0 (zar 0 [vR 211, vI (gI h2 211 2)]) [] h2 (qI (fun z6 h7 => zSh h7 ∧ ((z6 = 0 ∨ z6 = 1) ∧ Q (some (vI z6)) h7))))) ∧ (z1 ≠ 0 → (zT 369 (gR h2 211 1) = (108, 2) ∧ (wpN G (d - 1) M_X8_sibling 0 (zar 0 [vR (gR h2 211 1), vI p1, vI (gI h2 211 3)]) [] h2 (qI (fun z10 h11 => zSh h11 ∧ ((z10 = (-1) → (zT 369 (gR h11 211 1) = (108, 2) ∧ (((0 : Int) ≤ p1 ∧ p1 < ((24 : Nat) : Int)) ∧ (∀ h15 : zHp, h15 = sI h11 ((gR h11 211 1) + 2 + p1.toNat) 1 (gI h11 211 3) → ((-2147483648 ≤ (gI h15 211 2) + 1 ∧ (gI h15 211 2) + 1 ≤ 2147483647) ∧ (wpN G (d - 1) M_X9_moveTo 0 (zar 0 [vR 211, vI ((gI h15 211 2) + 1)]) [] h15 (qV (fun h18 => zSh h18 ∧ (wpN G (d - 1) M_X9_parseSign 0 (zar 0 [vR 211, vI 58]) [] h18 (qI (fun z21 h22 => zSh h22 ∧ ((z21 = 0 ∨ z21 = 1) ∧ Q (some (vI z21)) h22)))))))))))) ∧ (z10 ≠ (-1) → (wpN G (d - 1) M_X9_refuse 0 (zar 0 [vR 211, vI (gI h11 211 2)]) [] h11 (qI (fun z25 h26 => zSh h26 ∧ ((z25 = 0 ∨ z25 = 1) ∧ Q (some (vI z25)) h26)))))))))))))))) : wpN G d M_X9_parseName 0 [(0, vR 211), (1, vI p1)] [] h Q := by
  refine wq_aload_n 0 rfl rfl dX9_parseName_0 ?_
  refine wq_getI fk_X9_25 tT_211 (fun _ _ _ => rfl) dX9_parseName_1 ?_
  refine wN_S (As := [vI (gI h 211 3)]) md_X9_isName ms_X9_isName lk_X9_112 rfl rfl (Nat.le_of_ble_eq_true rfl) (Nat.le_of_ble_eq_true rfl) (d' := d - 1) (by omega) dX9_parseName_4 hv (fun v9 h2 q3 => ?_)
  obtain ⟨z1, rfl, hS4, q3⟩ := q3
  refine wq_st (st' := [vI z1]) rfl ?_
  refine wq_if_eq 26 rfl dX9_parseName_7 (fun c5 => ?_) (fun c5 => ?_)
  · refine wq_aload_n 0 rfl rfl dX9_parseName_26 ?_
    refine wq_aload_n 0 rfl rfl dX9_parseName_27 ?_
    refine wq_getI fk_X9_19 tT_211 (fun _ _ _ => rfl) dX9_parseName_28 ?_
    refine wN_V (As := [vI (gI h2 211 2)]) vm_X9_refuse lk_X9_59 tT_211 rfl rfl (Nat.le_of_ble_eq_true rfl) (Nat.le_of_ble_eq_true rfl) (d' := d - 1) (by omega) dX9_parseName_31 (q3.1 c5) (fun v9 h7 q8 => ?_)
    obtain ⟨z6, rfl, hS9, q8⟩ := q8
    refine wq_st (st' := [vI z6]) rfl ?_
    exact wp_zret q8.1 rfl dX9_parseName_34 q8.2
  · refine wq_aload_n 0 rfl rfl dX9_parseName_10 ?_
    refine wq_getR fk_X9_15 tT_211 (fun _ _ _ => rfl) rfl (zT_nz (q3.2 c5).1 (by decide)) dX9_parseName_11 ?_
    refine wq_iload_n 1 rfl rfl dX9_parseName_14 ?_
    refine wq_aload_n 0 rfl rfl dX9_parseName_15 ?_
    refine wq_getI fk_X9_25 tT_211 (fun _ _ _ => rfl) dX9_parseName_16 ?_
    refine wN_V (As := [vI p1, vI (gI h2 211 3)]) vm_X8_sibling lk_X9_115 (q3.2 c5).1 rfl rfl (Nat.le_of_ble_eq_true rfl) (Nat.le_of_ble_eq_true rfl) (d' := d - 1) (by omega) dX9_parseName_19 (q3.2 c5).2 (fun v9 h11 q12 => ?_)
    obtain ⟨z10, rfl, hS13, q12⟩ := q12
    refine wq_st (st' := [vI z10]) rfl ?_
    refine wq_iconst (z := -1) (zlit rfl) dX9_parseName_22 ?_
    refine wq_icmp_eq 35 rfl dX9_parseName_23 (fun c14 => ?_) (fun c14 => ?_)
    · refine wq_aload_n 0 rfl rfl dX9_parseName_35 ?_
      refine wq_getR fk_X9_15 tT_211 (fun _ _ _ => rfl) rfl (zT_nz (q12.1 c14).1 (by decide)) dX9_parseName_36 ?_
      refine wq_getR (r := ((gR h11 211 1) + 1)) fk_X9_73 (q12.1 c14).1 (fun _ _ _ => rfl) (sh_8_0 hS13 (q12.1 c14).1) (by omega) dX9_parseName_39 ?_
      refine wq_iload_n 1 rfl rfl dX9_parseName_42 ?_
      refine wq_aald (r := ((gR h11 211 1) + 2 + p1.toNat)) (ztm0 (q12.1 c14).1) (by decide) (by decide) rfl (q12.1 c14).2.1.1 (q12.1 c14).2.1.2 (sh_itm hS13 (q12.1 c14).1 (zlt_n (q12.1 c14).2.1.1 (q12.1 c14).2.1.2)) (by omega) dX9_parseName_43 ?_
      refine wq_aload_n 0 rfl rfl dX9_parseName_44 ?_
      refine wq_getI fk_X9_25 tT_211 (fun _ _ _ => rfl) dX9_parseName_45 ?_
      refine wq_putI fk_X9_118 (zitm (q12.1 c14).1 (zlt_n (q12.1 c14).2.1.1 (q12.1 c14).2.1.2)) rfl rfl dX9_parseName_48 ?_
      refine wq_toph (fun h15 e16 => ?_)
      have sh15 : zSh h15 := zSh_of e16 hS13
      refine wq_aload_n 0 rfl rfl dX9_parseName_51 ?_
      refine wq_aload_n 0 rfl rfl dX9_parseName_52 ?_
      refine wq_getI fk_X9_19 tT_211 (fun _ _ _ => rfl) dX9_parseName_53 ?_
      refine wq_iconst (z := 1) (zlit rfl) dX9_parseName_56 ?_
      refine wq_iadd ((q12.1 c14).2.2 h15 e16).1 dX9_parseName_57 ?_
      refine wN_V (As := [vI ((gI h15 211 2) + 1)]) vm_X9_moveTo lk_X9_36 tT_211 rfl rfl (Nat.le_of_ble_eq_true rfl) (Nat.le_of_ble_eq_true rfl) (d' := d - 1) (by omega) dX9_parseName_58 ((q12.1 c14).2.2 h15 e16).2 (fun v9 h18 q19 => ?_)
      obtain ⟨rfl, hS20, q19⟩ := q19
      refine wq_st (st' := []) rfl ?_
      refine wq_aload_n 0 rfl rfl dX9_parseName_61 ?_
      refine wq_bipush (z := 58) (zlit rfl) rfl dX9_parseName_62 ?_
      refine wN_V (As := [vI 58]) vm_X9_parseSign lk_X9_87 tT_211 rfl rfl (Nat.le_of_ble_eq_true rfl) (Nat.le_of_ble_eq_true rfl) (d' := d - 1) (by omega) dX9_parseName_64 q19 (fun v9 h22 q23 => ?_)
      obtain ⟨z21, rfl, hS24, q23⟩ := q23
      refine wq_st (st' := [vI z21]) rfl ?_
      exact wp_zret q23.1 rfl dX9_parseName_67 q23.2
    · refine wq_aload_n 0 rfl rfl dX9_parseName_26 ?_
      refine wq_aload_n 0 rfl rfl dX9_parseName_27 ?_
      refine wq_getI fk_X9_19 tT_211 (fun _ _ _ => rfl) dX9_parseName_28 ?_
      refine wN_V (As := [vI (gI h11 211 2)]) vm_X9_refuse lk_X9_59 tT_211 rfl rfl (Nat.le_of_ble_eq_true rfl) (Nat.le_of_ble_eq_true rfl) (d' := d - 1) (by omega) dX9_parseName_31 (q12.2 c14) (fun v9 h26 q27 => ?_)
      obtain ⟨z25, rfl, hS28, q27⟩ := q27
      refine wq_st (st' := [vI z25]) rfl ?_
      exact wp_zret q27.1 rfl dX9_parseName_34 q27.2
theorem dX9_parseType_0 : decode cX9_parseType 0 = .ok (.aload_n 0, 1) := by decide +kernel
theorem dX9_parseType_1 : decode cX9_parseType 1 = .ok (.getfield 15, 3) := by decide +kernel
theorem dX9_parseType_4 : decode cX9_parseType 4 = .ok (.getfield 73, 3) := by decide +kernel
theorem dX9_parseType_7 : decode cX9_parseType 7 = .ok (.iload_n 1, 1) := by decide +kernel
theorem dX9_parseType_8 : decode cX9_parseType 8 = .ok (.aaload, 1) := by decide +kernel
theorem dX9_parseType_9 : decode cX9_parseType 9 = .ok (.astore_n 3, 1) := by decide +kernel
theorem dX9_parseType_10 : decode cX9_parseType 10 = .ok (.aload_n 0, 1) := by decide +kernel
theorem dX9_parseType_11 : decode cX9_parseType 11 = .ok (.getfield 25, 3) := by decide +kernel
theorem dX9_parseType_14 : decode cX9_parseType 14 = .ok (.lookupswitch 127 #[(99, 119), (105, 58), (115, 111), (117, 58), (120, 103), (123, 80)], 58) := by decide +kernel
theorem dX9_parseType_72 : decode cX9_parseType 72 = .ok (.aload_n 0, 1) := by decide +kernel
theorem dX9_parseType_73 : decode cX9_parseType 73 = .ok (.aload_n 3, 1) := by decide +kernel
theorem dX9_parseType_74 : decode cX9_parseType 74 = .ok (.invokevirtual 121, 3) := by decide +kernel
theorem dX9_parseType_77 : decode cX9_parseType 77 = .ok (.ifCond .eq 15, 3) := by decide +kernel
theorem dX9_parseType_80 : decode cX9_parseType 80 = .ok (.aload_n 0, 1) := by decide +kernel
theorem dX9_parseType_81 : decode cX9_parseType 81 = .ok (.iload_n 1, 1) := by decide +kernel
theorem dX9_parseType_82 : decode cX9_parseType 82 = .ok (.invokevirtual 124, 3) := by decide +kernel
theorem dX9_parseType_85 : decode cX9_parseType 85 = .ok (.ifCond .eq 7, 3) := by decide +kernel
theorem dX9_parseType_88 : decode cX9_parseType 88 = .ok (.iconst 1, 1) := by decide +kernel
theorem dX9_parseType_89 : decode cX9_parseType 89 = .ok (.goto 4, 3) := by decide +kernel
theorem dX9_parseType_92 : decode cX9_parseType 92 = .ok (.iconst 0, 1) := by decide +kernel
theorem dX9_parseType_93 : decode cX9_parseType 93 = .ok (.ireturn, 1) := by decide +kernel
theorem dX9_parseType_94 : decode cX9_parseType 94 = .ok (.aload_n 0, 1) := by decide +kernel
theorem dX9_parseType_95 : decode cX9_parseType 95 = .ok (.iload_n 1, 1) := by decide +kernel
theorem dX9_parseType_96 : decode cX9_parseType 96 = .ok (.iload_n 2, 1) := by decide +kernel
theorem dX9_parseType_97 : decode cX9_parseType 97 = .ok (.invokevirtual 127, 3) := by decide +kernel
theorem dX9_parseType_100 : decode cX9_parseType 100 = .ok (.ifCond .eq 15, 3) := by decide +kernel
theorem dX9_parseType_103 : decode cX9_parseType 103 = .ok (.aload_n 0, 1) := by decide +kernel
theorem dX9_parseType_104 : decode cX9_parseType 104 = .ok (.iload_n 1, 1) := by decide +kernel
theorem dX9_parseType_105 : decode cX9_parseType 105 = .ok (.invokevirtual 124, 3) := by decide +kernel
theorem dX9_parseType_108 : decode cX9_parseType 108 = .ok (.ifCond .eq 7, 3) := by decide +kernel
theorem dX9_parseType_111 : decode cX9_parseType 111 = .ok (.iconst 1, 1) := by decide +kernel
theorem dX9_parseType_112 : decode cX9_parseType 112 = .ok (.goto 4, 3) := by decide +kernel
theorem dX9_parseType_115 : decode cX9_parseType 115 = .ok (.iconst 0, 1) := by decide +kernel
theorem dX9_parseType_116 : decode cX9_parseType 116 = .ok (.ireturn, 1) := by decide +kernel
theorem dX9_parseType_117 : decode cX9_parseType 117 = .ok (.aload_n 0, 1) := by decide +kernel
theorem dX9_parseType_118 : decode cX9_parseType 118 = .ok (.iload_n 1, 1) := by decide +kernel
theorem dX9_parseType_119 : decode cX9_parseType 119 = .ok (.iconst 2, 1) := by decide +kernel
theorem dX9_parseType_120 : decode cX9_parseType 120 = .ok (.iconst 1, 1) := by decide +kernel
theorem dX9_parseType_121 : decode cX9_parseType 121 = .ok (.invokevirtual 130, 3) := by decide +kernel
theorem dX9_parseType_124 : decode cX9_parseType 124 = .ok (.ireturn, 1) := by decide +kernel
theorem dX9_parseType_125 : decode cX9_parseType 125 = .ok (.aload_n 0, 1) := by decide +kernel
theorem dX9_parseType_126 : decode cX9_parseType 126 = .ok (.iload_n 1, 1) := by decide +kernel
theorem dX9_parseType_127 : decode cX9_parseType 127 = .ok (.iconst 3, 1) := by decide +kernel
theorem dX9_parseType_128 : decode cX9_parseType 128 = .ok (.iconst 2, 1) := by decide +kernel
theorem dX9_parseType_129 : decode cX9_parseType 129 = .ok (.invokevirtual 130, 3) := by decide +kernel
theorem dX9_parseType_132 : decode cX9_parseType 132 = .ok (.ireturn, 1) := by decide +kernel
theorem dX9_parseType_133 : decode cX9_parseType 133 = .ok (.aload_n 0, 1) := by decide +kernel
theorem dX9_parseType_134 : decode cX9_parseType 134 = .ok (.iload_n 1, 1) := by decide +kernel
theorem dX9_parseType_135 : decode cX9_parseType 135 = .ok (.iconst 4, 1) := by decide +kernel
theorem dX9_parseType_136 : decode cX9_parseType 136 = .ok (.iconst 2, 1) := by decide +kernel
theorem dX9_parseType_137 : decode cX9_parseType 137 = .ok (.invokevirtual 130, 3) := by decide +kernel
theorem dX9_parseType_140 : decode cX9_parseType 140 = .ok (.ireturn, 1) := by decide +kernel
theorem dX9_parseType_141 : decode cX9_parseType 141 = .ok (.aload_n 0, 1) := by decide +kernel
theorem dX9_parseType_142 : decode cX9_parseType 142 = .ok (.aload_n 0, 1) := by decide +kernel
theorem dX9_parseType_143 : decode cX9_parseType 143 = .ok (.getfield 19, 3) := by decide +kernel
theorem dX9_parseType_146 : decode cX9_parseType 146 = .ok (.invokevirtual 59, 3) := by decide +kernel
theorem dX9_parseType_149 : decode cX9_parseType 149 = .ok (.ireturn, 1) := by decide +kernel
theorem vc_X9_parseType_0 {G : zG} {d : Nat} {Q : Option zV → zHp → Prop} (p1 : Int) (p2 : Int) (h : zHp) (hS : zSh h) (hd : 8 ≤ d)  
    (hv : (zT 369 (gR h 211 1) = (108, 2) ∧ (((0 : Int) ≤ p1 ∧ p1 < ((24 : Nat) : Int)) ∧ (((gI h 211 3) = 99 → (wpN G (d - 1) M_X9_parseCheck 0 (zar 0 [vR 211, vI p1, vI 4, vI 2]) [] h (qI (fun z2 h3 => zSh h3 ∧ ((z2 = 0 ∨ z2 = 1) ∧ Q (some (vI z2)) h3))))) ∧ ((gI h 211 3) = 105 → (wpN G (d - 1) M_X9_parseInteger 0 (zar 0 [vR 211, vR ((gR h 211 1) + 2 + p1.toNat)]) [] h (qI (fun z7 h8 => zSh h8 ∧ ((z7 = 0 → Q (some (vI 0)) h8) ∧ (z7 ≠ 0 → (wpN G (d - 1) M_X9_parseCount 0 (zar 0 [vR 211, vI p1]) [] h8 (qI (fun z12 h13 => zSh h13 ∧ ((z12 = 0 → Q (some (vI 0)) h13) ∧ (z12 ≠ 0 → Q (some (vI 1)) h13))))))))))) ∧ ((gI h 211 3) = 115 → (wpN G (d - 1) M_X9_parseCheck 0 (zar 0 [vR 211, vI p1, vI 3, vI 2]) [] h (qI (fun z18 h19 => zSh h19 ∧ ((z18 = 0 ∨ z18 = 1) ∧ Q (some (vI z18)) h19))))) ∧ ((gI h 211 3) = 117 → (wpN G (d - 1) M_X9_parseInteger 0 (zar 0 [vR 211, vR ((gR h 211 1) + 2 + p1.toNat)]) [] h (qI (fun z23 h24 => zSh h24 ∧ ((z23 = 0 → Q (some (vI 0)) h24) ∧ (z23 ≠ 0 → (wpN G (d - 1) M_X9_parseCount 0 (zar 0 [vR 211, vI p1]) [] h24 (qI (fun z28 h29 => zSh h29 ∧ ((z28 = 0 → Q (some (vI 0)) h29) ∧ (z28 ≠ 0 → Q (some (vI 1)) h29))))))))))) ∧ ((gI h 211 3) = 120 → (wpN G (d - 1) M_X9_parseCheck 0 (zar 0 [vR 211, vI p1, vI 2, vI 1]) [] h (qI (fun z34 h35 => zSh h35 ∧ ((z34 = 0 ∨ z34 = 1) ∧ Q (some (vI z34)) h35))))) ∧ ((gI h 211 3) = 123 → (wpN G (d - 1) M_X9_parseStructure 0 (zar 0 [vR 211, vI p1, vI p2]) [] h (qI (fun z39 h40 => zSh h40 ∧ ((z39 = 0 → Q (some (vI 0)) h40) ∧ (z39 ≠ 0 → (wpN G (d - 1) M_X9_parseCount 0 (zar 0 [vR 211, vI p1]) [] h40 (qI (fun z44 h45 => zSh h45 ∧ ((z44 = 0 → Q (some (vI 0)) h45) ∧ (z44 ≠ 0 → Q (some (vI 1)) h45))))))))))) ∧ ((gI h 211 3) ≠ 99 → (gI h 211 3) ≠ 105 → (gI h 211 3) ≠ 115 → (gI h 211 3) ≠ 117 → (gI h 211 3) ≠ 120 → (gI h 211 3) ≠ 123 → (wpN G (d - 1) M_X9_refuse 0 (zar 0 [vR 211, vI (gI h 211 2)]) [] h (qI (fun z49 h50 => zSh h50 ∧ ((z49 = 0 ∨ z49 = 1) ∧ Q (some (vI z49)) h50))))))))) : wpN G d M_X9_parseType 0 [(0, vR 211), (1, vI p1), (2, vI p2)] [] h Q := by
  refine wq_aload_n 0 rfl rfl dX9_parseType_0 ?_
  refine wq_getR fk_X9_15 tT_211 (fun _ _ _ => rfl) rfl (zT_nz hv.1 (by decide)) dX9_parseType_1 ?_
  refine wq_getR (r := ((gR h 211 1) + 1)) fk_X9_73 hv.1 (fun _ _ _ => rfl) (sh_8_0 hS hv.1) (by omega) dX9_parseType_4 ?_
  refine wq_iload_n 1 rfl rfl dX9_parseType_7 ?_
  refine wq_aald (r := ((gR h 211 1) + 2 + p1.toNat)) (ztm0 hv.1) (by decide) (by decide) rfl hv.2.1.1 hv.2.1.2 (sh_itm hS hv.1 (zlt_n hv.2.1.1 hv.2.1.2)) (by omega) dX9_parseType_8 ?_
  refine wq_astore_n (ls' := [(0, vR 211), (1, vI p1), (2, vI p2), (3, vR ((gR h 211 1) + 2 + p1.toNat))]) rfl (by decide) rfl dX9_parseType_9 ?_
  refine wq_aload_n 0 rfl rfl dX9_parseType_10 ?_
  refine wq_getI fk_X9_25 tT_211 (fun _ _ _ => rfl) dX9_parseType_11 ?_
  refine wq_lsw rfl dX9_parseType_14 (fun off eo => ?_)
  by_cases c1 : (99 : Int) = (gI h 211 3)
  · refine ⟨133, ?_, ?_⟩
    · rw [← eo, ← c1]; rfl
    · refine wq_aload_n 0 rfl rfl dX9_parseType_133 ?_
      refine wq_iload_n 1 rfl rfl dX9_parseType_134 ?_
      refine wq_iconst (z := 4) (zlit rfl) dX9_parseType_135 ?_
      refine wq_iconst (z := 2) (zlit rfl) dX9_parseType_136 ?_
      refine wN_V (As := [vI p1, vI 4, vI 2]) vm_X9_parseCheck lk_X9_130 tT_211 rfl rfl (Nat.le_of_ble_eq_true rfl) (Nat.le_of_ble_eq_true rfl) (d' := d - 1) (by omega) dX9_parseType_137 (hv.2.2.1 c1.symm) (fun v9 h3 q4 => ?_)
      obtain ⟨z2, rfl, hS5, q4⟩ := q4
      refine wq_st (st' := [vI z2]) rfl ?_
      exact wp_zret q4.1 rfl dX9_parseType_140 q4.2
  by_cases c6 : (105 : Int) = (gI h 211 3)
  · refine ⟨72, ?_, ?_⟩
    · rw [← eo, ← c6]; rfl
    · refine wq_aload_n 0 rfl rfl dX9_parseType_72 ?_
      refine wq_aload_n 3 rfl rfl dX9_parseType_73 ?_
      refine wN_V (As := [vR ((gR h 211 1) + 2 + p1.toNat)]) vm_X9_parseInteger lk_X9_121 tT_211 rfl rfl (Nat.le_of_ble_eq_true rfl) (Nat.le_of_ble_eq_true rfl) (d' := d - 1) (by omega) dX9_parseType_74 (hv.2.2.2.1 c6.symm) (fun v9 h8 q9 => ?_)
      obtain ⟨z7, rfl, hS10, q9⟩ := q9
      refine wq_st (st' := [vI z7]) rfl ?_
      refine wq_if_eq 92 rfl dX9_parseType_77 (fun c11 => ?_) (fun c11 => ?_)
      · refine wq_iconst (z := 0) (zlit rfl) dX9_parseType_92 ?_
        exact wp_zret (Or.inl rfl) rfl dX9_parseType_93 (q9.1 c11)
      · refine wq_aload_n 0 rfl rfl dX9_parseType_80 ?_
        refine wq_iload_n 1 rfl rfl dX9_parseType_81 ?_
        refine wN_V (As := [vI p1]) vm_X9_parseCount lk_X9_124 tT_211 rfl rfl (Nat.le_of_ble_eq_true rfl) (Nat.le_of_ble_eq_true rfl) (d' := d - 1) (by omega) dX9_parseType_82 (q9.2 c11) (fun v9 h13 q14 => ?_)
        obtain ⟨z12, rfl, hS15, q14⟩ := q14
        refine wq_st (st' := [vI z12]) rfl ?_
        refine wq_if_eq 92 rfl dX9_parseType_85 (fun c16 => ?_) (fun c16 => ?_)
        · refine wq_iconst (z := 0) (zlit rfl) dX9_parseType_92 ?_
          exact wp_zret (Or.inl rfl) rfl dX9_parseType_93 (q14.1 c16)
        · refine wq_iconst (z := 1) (zlit rfl) dX9_parseType_88 ?_
          refine wq_goto 93 rfl dX9_parseType_89 ?_
          exact wp_zret (Or.inr rfl) rfl dX9_parseType_93 (q14.2 c16)
  by_cases c17 : (115 : Int) = (gI h 211 3)
  · refine ⟨125, ?_, ?_⟩
    · rw [← eo, ← c17]; rfl
    · refine wq_aload_n 0 rfl rfl dX9_parseType_125 ?_
      refine wq_iload_n 1 rfl rfl dX9_parseType_126 ?_
      refine wq_iconst (z := 3) (zlit rfl) dX9_parseType_127 ?_
      refine wq_iconst (z := 2) (zlit rfl) dX9_parseType_128 ?_
      refine wN_V (As := [vI p1, vI 3, vI 2]) vm_X9_parseCheck lk_X9_130 tT_211 rfl rfl (Nat.le_of_ble_eq_true rfl) (Nat.le_of_ble_eq_true rfl) (d' := d - 1) (by omega) dX9_parseType_129 (hv.2.2.2.2.1 c17.symm) (fun v9 h19 q20 => ?_)
      obtain ⟨z18, rfl, hS21, q20⟩ := q20
      refine wq_st (st' := [vI z18]) rfl ?_
      exact wp_zret q20.1 rfl dX9_parseType_132 q20.2
  by_cases c22 : (117 : Int) = (gI h 211 3)
  · refine ⟨72, ?_, ?_⟩
    · rw [← eo, ← c22]; rfl
    · refine wq_aload_n 0 rfl rfl dX9_parseType_72 ?_
      refine wq_aload_n 3 rfl rfl dX9_parseType_73 ?_
      refine wN_V (As := [vR ((gR h 211 1) + 2 + p1.toNat)]) vm_X9_parseInteger lk_X9_121 tT_211 rfl rfl (Nat.le_of_ble_eq_true rfl) (Nat.le_of_ble_eq_true rfl) (d' := d - 1) (by omega) dX9_parseType_74 (hv.2.2.2.2.2.1 c22.symm) (fun v9 h24 q25 => ?_)
      obtain ⟨z23, rfl, hS26, q25⟩ := q25
      refine wq_st (st' := [vI z23]) rfl ?_
      refine wq_if_eq 92 rfl dX9_parseType_77 (fun c27 => ?_) (fun c27 => ?_)
      · refine wq_iconst (z := 0) (zlit rfl) dX9_parseType_92 ?_
        exact wp_zret (Or.inl rfl) rfl dX9_parseType_93 (q25.1 c27)
      · refine wq_aload_n 0 rfl rfl dX9_parseType_80 ?_
        refine wq_iload_n 1 rfl rfl dX9_parseType_81 ?_
        refine wN_V (As := [vI p1]) vm_X9_parseCount lk_X9_124 tT_211 rfl rfl (Nat.le_of_ble_eq_true rfl) (Nat.le_of_ble_eq_true rfl) (d' := d - 1) (by omega) dX9_parseType_82 (q25.2 c27) (fun v9 h29 q30 => ?_)
        obtain ⟨z28, rfl, hS31, q30⟩ := q30
        refine wq_st (st' := [vI z28]) rfl ?_
        refine wq_if_eq 92 rfl dX9_parseType_85 (fun c32 => ?_) (fun c32 => ?_)
        · refine wq_iconst (z := 0) (zlit rfl) dX9_parseType_92 ?_
          exact wp_zret (Or.inl rfl) rfl dX9_parseType_93 (q30.1 c32)
        · refine wq_iconst (z := 1) (zlit rfl) dX9_parseType_88 ?_
          refine wq_goto 93 rfl dX9_parseType_89 ?_
          exact wp_zret (Or.inr rfl) rfl dX9_parseType_93 (q30.2 c32)
  by_cases c33 : (120 : Int) = (gI h 211 3)
  · refine ⟨117, ?_, ?_⟩
    · rw [← eo, ← c33]; rfl
    · refine wq_aload_n 0 rfl rfl dX9_parseType_117 ?_
      refine wq_iload_n 1 rfl rfl dX9_parseType_118 ?_
      refine wq_iconst (z := 2) (zlit rfl) dX9_parseType_119 ?_
      refine wq_iconst (z := 1) (zlit rfl) dX9_parseType_120 ?_
      refine wN_V (As := [vI p1, vI 2, vI 1]) vm_X9_parseCheck lk_X9_130 tT_211 rfl rfl (Nat.le_of_ble_eq_true rfl) (Nat.le_of_ble_eq_true rfl) (d' := d - 1) (by omega) dX9_parseType_121 (hv.2.2.2.2.2.2.1 c33.symm) (fun v9 h35 q36 => ?_)
      obtain ⟨z34, rfl, hS37, q36⟩ := q36
      refine wq_st (st' := [vI z34]) rfl ?_
      exact wp_zret q36.1 rfl dX9_parseType_124 q36.2
  by_cases c38 : (123 : Int) = (gI h 211 3)
  · refine ⟨94, ?_, ?_⟩
    · rw [← eo, ← c38]; rfl
    · refine wq_aload_n 0 rfl rfl dX9_parseType_94 ?_
      refine wq_iload_n 1 rfl rfl dX9_parseType_95 ?_
      refine wq_iload_n 2 rfl rfl dX9_parseType_96 ?_
      refine wN_V (As := [vI p1, vI p2]) vm_X9_parseStructure lk_X9_127 tT_211 rfl rfl (Nat.le_of_ble_eq_true rfl) (Nat.le_of_ble_eq_true rfl) (d' := d - 1) (by omega) dX9_parseType_97 (hv.2.2.2.2.2.2.2.1 c38.symm) (fun v9 h40 q41 => ?_)
      obtain ⟨z39, rfl, hS42, q41⟩ := q41
      refine wq_st (st' := [vI z39]) rfl ?_
      refine wq_if_eq 115 rfl dX9_parseType_100 (fun c43 => ?_) (fun c43 => ?_)
      · refine wq_iconst (z := 0) (zlit rfl) dX9_parseType_115 ?_
        exact wp_zret (Or.inl rfl) rfl dX9_parseType_116 (q41.1 c43)
      · refine wq_aload_n 0 rfl rfl dX9_parseType_103 ?_
        refine wq_iload_n 1 rfl rfl dX9_parseType_104 ?_
        refine wN_V (As := [vI p1]) vm_X9_parseCount lk_X9_124 tT_211 rfl rfl (Nat.le_of_ble_eq_true rfl) (Nat.le_of_ble_eq_true rfl) (d' := d - 1) (by omega) dX9_parseType_105 (q41.2 c43) (fun v9 h45 q46 => ?_)
        obtain ⟨z44, rfl, hS47, q46⟩ := q46
        refine wq_st (st' := [vI z44]) rfl ?_
        refine wq_if_eq 115 rfl dX9_parseType_108 (fun c48 => ?_) (fun c48 => ?_)
        · refine wq_iconst (z := 0) (zlit rfl) dX9_parseType_115 ?_
          exact wp_zret (Or.inl rfl) rfl dX9_parseType_116 (q46.1 c48)
        · refine wq_iconst (z := 1) (zlit rfl) dX9_parseType_111 ?_
          refine wq_goto 116 rfl dX9_parseType_112 ?_
          exact wp_zret (Or.inr rfl) rfl dX9_parseType_116 (q46.2 c48)
  refine ⟨141, ?_, ?_⟩
  · rw [← eo]
    show ((14 : Nat) : Int) + Op.lookupswitch.offset [(99, 119), (105, 58), (115, 111), (117, 58), (120, 103), (123, 80)] 127 (gI h 211 3) = _
    rw [Op.lookupswitch.offset_cons, if_neg c1, Op.lookupswitch.offset_cons, if_neg c6, Op.lookupswitch.offset_cons, if_neg c17, Op.lookupswitch.offset_cons, if_neg c22, Op.lookupswitch.offset_cons, if_neg c33, Op.lookupswitch.offset_cons, if_neg c38, Op.lookupswitch.offset_nil]; rfl
  · refine wq_aload_n 0 rfl rfl dX9_parseType_141 ?_
    refine wq_aload_n 0 rfl rfl dX9_parseType_142 ?_
    refine wq_getI fk_X9_19 tT_211 (fun _ _ _ => rfl) dX9_parseType_143 ?_
    refine wN_V (As := [vI (gI h 211 2)]) vm_X9_refuse lk_X9_59 tT_211 rfl rfl (Nat.le_of_ble_eq_true rfl) (Nat.le_of_ble_eq_true rfl) (d' := d - 1) (by omega) dX9_parseType_146 (hv.2.2.2.2.2.2.2.2 (Ne.symm c1) (Ne.symm c6) (Ne.symm c17) (Ne.symm c22) (Ne.symm c33) (Ne.symm c38)) (fun v9 h50 q51 => ?_)
    obtain ⟨z49, rfl, hS52, q51⟩ := q51
    refine wq_st (st' := [vI z49]) rfl ?_
    exact wp_zret q51.1 rfl dX9_parseType_149 q51.2
theorem dX9_parseInteger_0 : decode cX9_parseInteger 0 = .ok (.aload_n 1, 1) := by decide +kernel
theorem dX9_parseInteger_1 : decode cX9_parseInteger 1 = .ok (.aload_n 0, 1) := by decide +kernel
theorem dX9_parseInteger_2 : decode cX9_parseInteger 2 = .ok (.getfield 25, 3) := by decide +kernel
theorem dX9_parseInteger_5 : decode cX9_parseInteger 5 = .ok (.bipush 105, 2) := by decide +kernel
theorem dX9_parseInteger_7 : decode cX9_parseInteger 7 = .ok (.if_icmp .ne 7, 3) := by decide +kernel
theorem dX9_parseInteger_10 : decode cX9_parseInteger 10 = .ok (.iconst 1, 1) := by decide +kernel
theorem dX9_parseInteger_11 : decode cX9_parseInteger 11 = .ok (.goto 4, 3) := by decide +kernel
theorem dX9_parseInteger_14 : decode cX9_parseInteger 14 = .ok (.iconst 0, 1) := by decide +kernel
theorem dX9_parseInteger_15 : decode cX9_parseInteger 15 = .ok (.putfield 106, 3) := by decide +kernel
theorem dX9_parseInteger_18 : decode cX9_parseInteger 18 = .ok (.aload_n 0, 1) := by decide +kernel
theorem dX9_parseInteger_19 : decode cX9_parseInteger 19 = .ok (.aload_n 0, 1) := by decide +kernel
theorem dX9_parseInteger_20 : decode cX9_parseInteger 20 = .ok (.getfield 19, 3) := by decide +kernel
theorem dX9_parseInteger_23 : decode cX9_parseInteger 23 = .ok (.iconst 1, 1) := by decide +kernel
theorem dX9_parseInteger_24 : decode cX9_parseInteger 24 = .ok (.iadd, 1) := by decide +kernel
theorem dX9_parseInteger_25 : decode cX9_parseInteger 25 = .ok (.invokevirtual 36, 3) := by decide +kernel
theorem dX9_parseInteger_28 : decode cX9_parseInteger 28 = .ok (.aload_n 0, 1) := by decide +kernel
theorem dX9_parseInteger_29 : decode cX9_parseInteger 29 = .ok (.getfield 25, 3) := by decide +kernel
theorem dX9_parseInteger_32 : decode cX9_parseInteger 32 = .ok (.bipush 49, 2) := by decide +kernel
theorem dX9_parseInteger_34 : decode cX9_parseInteger 34 = .ok (.if_icmp .eq 30, 3) := by decide +kernel
theorem dX9_parseInteger_37 : decode cX9_parseInteger 37 = .ok (.aload_n 0, 1) := by decide +kernel
theorem dX9_parseInteger_38 : decode cX9_parseInteger 38 = .ok (.getfield 25, 3) := by decide +kernel
theorem dX9_parseInteger_41 : decode cX9_parseInteger 41 = .ok (.bipush 50, 2) := by decide +kernel
theorem dX9_parseInteger_43 : decode cX9_parseInteger 43 = .ok (.if_icmp .eq 21, 3) := by decide +kernel
theorem dX9_parseInteger_46 : decode cX9_parseInteger 46 = .ok (.aload_n 0, 1) := by decide +kernel
theorem dX9_parseInteger_47 : decode cX9_parseInteger 47 = .ok (.getfield 25, 3) := by decide +kernel
theorem dX9_parseInteger_50 : decode cX9_parseInteger 50 = .ok (.bipush 52, 2) := by decide +kernel
theorem dX9_parseInteger_52 : decode cX9_parseInteger 52 = .ok (.if_icmp .eq 12, 3) := by decide +kernel
theorem dX9_parseInteger_55 : decode cX9_parseInteger 55 = .ok (.aload_n 0, 1) := by decide +kernel
theorem dX9_parseInteger_56 : decode cX9_parseInteger 56 = .ok (.aload_n 0, 1) := by decide +kernel
theorem dX9_parseInteger_57 : decode cX9_parseInteger 57 = .ok (.getfield 19, 3) := by decide +kernel
theorem dX9_parseInteger_60 : decode cX9_parseInteger 60 = .ok (.invokevirtual 59, 3) := by decide +kernel
theorem dX9_parseInteger_63 : decode cX9_parseInteger 63 = .ok (.ireturn, 1) := by decide +kernel
theorem dX9_parseInteger_64 : decode cX9_parseInteger 64 = .ok (.aload_n 1, 1) := by decide +kernel
theorem dX9_parseInteger_65 : decode cX9_parseInteger 65 = .ok (.aload_n 0, 1) := by decide +kernel
theorem dX9_parseInteger_66 : decode cX9_parseInteger 66 = .ok (.getfield 25, 3) := by decide +kernel
theorem dX9_parseInteger_69 : decode cX9_parseInteger 69 = .ok (.bipush 48, 2) := by decide +kernel
theorem dX9_parseInteger_71 : decode cX9_parseInteger 71 = .ok (.isub, 1) := by decide +kernel
theorem dX9_parseInteger_72 : decode cX9_parseInteger 72 = .ok (.putfield 134, 3) := by decide +kernel
theorem dX9_parseInteger_75 : decode cX9_parseInteger 75 = .ok (.aload_n 0, 1) := by decide +kernel
theorem dX9_parseInteger_76 : decode cX9_parseInteger 76 = .ok (.aload_n 0, 1) := by decide +kernel
theorem dX9_parseInteger_77 : decode cX9_parseInteger 77 = .ok (.getfield 19, 3) := by decide +kernel
theorem dX9_parseInteger_80 : decode cX9_parseInteger 80 = .ok (.iconst 1, 1) := by decide +kernel
theorem dX9_parseInteger_81 : decode cX9_parseInteger 81 = .ok (.iadd, 1) := by decide +kernel
theorem dX9_parseInteger_82 : decode cX9_parseInteger 82 = .ok (.invokevirtual 36, 3) := by decide +kernel
theorem dX9_parseInteger_85 : decode cX9_parseInteger 85 = .ok (.aload_n 1, 1) := by decide +kernel
theorem dX9_parseInteger_86 : decode cX9_parseInteger 86 = .ok (.aload_n 0, 1) := by decide +kernel
theorem dX9_parseInteger_87 : decode cX9_parseInteger 87 = .ok (.getfield 25, 3) := by decide +kernel
theorem dX9_parseInteger_90 : decode cX9_parseInteger 90 = .ok (.bipush 60, 2) := by decide +kernel
theorem dX9_parseInteger_92 : decode cX9_parseInteger 92 = .ok (.if_icmp .ne 7, 3) := by decide +kernel
theorem dX9_parseInteger_95 : decode cX9_parseInteger 95 = .ok (.iconst 1, 1) := by decide +kernel
theorem dX9_parseInteger_96 : decode cX9_parseInteger 96 = .ok (.goto 4, 3) := by decide +kernel
theorem dX9_parseInteger_99 : decode cX9_parseInteger 99 = .ok (.iconst 0, 1) := by decide +kernel
theorem dX9_parseInteger_100 : decode cX9_parseInteger 100 = .ok (.putfield 135, 3) := by decide +kernel
theorem dX9_parseInteger_103 : decode cX9_parseInteger 103 = .ok (.aload_n 1, 1) := by decide +kernel
theorem dX9_parseInteger_104 : decode cX9_parseInteger 104 = .ok (.getfield 135, 3) := by decide +kernel
theorem dX9_parseInteger_107 : decode cX9_parseInteger 107 = .ok (.ifCond .eq 13, 3) := by decide +kernel
theorem dX9_parseInteger_110 : decode cX9_parseInteger 110 = .ok (.aload_n 0, 1) := by decide +kernel
theorem dX9_parseInteger_111 : decode cX9_parseInteger 111 = .ok (.aload_n 0, 1) := by decide +kernel
theorem dX9_parseInteger_112 : decode cX9_parseInteger 112 = .ok (.getfield 19, 3) := by decide +kernel
theorem dX9_parseInteger_115 : decode cX9_parseInteger 115 = .ok (.iconst 1, 1) := by decide +kernel
theorem dX9_parseInteger_116 : decode cX9_parseInteger 116 = .ok (.iadd, 1) := by decide +kernel
theorem dX9_parseInteger_117 : decode cX9_parseInteger 117 = .ok (.invokevirtual 36, 3) := by decide +kernel
theorem dX9_parseInteger_120 : decode cX9_parseInteger 120 = .ok (.iconst 1, 1) := by decide +kernel
theorem dX9_parseInteger_121 : decode cX9_parseInteger 121 = .ok (.ireturn, 1) := by decide +kernel
theorem vc_X9_parseInteger_0 {G : zG} {d : Nat} {Q : Option zV → zHp → Prop} (p1 : Nat) (hT_p1 : zT 369 p1 = (105, 13)) (h : zHp) (hS : zSh h) (hd : 2 ≤ d)  
    (hv : (((gI h 211 3) ≠ 105 → (∀ h2 : zHp, h2 = sI h p1 0 0 → ((-2147483648 ≤ (gI h2 211 2) + 1 ∧ (gI h2 211 2) + 1 ≤ 2147483647) ∧ (wpN G (d - 1) M_X9_moveTo 0 (zar 0 [vR 211, vI ((gI h2 211 2) + 1)]) [] h2 (qV (fun h5 => zSh h5 ∧ (((gI h5 211 3) = 49 → ((-2147483648 ≤ (gI h5 211 3) - 48 ∧ (gI h5 211 3) - 48 ≤ 2147483647) ∧ (∀ h9 : zHp, h9 = sI h5 p1 2 ((gI h5 211 3) - 48) → ((-2147483648 ≤ (gI h9 211 2) + 1 ∧ (gI h9 211 2) + 1 ≤ 2147483647) ∧ (wpN G (d - 1) M_X9_moveTo 0 (zar 0 [vR 211, vI ((gI h9 211 2) + 1)]) [] h9 (qV (fun h12 => zSh h12 ∧ (((gI h12 211 3) ≠ 60 → (∀ h16 : zHp, h16 = sI h12 p1 3 0 → (((gI h16 p1 3) = 0 → Q (some (vI 1)) h16) ∧ ((gI h16 p1 3) ≠ 0 → ((-2147483648 ≤ (gI h16 211 2) + 1 ∧ (gI h16 211 2) + 1 ≤ 2147483647) ∧ (wpN G (d - 1) M_X9_moveTo 0 (zar 0 [vR 211, vI ((gI h16 211 2) + 1)]) [] h16 (qV (fun h20 => zSh h20 ∧ Q (some (vI 1)) h20)))))))) ∧ ((gI h12 211 3) = 60 → (∀ h23 : zHp, h23 = sI h12 p1 3 1 → (((gI h23 p1 3) = 0 → Q (some (vI 1)) h23) ∧ ((gI h23 p1 3) ≠ 0 → ((-2147483648 ≤ (gI h23 211 2) + 1 ∧ (gI h23 211 2) + 1 ≤ 2147483647) ∧ (wpN G (d - 1) M_X9_moveTo 0 (zar 0 [vR 211, vI ((gI h23 211 2) + 1)]) [] h23 (qV (fun h27 => zSh h27 ∧ Q (some (vI 1)) h27)))))))))))))))) ∧ ((gI h5 211 3) ≠ 49 → (((gI h5 211 3) = 50 → ((-2147483648 ≤ (gI h5 211 3) - 48 ∧ (gI h5 211 3) - 48 ≤ 2147483647) ∧ (∀ h31 : zHp, h31 = sI h5 p1 2 ((gI h5 211 3) - 48) → ((-2147483648 ≤ (gI h31 211 2) + 1 ∧ (gI h31 211 2) + 1 ≤ 2147483647) ∧ (wpN G (d - 1) M_X9_moveTo 0 (zar 0 [vR 211, vI ((gI h31 211 2) + 1)]) [] h31 (qV (fun h34 => zSh h34 ∧ (((gI h34 211 3) ≠ 60 → (∀ h38 : zHp, h38 = sI h34 p1 3 0 → (((gI h38 p1 3) = 0 → Q (some (vI 1)) h38) ∧ ((gI h38 p1 3) ≠ 0 → ((-2147483648 ≤ (gI h38 211 2) + 1 ∧ (gI h38 211 2) + 1 ≤ 2147483647) ∧ (wpN G (d - 1) M_X9_moveTo 0 (zar 0 [vR 211, vI ((gI h38 211 2) + 1)]) [] h38 (qV (fun h42 => zSh h42 ∧ Q (some (vI 1)) h42)))))))) ∧ ((gI h34 211 3) = 60 → (∀ h45 : zHp, h45 = sI h34 p1 3 1 → (((gI h45 p1 3) = 0 → Q (some (vI 1)) h45) ∧ ((gI h45 p1 3) ≠ 0 → ((-2147483648 ≤ (gI h45 211 2) + 1 ∧ (gI h45 211 2) + 1 ≤ 2147483647) ∧ (wpN G (d - 1) M_X9_moveTo 0 (zar 0 [vR 211, vI ((gI h45 211 2) + 1)]) [] h45 (qV (fun h49 => zSh h49 ∧ Q (some (vI 1)) h49)))))))))))))))) ∧ ((gI h5 211 3) ≠ 50 → (((gI h5 211 3) = 52 → ((-2147483648 ≤ (gI h5 211 3) - 48 ∧ (gI h5 211 3) - 48 ≤ 2147483647) ∧ (∀ h53 : zHp, h53 = sI h5 p1 2 ((gI h5 211 3) - 48) → ((-2147483648 ≤ (gI h53 211 2) + 1 ∧ (gI h53 211 2) + 1 ≤ 2147483647) ∧ (wpN G (d - 1) M_X9_moveTo 0 (zar 0 [vR 211, vI ((gI h53 211 2) + 1)]) [] h53 (qV (fun h56 => zSh h56 ∧ (((gI h56 211 3) ≠ 60 → (∀ h60 : zHp, h60 = sI h56 p1 3 0 → (((gI h60 p1 3) = 0 → Q (some (vI 1)) h60) ∧ ((gI h60 p1 3) ≠ 0 → ((-2147483648 ≤ (gI h60 211 2) + 1 ∧ (gI h60 211 2) + 1 ≤ 2147483647) ∧ (wpN G (d - 1) M_X9_moveTo 0 (zar 0 [vR 211, vI ((gI h60 211 2) + 1)]) [] h60 (qV (fun h64 => zSh h64 ∧ Q (some (vI 1)) h64)))))))) ∧ ((gI h56 211 3) = 60 → (∀ h67 : zHp, h67 = sI h56 p1 3 1 → (((gI h67 p1 3) = 0 → Q (some (vI 1)) h67) ∧ ((gI h67 p1 3) ≠ 0 → ((-2147483648 ≤ (gI h67 211 2) + 1 ∧ (gI h67 211 2) + 1 ≤ 2147483647) ∧ (wpN G (d - 1) M_X9_moveTo 0 (zar 0 [vR 211, vI ((gI h67 211 2) + 1)]) [] h67 (qV (fun h71 => zSh h71 ∧ Q (some (vI 1)) h71)))))))))))))))) ∧ ((gI h5 211 3) ≠ 52 → (wpN G (d - 1) M_X9_refuse 0 (zar 0 [vR 211, vI (gI h5 211 2)]) [] h5 (qI (fun z74 h75 => zSh h75 ∧ ((z74 = 0 ∨ z74 = 1) ∧ Q (some (vI z74)) h75)))))))))))))))) ∧ ((gI h 211 3) = 105 → (∀ h78 : zHp, h78 = sI h p1 0 1 → ((-2147483648 ≤ (gI h78 211 2) + 1 ∧ (gI h78 211 2) + 1 ≤ 2147483647) ∧ (wpN G (d - 1) M_X9_moveTo 0 (zar 0 [vR 211, vI ((gI h78 211 2) + 1)]) [] h78 (qV (fun h81 => zSh h81 ∧ (((gI h81 211 3) = 49 → ((-2147483648 ≤ (gI h81 211 3) - 48 ∧ (gI h81 211 3) - 48 ≤ 2147483647) ∧ (∀ h85 : zHp, h85 = sI h81 p1 2 ((gI h81 211 3) - 48) → ((-2147483648 ≤ (gI h85 211 2) + 1 ∧ (gI h85 211 2) + 1 ≤ 2147483647) ∧ (wpN G (d - 1) M_X9_moveTo 0 (zar 0 [vR 211, vI ((gI h85 211 2) + 1)]) [] h85 (qV (fun h88 => zSh h88 ∧ (((gI h88 211 3) ≠ 60 → (∀ h92 : zHp, h92 = sI h88 p1 3 0 → (((gI h92 p1 3) = 0 → Q (some (vI 1)) h92) ∧ ((gI h92 p1 3) ≠ 0 → ((-2147483648 ≤ (gI h92 211 2) + 1 ∧ (gI h92 211 2) + 1 ≤ 2147483647) ∧ (wpN G (d - 1) M_X9_moveTo 0 (zar 0 [vR 211, vI ((gI h92 211 2) + 1)]) [] h92 (qV (fun h96 => zSh h96 ∧ Q (some (vI 1)) h96)))))))) ∧ ((gI h88 211 3) = 60 → (∀ h99 : zHp, h99 = sI h88 p1 3 1 → (((gI h99 p1 3) = 0 → Q (some (vI 1)) h99) ∧ ((gI h99 p1 3) ≠ 0 → ((-2147483648 ≤ (gI h99 211 2) + 1 ∧ (gI h99 211 2) + 1 ≤ 2147483647) ∧ (wpN G (d - 1) M_X9_moveTo 0 (zar 0 [vR 211, vI ((gI h99 211 2) + 1)]) [] h99 (qV (fun h103 => zSh h103 ∧ Q (some (vI 1)) h103)))))))))))))))) ∧ ((gI h81 211 3) ≠ 49 → (((gI h81 211 3) = 50 → ((-2147483648 ≤ (gI h81 211 3) - 48 ∧ (gI h81 211 3) - 48 ≤ 2147483647) ∧ (∀ h107 : zHp, h107 = sI h81 p1 2 ((gI h81 211 3) - 48) → ((-2147483648 ≤ (gI h107 211 2) + 1 ∧ (gI h107 211 2) + 1 ≤ 2147483647) ∧ (wpN G (d - 1) M_X9_moveTo 0 (zar 0 [vR 211, vI ((gI h107 211 2) + 1)]) [] h107 (qV (fun h110 => zSh h110 ∧ (((gI h110 211 3) ≠ 60 → (∀ h114 : zHp, h114 = sI h110 p1 3 0 → (((gI h114 p1 3) = 0 → Q (some (vI 1)) h114) ∧ ((gI h114 p1 3) ≠ 0 → ((-2147483648 ≤ (gI h114 211 2) + 1 ∧ (gI h114 211 2) + 1 ≤ 2147483647) ∧ (wpN G (d - 1) M_X9_moveTo 0 (zar 0 [vR 211, vI ((gI h114 211 2) + 1)]) [] h114 (qV (fun h118 => zSh h118 ∧ Q (some (vI 1)) h118)))))))) ∧ ((gI h110 211 3) = 60 → (∀ h121 : zHp, h121 = sI h110 p1 3 1 → (((gI h121 p1 3) = 0 → Q (some (vI 1)) h121) ∧ ((gI h121 p1 3) ≠ 0 → ((-2147483648 ≤ (gI h121 211 2) + 1 ∧ (gI h121 211 2) + 1 ≤ 2147483647) ∧ (wpN G (d - 1) M_X9_moveTo 0 (zar 0 [vR 211, vI ((gI h121 211 2) + 1)]) [] h121 (qV (fun h125 => zSh h125 ∧ Q (some (vI 1)) h125)))))))))))))))) ∧ ((gI h81 211 3) ≠ 50 → (((gI h81 211 3) = 52 → ((-2147483648 ≤ (gI h81 211 3) - 48 ∧ (gI h81 211 3) - 48 ≤ 2147483647) ∧ (∀ h129 : zHp, h129 = sI h81 p1 2 ((gI h81 211 3) - 48) → ((-2147483648 ≤ (gI h129 211 2) + 1 ∧ (gI h129 211 2) + 1 ≤ 2147483647) ∧ (wpN G (d - 1) M_X9_moveTo 0 (zar 0 [vR 211, vI ((gI h129 211 2) + 1)]) [] h129 (qV (fun h132 => zSh h132 ∧ (((gI h132 211 3) ≠ 60 → (∀ h136 : zHp, h136 = sI h132 p1 3 0 → (((gI h136 p1 3) = 0 → Q (some (vI 1)) h136) ∧ ((gI h136 p1 3) ≠ 0 → ((-2147483648 ≤ (gI h136 211 2) + 1 ∧ (gI h136 211 2) + 1 ≤ 2147483647) ∧ (wpN G (d - 1) M_X9_moveTo 0 (zar 0 [vR 211, vI ((gI h136 211 2) + 1)]) [] h136 (qV (fun h140 => zSh h140 ∧ Q (some (vI 1)) h140)))))))) ∧ ((gI h132 211 3) = 60 → (∀ h143 : zHp, h143 = sI h132 p1 3 1 → (((gI h143 p1 3) = 0 → Q (some (vI 1)) h143) ∧ ((gI h143 p1 3) ≠ 0 → ((-2147483648 ≤ (gI h143 211 2) + 1 ∧ (gI h143 211 2) + 1 ≤ 2147483647) ∧ (wpN G (d - 1) M_X9_moveTo 0 (zar 0 [vR 211, vI ((gI h143 211 2) + 1)]) [] h143 (qV (fun h147 => zSh h147 ∧ Q (some (vI 1)) h147)))))))))))))))) ∧ ((gI h81 211 3) ≠ 52 → (wpN G (d - 1) M_X9_refuse 0 (zar 0 [vR 211, vI (gI h81 211 2)]) [] h81 (qI (fun z150 h151 => zSh h151 ∧ ((z150 = 0 ∨ z150 = 1) ∧ Q (some (vI z150)) h151)))))))))))))))))) : wpN G d M_X9_parseInteger 0 [(0, vR 211), (1, vR p1)] [] h Q := by
  refine wq_aload_n 1 rfl rfl dX9_parseInteger_0 ?_
  refine wq_aload_n 0 rfl rfl dX9_parseInteger_1 ?_
  refine wq_getI fk_X9_25 tT_211 (fun _ _ _ => rfl) dX9_parseInteger_2 ?_
  refine wq_bipush (z := 105) (zlit rfl) rfl dX9_parseInteger_5 ?_
  refine wq_icmp_ne 14 rfl dX9_parseInteger_7 (fun c1 => ?_) (fun c1 => ?_)
  · refine wq_iconst (z := 0) (zlit rfl) dX9_parseInteger_14 ?_
    refine wq_putI fk_X9_106 hT_p1 rfl rfl dX9_parseInteger_15 ?_
    refine wq_toph (fun h2 e3 => ?_)
    have sh2 : zSh h2 := zSh_of e3 hS
    refine wq_aload_n 0 rfl rfl dX9_parseInteger_18 ?_
    refine wq_aload_n 0 rfl rfl dX9_parseInteger_19 ?_
    refine wq_getI fk_X9_19 tT_211 (fun _ _ _ => rfl) dX9_parseInteger_20 ?_
    refine wq_iconst (z := 1) (zlit rfl) dX9_parseInteger_23 ?_
    refine wq_iadd ((hv.1 c1) h2 e3).1 dX9_parseInteger_24 ?_
    refine wN_V (As := [vI ((gI h2 211 2) + 1)]) vm_X9_moveTo lk_X9_36 tT_211 rfl rfl (Nat.le_of_ble_eq_true rfl) (Nat.le_of_ble_eq_true rfl) (d' := d - 1) (by omega) dX9_parseInteger_25 ((hv.1 c1) h2 e3).2 (fun v9 h5 q6 => ?_)
    obtain ⟨rfl, hS7, q6⟩ := q6
    refine wq_st (st' := []) rfl ?_
    refine wq_aload_n 0 rfl rfl dX9_parseInteger_28 ?_
    refine wq_getI fk_X9_25 tT_211 (fun _ _ _ => rfl) dX9_parseInteger_29 ?_
    refine wq_bipush (z := 49) (zlit rfl) rfl dX9_parseInteger_32 ?_
    refine wq_icmp_eq 64 rfl dX9_parseInteger_34 (fun c8 => ?_) (fun c8 => ?_)
    · refine wq_aload_n 1 rfl rfl dX9_parseInteger_64 ?_
      refine wq_aload_n 0 rfl rfl dX9_parseInteger_65 ?_
      refine wq_getI fk_X9_25 tT_211 (fun _ _ _ => rfl) dX9_parseInteger_66 ?_
      refine wq_bipush (z := 48) (zlit rfl) rfl dX9_parseInteger_69 ?_
      refine wq_isub (q6.1 c8).1 dX9_parseInteger_71 ?_
      refine wq_putI fk_X9_134 hT_p1 rfl rfl dX9_parseInteger_72 ?_
      refine wq_toph (fun h9 e10 => ?_)
      have sh9 : zSh h9 := zSh_of e10 hS7
      refine wq_aload_n 0 rfl rfl dX9_parseInteger_75 ?_
      refine wq_aload_n 0 rfl rfl dX9_parseInteger_76 ?_
      refine wq_getI fk_X9_19 tT_211 (fun _ _ _ => rfl) dX9_parseInteger_77 ?_
      refine wq_iconst (z := 1) (zlit rfl) dX9_parseInteger_80 ?_
      refine wq_iadd ((q6.1 c8).2 h9 e10).1 dX9_parseInteger_81 ?_
      refine wN_V (As := [vI ((gI h9 211 2) + 1)]) vm_X9_moveTo lk_X9_36 tT_211 rfl rfl (Nat.le_of_ble_eq_true rfl) (Nat.le_of_ble_eq_true rfl) (d' := d - 1) (by omega) dX9_parseInteger_82 ((q6.1 c8).2 h9 e10).2 (fun v9 h12 q13 => ?_)
      obtain ⟨rfl, hS14, q13⟩ := q13
      refine wq_st (st' := []) rfl ?_
      refine wq_aload_n 1 rfl rfl dX9_parseInteger_85 ?_
      refine wq_aload_n 0 rfl rfl dX9_parseInteger_86 ?_
      refine wq_getI fk_X9_25 tT_211 (fun _ _ _ => rfl) dX9_parseInteger_87 ?_
      refine wq_bipush (z := 60) (zlit rfl) rfl dX9_parseInteger_90 ?_
      refine wq_icmp_ne 99 rfl dX9_parseInteger_92 (fun c15 => ?_) (fun c15 => ?_)
      · refine wq_iconst (z := 0) (zlit rfl) dX9_parseInteger_99 ?_
        refine wq_putZ (Or.inl rfl) fk_X9_135 hT_p1 rfl rfl dX9_parseInteger_100 ?_
        refine wq_toph (fun h16 e17 => ?_)
        have sh16 : zSh h16 := zSh_of e17 hS14
        refine wq_aload_n 1 rfl rfl dX9_parseInteger_103 ?_
        refine wq_getI fk_X9_135 hT_p1 (fun _ _ _ => rfl) dX9_parseInteger_104 ?_
        refine wq_if_eq 120 rfl dX9_parseInteger_107 (fun c18 => ?_) (fun c18 => ?_)
        · refine wq_iconst (z := 1) (zlit rfl) dX9_parseInteger_120 ?_
          exact wp_zret (Or.inr rfl) rfl dX9_parseInteger_121 (((q13.1 c15) h16 e17).1 c18)
        · refine wq_aload_n 0 rfl rfl dX9_parseInteger_110 ?_
          refine wq_aload_n 0 rfl rfl dX9_parseInteger_111 ?_
          refine wq_getI fk_X9_19 tT_211 (fun _ _ _ => rfl) dX9_parseInteger_112 ?_
          refine wq_iconst (z := 1) (zlit rfl) dX9_parseInteger_115 ?_
          refine wq_iadd (((q13.1 c15) h16 e17).2 c18).1 dX9_parseInteger_116 ?_
          refine wN_V (As := [vI ((gI h16 211 2) + 1)]) vm_X9_moveTo lk_X9_36 tT_211 rfl rfl (Nat.le_of_ble_eq_true rfl) (Nat.le_of_ble_eq_true rfl) (d' := d - 1) (by omega) dX9_parseInteger_117 (((q13.1 c15) h16 e17).2 c18).2 (fun v9 h20 q21 => ?_)
          obtain ⟨rfl, hS22, q21⟩ := q21
          refine wq_st (st' := []) rfl ?_
          refine wq_iconst (z := 1) (zlit rfl) dX9_parseInteger_120 ?_
          exact wp_zret (Or.inr rfl) rfl dX9_parseInteger_121 q21
      · refine wq_iconst (z := 1) (zlit rfl) dX9_parseInteger_95 ?_
        refine wq_goto 100 rfl dX9_parseInteger_96 ?_
        refine wq_putZ (Or.inr rfl) fk_X9_135 hT_p1 rfl rfl dX9_parseInteger_100 ?_
        refine wq_toph (fun h23 e24 => ?_)
        have sh23 : zSh h23 := zSh_of e24 hS14
        refine wq_aload_n 1 rfl rfl dX9_parseInteger_103 ?_
        refine wq_getI fk_X9_135 hT_p1 (fun _ _ _ => rfl) dX9_parseInteger_104 ?_
        refine wq_if_eq 120 rfl dX9_parseInteger_107 (fun c25 => ?_) (fun c25 => ?_)
        · refine wq_iconst (z := 1) (zlit rfl) dX9_parseInteger_120 ?_
          exact wp_zret (Or.inr rfl) rfl dX9_parseInteger_121 (((q13.2 c15) h23 e24).1 c25)
        · refine wq_aload_n 0 rfl rfl dX9_parseInteger_110 ?_
          refine wq_aload_n 0 rfl rfl dX9_parseInteger_111 ?_
          refine wq_getI fk_X9_19 tT_211 (fun _ _ _ => rfl) dX9_parseInteger_112 ?_
          refine wq_iconst (z := 1) (zlit rfl) dX9_parseInteger_115 ?_
          refine wq_iadd (((q13.2 c15) h23 e24).2 c25).1 dX9_parseInteger_116 ?_
          refine wN_V (As := [vI ((gI h23 211 2) + 1)]) vm_X9_moveTo lk_X9_36 tT_211 rfl rfl (Nat.le_of_ble_eq_true rfl) (Nat.le_of_ble_eq_true rfl) (d' := d - 1) (by omega) dX9_parseInteger_117 (((q13.2 c15) h23 e24).2 c25).2 (fun v9 h27 q28 => ?_)
          obtain ⟨rfl, hS29, q28⟩ := q28
          refine wq_st (st' := []) rfl ?_
          refine wq_iconst (z := 1) (zlit rfl) dX9_parseInteger_120 ?_
          exact wp_zret (Or.inr rfl) rfl dX9_parseInteger_121 q28
    · refine wq_aload_n 0 rfl rfl dX9_parseInteger_37 ?_
      refine wq_getI fk_X9_25 tT_211 (fun _ _ _ => rfl) dX9_parseInteger_38 ?_
      refine wq_bipush (z := 50) (zlit rfl) rfl dX9_parseInteger_41 ?_
      refine wq_icmp_eq 64 rfl dX9_parseInteger_43 (fun c30 => ?_) (fun c30 => ?_)
      · refine wq_aload_n 1 rfl rfl dX9_parseInteger_64 ?_
        refine wq_aload_n 0 rfl rfl dX9_parseInteger_65 ?_
        refine wq_getI fk_X9_25 tT_211 (fun _ _ _ => rfl) dX9_parseInteger_66 ?_
        refine wq_bipush (z := 48) (zlit rfl) rfl dX9_parseInteger_69 ?_
        refine wq_isub ((q6.2 c8).1 c30).1 dX9_parseInteger_71 ?_
        refine wq_putI fk_X9_134 hT_p1 rfl rfl dX9_parseInteger_72 ?_
        refine wq_toph (fun h31 e32 => ?_)
        have sh31 : zSh h31 := zSh_of e32 hS7
        refine wq_aload_n 0 rfl rfl dX9_parseInteger_75 ?_
        refine wq_aload_n 0 rfl rfl dX9_parseInteger_76 ?_
        refine wq_getI fk_X9_19 tT_211 (fun _ _ _ => rfl) dX9_parseInteger_77 ?_
        refine wq_iconst (z := 1) (zlit rfl) dX9_parseInteger_80 ?_
        refine wq_iadd (((q6.2 c8).1 c30).2 h31 e32).1 dX9_parseInteger_81 ?_
        refine wN_V (As := [vI ((gI h31 211 2) + 1)]) vm_X9_moveTo lk_X9_36 tT_211 rfl rfl (Nat.le_of_ble_eq_true rfl) (Nat.le_of_ble_eq_true rfl) (d' := d - 1) (by omega) dX9_parseInteger_82 (((q6.2 c8).1 c30).2 h31 e32).2 (fun v9 h34 q35 => ?_)
        obtain ⟨rfl, hS36, q35⟩ := q35
        refine wq_st (st' := []) rfl ?_
        refine wq_aload_n 1 rfl rfl dX9_parseInteger_85 ?_
        refine wq_aload_n 0 rfl rfl dX9_parseInteger_86 ?_
        refine wq_getI fk_X9_25 tT_211 (fun _ _ _ => rfl) dX9_parseInteger_87 ?_
        refine wq_bipush (z := 60) (zlit rfl) rfl dX9_parseInteger_90 ?_
        refine wq_icmp_ne 99 rfl dX9_parseInteger_92 (fun c37 => ?_) (fun c37 => ?_)
        · refine wq_iconst (z := 0) (zlit rfl) dX9_parseInteger_99 ?_
          refine wq_putZ (Or.inl rfl) fk_X9_135 hT_p1 rfl rfl dX9_parseInteger_100 ?_
          refine wq_toph (fun h38 e39 => ?_)
          have sh38 : zSh h38 := zSh_of e39 hS36
          refine wq_aload_n 1 rfl rfl dX9_parseInteger_103 ?_
          refine wq_getI fk_X9_135 hT_p1 (fun _ _ _ => rfl) dX9_parseInteger_104 ?_
          refine wq_if_eq 120 rfl dX9_parseInteger_107 (fun c40 => ?_) (fun c40 => ?_)
          · refine wq_iconst (z := 1) (zlit rfl) dX9_parseInteger_120 ?_
            exact wp_zret (Or.inr rfl) rfl dX9_parseInteger_121 (((q35.1 c37) h38 e39).1 c40)
          · refine wq_aload_n 0 rfl rfl dX9_parseInteger_110 ?_
            refine wq_aload_n 0 rfl rfl dX9_parseInteger_111 ?_
            refine wq_getI fk_X9_19 tT_211 (fun _ _ _ => rfl) dX9_parseInteger_112 ?_
            refine wq_iconst (z := 1) (zlit rfl) dX9_parseInteger_115 ?_
            refine wq_iadd (((q35.1 c37) h38 e39).2 c40).1 dX9_parseInteger_116 ?_
            refine wN_V (As := [vI ((gI h38 211 2) + 1)]) vm_X9_moveTo lk_X9_36 tT_211 rfl rfl (Nat.le_of_ble_eq_true rfl) (Nat.le_of_ble_eq_true rfl) (d' := d - 1) (by omega) dX9_parseInteger_117 (((q35.1 c37) h38 e39).2 c40).2 (fun v9 h42 q43 => ?_)
            obtain ⟨rfl, hS44, q43⟩ := q43
            refine wq_st (st' := []) rfl ?_
            refine wq_iconst (z := 1) (zlit rfl) dX9_parseInteger_120 ?_
            exact wp_zret (Or.inr rfl) rfl dX9_parseInteger_121 q43
        · refine wq_iconst (z := 1) (zlit rfl) dX9_parseInteger_95 ?_
          refine wq_goto 100 rfl dX9_parseInteger_96 ?_
          refine wq_putZ (Or.inr rfl) fk_X9_135 hT_p1 rfl rfl dX9_parseInteger_100 ?_
          refine wq_toph (fun h45 e46 => ?_)
          have sh45 : zSh h45 := zSh_of e46 hS36
          refine wq_aload_n 1 rfl rfl dX9_parseInteger_103 ?_
          refine wq_getI fk_X9_135 hT_p1 (fun _ _ _ => rfl) dX9_parseInteger_104 ?_
          refine wq_if_eq 120 rfl dX9_parseInteger_107 (fun c47 => ?_) (fun c47 => ?_)
          · refine wq_iconst (z := 1) (zlit rfl) dX9_parseInteger_120 ?_
            exact wp_zret (Or.inr rfl) rfl dX9_parseInteger_121 (((q35.2 c37) h45 e46).1 c47)
          · refine wq_aload_n 0 rfl rfl dX9_parseInteger_110 ?_
            refine wq_aload_n 0 rfl rfl dX9_parseInteger_111 ?_
            refine wq_getI fk_X9_19 tT_211 (fun _ _ _ => rfl) dX9_parseInteger_112 ?_
            refine wq_iconst (z := 1) (zlit rfl) dX9_parseInteger_115 ?_
            refine wq_iadd (((q35.2 c37) h45 e46).2 c47).1 dX9_parseInteger_116 ?_
            refine wN_V (As := [vI ((gI h45 211 2) + 1)]) vm_X9_moveTo lk_X9_36 tT_211 rfl rfl (Nat.le_of_ble_eq_true rfl) (Nat.le_of_ble_eq_true rfl) (d' := d - 1) (by omega) dX9_parseInteger_117 (((q35.2 c37) h45 e46).2 c47).2 (fun v9 h49 q50 => ?_)
            obtain ⟨rfl, hS51, q50⟩ := q50
            refine wq_st (st' := []) rfl ?_
            refine wq_iconst (z := 1) (zlit rfl) dX9_parseInteger_120 ?_
            exact wp_zret (Or.inr rfl) rfl dX9_parseInteger_121 q50
      · refine wq_aload_n 0 rfl rfl dX9_parseInteger_46 ?_
        refine wq_getI fk_X9_25 tT_211 (fun _ _ _ => rfl) dX9_parseInteger_47 ?_
        refine wq_bipush (z := 52) (zlit rfl) rfl dX9_parseInteger_50 ?_
        refine wq_icmp_eq 64 rfl dX9_parseInteger_52 (fun c52 => ?_) (fun c52 => ?_)
        · refine wq_aload_n 1 rfl rfl dX9_parseInteger_64 ?_
          refine wq_aload_n 0 rfl rfl dX9_parseInteger_65 ?_
          refine wq_getI fk_X9_25 tT_211 (fun _ _ _ => rfl) dX9_parseInteger_66 ?_
          refine wq_bipush (z := 48) (zlit rfl) rfl dX9_parseInteger_69 ?_
          refine wq_isub (((q6.2 c8).2 c30).1 c52).1 dX9_parseInteger_71 ?_
          refine wq_putI fk_X9_134 hT_p1 rfl rfl dX9_parseInteger_72 ?_
          refine wq_toph (fun h53 e54 => ?_)
          have sh53 : zSh h53 := zSh_of e54 hS7
          refine wq_aload_n 0 rfl rfl dX9_parseInteger_75 ?_
          refine wq_aload_n 0 rfl rfl dX9_parseInteger_76 ?_
          refine wq_getI fk_X9_19 tT_211 (fun _ _ _ => rfl) dX9_parseInteger_77 ?_
          refine wq_iconst (z := 1) (zlit rfl) dX9_parseInteger_80 ?_
          refine wq_iadd ((((q6.2 c8).2 c30).1 c52).2 h53 e54).1 dX9_parseInteger_81 ?_
          refine wN_V (As := [vI ((gI h53 211 2) + 1)]) vm_X9_moveTo lk_X9_36 tT_211 rfl rfl (Nat.le_of_ble_eq_true rfl) (Nat.le_of_ble_eq_true rfl) (d' := d - 1) (by omega) dX9_parseInteger_82 ((((q6.2 c8).2 c30).1 c52).2 h53 e54).2 (fun v9 h56 q57 => ?_)
          obtain ⟨rfl, hS58, q57⟩ := q57
          refine wq_st (st' := []) rfl ?_
          refine wq_aload_n 1 rfl rfl dX9_parseInteger_85 ?_
          refine wq_aload_n 0 rfl rfl dX9_parseInteger_86 ?_
          refine wq_getI fk_X9_25 tT_211 (fun _ _ _ => rfl) dX9_parseInteger_87 ?_
          refine wq_bipush (z := 60) (zlit rfl) rfl dX9_parseInteger_90 ?_
          refine wq_icmp_ne 99 rfl dX9_parseInteger_92 (fun c59 => ?_) (fun c59 => ?_)
          · refine wq_iconst (z := 0) (zlit rfl) dX9_parseInteger_99 ?_
            refine wq_putZ (Or.inl rfl) fk_X9_135 hT_p1 rfl rfl dX9_parseInteger_100 ?_
            refine wq_toph (fun h60 e61 => ?_)
            have sh60 : zSh h60 := zSh_of e61 hS58
            refine wq_aload_n 1 rfl rfl dX9_parseInteger_103 ?_
            refine wq_getI fk_X9_135 hT_p1 (fun _ _ _ => rfl) dX9_parseInteger_104 ?_
            refine wq_if_eq 120 rfl dX9_parseInteger_107 (fun c62 => ?_) (fun c62 => ?_)
            · refine wq_iconst (z := 1) (zlit rfl) dX9_parseInteger_120 ?_
              exact wp_zret (Or.inr rfl) rfl dX9_parseInteger_121 (((q57.1 c59) h60 e61).1 c62)
            · refine wq_aload_n 0 rfl rfl dX9_parseInteger_110 ?_
              refine wq_aload_n 0 rfl rfl dX9_parseInteger_111 ?_
              refine wq_getI fk_X9_19 tT_211 (fun _ _ _ => rfl) dX9_parseInteger_112 ?_
              refine wq_iconst (z := 1) (zlit rfl) dX9_parseInteger_115 ?_
              refine wq_iadd (((q57.1 c59) h60 e61).2 c62).1 dX9_parseInteger_116 ?_
              refine wN_V (As := [vI ((gI h60 211 2) + 1)]) vm_X9_moveTo lk_X9_36 tT_211 rfl rfl (Nat.le_of_ble_eq_true rfl) (Nat.le_of_ble_eq_true rfl) (d' := d - 1) (by omega) dX9_parseInteger_117 (((q57.1 c59) h60 e61).2 c62).2 (fun v9 h64 q65 => ?_)
              obtain ⟨rfl, hS66, q65⟩ := q65
              refine wq_st (st' := []) rfl ?_
              refine wq_iconst (z := 1) (zlit rfl) dX9_parseInteger_120 ?_
              exact wp_zret (Or.inr rfl) rfl dX9_parseInteger_121 q65
          · refine wq_iconst (z := 1) (zlit rfl) dX9_parseInteger_95 ?_
            refine wq_goto 100 rfl dX9_parseInteger_96 ?_
            refine wq_putZ (Or.inr rfl) fk_X9_135 hT_p1 rfl rfl dX9_parseInteger_100 ?_
            refine wq_toph (fun h67 e68 => ?_)
            have sh67 : zSh h67 := zSh_of e68 hS58
            refine wq_aload_n 1 rfl rfl dX9_parseInteger_103 ?_
            refine wq_getI fk_X9_135 hT_p1 (fun _ _ _ => rfl) dX9_parseInteger_104 ?_
            refine wq_if_eq 120 rfl dX9_parseInteger_107 (fun c69 => ?_) (fun c69 => ?_)
            · refine wq_iconst (z := 1) (zlit rfl) dX9_parseInteger_120 ?_
              exact wp_zret (Or.inr rfl) rfl dX9_parseInteger_121 (((q57.2 c59) h67 e68).1 c69)
            · refine wq_aload_n 0 rfl rfl dX9_parseInteger_110 ?_
              refine wq_aload_n 0 rfl rfl dX9_parseInteger_111 ?_
              refine wq_getI fk_X9_19 tT_211 (fun _ _ _ => rfl) dX9_parseInteger_112 ?_
              refine wq_iconst (z := 1) (zlit rfl) dX9_parseInteger_115 ?_
              refine wq_iadd (((q57.2 c59) h67 e68).2 c69).1 dX9_parseInteger_116 ?_
              refine wN_V (As := [vI ((gI h67 211 2) + 1)]) vm_X9_moveTo lk_X9_36 tT_211 rfl rfl (Nat.le_of_ble_eq_true rfl) (Nat.le_of_ble_eq_true rfl) (d' := d - 1) (by omega) dX9_parseInteger_117 (((q57.2 c59) h67 e68).2 c69).2 (fun v9 h71 q72 => ?_)
              obtain ⟨rfl, hS73, q72⟩ := q72
              refine wq_st (st' := []) rfl ?_
              refine wq_iconst (z := 1) (zlit rfl) dX9_parseInteger_120 ?_
              exact wp_zret (Or.inr rfl) rfl dX9_parseInteger_121 q72
        · refine wq_aload_n 0 rfl rfl dX9_parseInteger_55 ?_
          refine wq_aload_n 0 rfl rfl dX9_parseInteger_56 ?_
          refine wq_getI fk_X9_19 tT_211 (fun _ _ _ => rfl) dX9_parseInteger_57 ?_
          refine wN_V (As := [vI (gI h5 211 2)]) vm_X9_refuse lk_X9_59 tT_211 rfl rfl (Nat.le_of_ble_eq_true rfl) (Nat.le_of_ble_eq_true rfl) (d' := d - 1) (by omega) dX9_parseInteger_60 (((q6.2 c8).2 c30).2 c52) (fun v9 h75 q76 => ?_)
          obtain ⟨z74, rfl, hS77, q76⟩ := q76
          refine wq_st (st' := [vI z74]) rfl ?_
          exact wp_zret q76.1 rfl dX9_parseInteger_63 q76.2
  · refine wq_iconst (z := 1) (zlit rfl) dX9_parseInteger_10 ?_
    refine wq_goto 15 rfl dX9_parseInteger_11 ?_
    refine wq_putI fk_X9_106 hT_p1 rfl rfl dX9_parseInteger_15 ?_
    refine wq_toph (fun h78 e79 => ?_)
    have sh78 : zSh h78 := zSh_of e79 hS
    refine wq_aload_n 0 rfl rfl dX9_parseInteger_18 ?_
    refine wq_aload_n 0 rfl rfl dX9_parseInteger_19 ?_
    refine wq_getI fk_X9_19 tT_211 (fun _ _ _ => rfl) dX9_parseInteger_20 ?_
    refine wq_iconst (z := 1) (zlit rfl) dX9_parseInteger_23 ?_
    refine wq_iadd ((hv.2 c1) h78 e79).1 dX9_parseInteger_24 ?_
    refine wN_V (As := [vI ((gI h78 211 2) + 1)]) vm_X9_moveTo lk_X9_36 tT_211 rfl rfl (Nat.le_of_ble_eq_true rfl) (Nat.le_of_ble_eq_true rfl) (d' := d - 1) (by omega) dX9_parseInteger_25 ((hv.2 c1) h78 e79).2 (fun v9 h81 q82 => ?_)
    obtain ⟨rfl, hS83, q82⟩ := q82
    refine wq_st (st' := []) rfl ?_
    refine wq_aload_n 0 rfl rfl dX9_parseInteger_28 ?_
    refine wq_getI fk_X9_25 tT_211 (fun _ _ _ => rfl) dX9_parseInteger_29 ?_
    refine wq_bipush (z := 49) (zlit rfl) rfl dX9_parseInteger_32 ?_
    refine wq_icmp_eq 64 rfl dX9_parseInteger_34 (fun c84 => ?_) (fun c84 => ?_)
    · refine wq_aload_n 1 rfl rfl dX9_parseInteger_64 ?_
      refine wq_aload_n 0 rfl rfl dX9_parseInteger_65 ?_
      refine wq_getI fk_X9_25 tT_211 (fun _ _ _ => rfl) dX9_parseInteger_66 ?_
      refine wq_bipush (z := 48) (zlit rfl) rfl dX9_parseInteger_69 ?_
      refine wq_isub (q82.1 c84).1 dX9_parseInteger_71 ?_
      refine wq_putI fk_X9_134 hT_p1 rfl rfl dX9_parseInteger_72 ?_
      refine wq_toph (fun h85 e86 => ?_)
      have sh85 : zSh h85 := zSh_of e86 hS83
      refine wq_aload_n 0 rfl rfl dX9_parseInteger_75 ?_
      refine wq_aload_n 0 rfl rfl dX9_parseInteger_76 ?_
      refine wq_getI fk_X9_19 tT_211 (fun _ _ _ => rfl) dX9_parseInteger_77 ?_
      refine wq_iconst (z := 1) (zlit rfl) dX9_parseInteger_80 ?_
      refine wq_iadd ((q82.1 c84).2 h85 e86).1 dX9_parseInteger_81 ?_
      refine wN_V (As := [vI ((gI h85 211 2) + 1)]) vm_X9_moveTo lk_X9_36 tT_211 rfl rfl (Nat.le_of_ble_eq_true rfl) (Nat.le_of_ble_eq_true rfl) (d' := d - 1) (by omega) dX9_parseInteger_82 ((q82.1 c84).2 h85 e86).2 (fun v9 h88 q89 => ?_)
      obtain ⟨rfl, hS90, q89⟩ := q89
      refine wq_st (st' := []) rfl ?_
      refine wq_aload_n 1 rfl rfl dX9_parseInteger_85 ?_
      refine wq_aload_n 0 rfl rfl dX9_parseInteger_86 ?_
      refine wq_getI fk_X9_25 tT_211 (fun _ _ _ => rfl) dX9_parseInteger_87 ?_
      refine wq_bipush (z := 60) (zlit rfl) rfl dX9_parseInteger_90 ?_
      refine wq_icmp_ne 99 rfl dX9_parseInteger_92 (fun c91 => ?_) (fun c91 => ?_)
      · refine wq_iconst (z := 0) (zlit rfl) dX9_parseInteger_99 ?_
        refine wq_putZ (Or.inl rfl) fk_X9_135 hT_p1 rfl rfl dX9_parseInteger_100 ?_
        refine wq_toph (fun h92 e93 => ?_)
        have sh92 : zSh h92 := zSh_of e93 hS90
        refine wq_aload_n 1 rfl rfl dX9_parseInteger_103 ?_
        refine wq_getI fk_X9_135 hT_p1 (fun _ _ _ => rfl) dX9_parseInteger_104 ?_
        refine wq_if_eq 120 rfl dX9_parseInteger_107 (fun c94 => ?_) (fun c94 => ?_)
        · refine wq_iconst (z := 1) (zlit rfl) dX9_parseInteger_120 ?_
          exact wp_zret (Or.inr rfl) rfl dX9_parseInteger_121 (((q89.1 c91) h92 e93).1 c94)
        · refine wq_aload_n 0 rfl rfl dX9_parseInteger_110 ?_
          refine wq_aload_n 0 rfl rfl dX9_parseInteger_111 ?_
          refine wq_getI fk_X9_19 tT_211 (fun _ _ _ => rfl) dX9_parseInteger_112 ?_
          refine wq_iconst (z := 1) (zlit rfl) dX9_parseInteger_115 ?_
          refine wq_iadd (((q89.1 c91) h92 e93).2 c94).1 dX9_parseInteger_116 ?_
          refine wN_V (As := [vI ((gI h92 211 2) + 1)]) vm_X9_moveTo lk_X9_36 tT_211 rfl rfl (Nat.le_of_ble_eq_true rfl) (Nat.le_of_ble_eq_true rfl) (d' := d - 1) (by omega) dX9_parseInteger_117 (((q89.1 c91) h92 e93).2 c94).2 (fun v9 h96 q97 => ?_)
          obtain ⟨rfl, hS98, q97⟩ := q97
          refine wq_st (st' := []) rfl ?_
          refine wq_iconst (z := 1) (zlit rfl) dX9_parseInteger_120 ?_
          exact wp_zret (Or.inr rfl) rfl dX9_parseInteger_121 q97
      · refine wq_iconst (z := 1) (zlit rfl) dX9_parseInteger_95 ?_
        refine wq_goto 100 rfl dX9_parseInteger_96 ?_
        refine wq_putZ (Or.inr rfl) fk_X9_135 hT_p1 rfl rfl dX9_parseInteger_100 ?_
        refine wq_toph (fun h99 e100 => ?_)
        have sh99 : zSh h99 := zSh_of e100 hS90
        refine wq_aload_n 1 rfl rfl dX9_parseInteger_103 ?_
        refine wq_getI fk_X9_135 hT_p1 (fun _ _ _ => rfl) dX9_parseInteger_104 ?_
        refine wq_if_eq 120 rfl dX9_parseInteger_107 (fun c101 => ?_) (fun c101 => ?_)
        · refine wq_iconst (z := 1) (zlit rfl) dX9_parseInteger_120 ?_
          exact wp_zret (Or.inr rfl) rfl dX9_parseInteger_121 (((q89.2 c91) h99 e100).1 c101)
        · refine wq_aload_n 0 rfl rfl dX9_parseInteger_110 ?_
          refine wq_aload_n 0 rfl rfl dX9_parseInteger_111 ?_
          refine wq_getI fk_X9_19 tT_211 (fun _ _ _ => rfl) dX9_parseInteger_112 ?_
          refine wq_iconst (z := 1) (zlit rfl) dX9_parseInteger_115 ?_
          refine wq_iadd (((q89.2 c91) h99 e100).2 c101).1 dX9_parseInteger_116 ?_
          refine wN_V (As := [vI ((gI h99 211 2) + 1)]) vm_X9_moveTo lk_X9_36 tT_211 rfl rfl (Nat.le_of_ble_eq_true rfl) (Nat.le_of_ble_eq_true rfl) (d' := d - 1) (by omega) dX9_parseInteger_117 (((q89.2 c91) h99 e100).2 c101).2 (fun v9 h103 q104 => ?_)
          obtain ⟨rfl, hS105, q104⟩ := q104
          refine wq_st (st' := []) rfl ?_
          refine wq_iconst (z := 1) (zlit rfl) dX9_parseInteger_120 ?_
          exact wp_zret (Or.inr rfl) rfl dX9_parseInteger_121 q104
    · refine wq_aload_n 0 rfl rfl dX9_parseInteger_37 ?_
      refine wq_getI fk_X9_25 tT_211 (fun _ _ _ => rfl) dX9_parseInteger_38 ?_
      refine wq_bipush (z := 50) (zlit rfl) rfl dX9_parseInteger_41 ?_
      refine wq_icmp_eq 64 rfl dX9_parseInteger_43 (fun c106 => ?_) (fun c106 => ?_)
      · refine wq_aload_n 1 rfl rfl dX9_parseInteger_64 ?_
        refine wq_aload_n 0 rfl rfl dX9_parseInteger_65 ?_
        refine wq_getI fk_X9_25 tT_211 (fun _ _ _ => rfl) dX9_parseInteger_66 ?_
        refine wq_bipush (z := 48) (zlit rfl) rfl dX9_parseInteger_69 ?_
        refine wq_isub ((q82.2 c84).1 c106).1 dX9_parseInteger_71 ?_
        refine wq_putI fk_X9_134 hT_p1 rfl rfl dX9_parseInteger_72 ?_
        refine wq_toph (fun h107 e108 => ?_)
        have sh107 : zSh h107 := zSh_of e108 hS83
        refine wq_aload_n 0 rfl rfl dX9_parseInteger_75 ?_
        refine wq_aload_n 0 rfl rfl dX9_parseInteger_76 ?_
        refine wq_getI fk_X9_19 tT_211 (fun _ _ _ => rfl) dX9_parseInteger_77 ?_
        refine wq_iconst (z := 1) (zlit rfl) dX9_parseInteger_80 ?_
        refine wq_iadd (((q82.2 c84).1 c106).2 h107 e108).1 dX9_parseInteger_81 ?_
        refine wN_V (As := [vI ((gI h107 211 2) + 1)]) vm_X9_moveTo lk_X9_36 tT_211 rfl rfl (Nat.le_of_ble_eq_true rfl) (Nat.le_of_ble_eq_true rfl) (d' := d - 1) (by omega) dX9_parseInteger_82 (((q82.2 c84).1 c106).2 h107 e108).2 (fun v9 h110 q111 => ?_)
        obtain ⟨rfl, hS112, q111⟩ := q111
        refine wq_st (st' := []) rfl ?_
        refine wq_aload_n 1 rfl rfl dX9_parseInteger_85 ?_
        refine wq_aload_n 0 rfl rfl dX9_parseInteger_86 ?_
        refine wq_getI fk_X9_25 tT_211 (fun _ _ _ => rfl) dX9_parseInteger_87 ?_
        refine wq_bipush (z := 60) (zlit rfl) rfl dX9_parseInteger_90 ?_
        refine wq_icmp_ne 99 rfl dX9_parseInteger_92 (fun c113 => ?_) (fun c113 => ?_)
        · refine wq_iconst (z := 0) (zlit rfl) dX9_parseInteger_99 ?_
          refine wq_putZ (Or.inl rfl) fk_X9_135 hT_p1 rfl rfl dX9_parseInteger_100 ?_
          refine wq_toph (fun h114 e115 => ?_)
          have sh114 : zSh h114 := zSh_of e115 hS112
          refine wq_aload_n 1 rfl rfl dX9_parseInteger_103 ?_
          refine wq_getI fk_X9_135 hT_p1 (fun _ _ _ => rfl) dX9_parseInteger_104 ?_
          refine wq_if_eq 120 rfl dX9_parseInteger_107 (fun c116 => ?_) (fun c116 => ?_)
          · refine wq_iconst (z := 1) (zlit rfl) dX9_parseInteger_120 ?_
            exact wp_zret (Or.inr rfl) rfl dX9_parseInteger_121 (((q111.1 c113) h114 e115).1 c116)
          · refine wq_aload_n 0 rfl rfl dX9_parseInteger_110 ?_
            refine wq_aload_n 0 rfl rfl dX9_parseInteger_111 ?_
            refine wq_getI fk_X9_19 tT_211 (fun _ _ _ => rfl) dX9_parseInteger_112 ?_
            refine wq_iconst (z := 1) (zlit rfl) dX9_parseInteger_115 ?_
            refine wq_iadd (((q111.1 c113) h114 e115).2 c116).1 dX9_parseInteger_116 ?_
            refine wN_V (As := [vI ((gI h114 211 2) + 1)]) vm_X9_moveTo lk_X9_36 tT_211 rfl rfl (Nat.le_of_ble_eq_true rfl) (Nat.le_of_ble_eq_true rfl) (d' := d - 1) (by omega) dX9_parseInteger_117 (((q111.1 c113) h114 e115).2 c116).2 (fun v9 h118 q119 => ?_)
            obtain ⟨rfl, hS120, q119⟩ := q119
            refine wq_st (st' := []) rfl ?_
            refine wq_iconst (z := 1) (zlit rfl) dX9_parseInteger_120 ?_
            exact wp_zret (Or.inr rfl) rfl dX9_parseInteger_121 q119
        · refine wq_iconst (z := 1) (zlit rfl) dX9_parseInteger_95 ?_
          refine wq_goto 100 rfl dX9_parseInteger_96 ?_
          refine wq_putZ (Or.inr rfl) fk_X9_135 hT_p1 rfl rfl dX9_parseInteger_100 ?_
          refine wq_toph (fun h121 e122 => ?_)
          have sh121 : zSh h121 := zSh_of e122 hS112
          refine wq_aload_n 1 rfl rfl dX9_parseInteger_103 ?_
          refine wq_getI fk_X9_135 hT_p1 (fun _ _ _ => rfl) dX9_parseInteger_104 ?_
          refine wq_if_eq 120 rfl dX9_parseInteger_107 (fun c123 => ?_) (fun c123 => ?_)
          · refine wq_iconst (z := 1) (zlit rfl) dX9_parseInteger_120 ?_
            exact wp_zret (Or.inr rfl) rfl dX9_parseInteger_121 (((q111.2 c113) h121 e122).1 c123)
          · refine wq_aload_n 0 rfl rfl dX9_parseInteger_110 ?_
            refine wq_aload_n 0 rfl rfl dX9_parseInteger_111 ?_
            refine wq_getI fk_X9_19 tT_211 (fun _ _ _ => rfl) dX9_parseInteger_112 ?_
            refine wq_iconst (z := 1) (zlit rfl) dX9_parseInteger_115 ?_
            refine wq_iadd (((q111.2 c113) h121 e122).2 c123).1 dX9_parseInteger_116 ?_
            refine wN_V (As := [vI ((gI h121 211 2) + 1)]) vm_X9_moveTo lk_X9_36 tT_211 rfl rfl (Nat.le_of_ble_eq_true rfl) (Nat.le_of_ble_eq_true rfl) (d' := d - 1) (by omega) dX9_parseInteger_117 (((q111.2 c113) h121 e122).2 c123).2 (fun v9 h125 q126 => ?_)
            obtain ⟨rfl, hS127, q126⟩ := q126
            refine wq_st (st' := []) rfl ?_
            refine wq_iconst (z := 1) (zlit rfl) dX9_parseInteger_120 ?_
            exact wp_zret (Or.inr rfl) rfl dX9_parseInteger_121 q126
      · refine wq_aload_n 0 rfl rfl dX9_parseInteger_46 ?_
        refine wq_getI fk_X9_25 tT_211 (fun _ _ _ => rfl) dX9_parseInteger_47 ?_
        refine wq_bipush (z := 52) (zlit rfl) rfl dX9_parseInteger_50 ?_
        refine wq_icmp_eq 64 rfl dX9_parseInteger_52 (fun c128 => ?_) (fun c128 => ?_)
        · refine wq_aload_n 1 rfl rfl dX9_parseInteger_64 ?_
          refine wq_aload_n 0 rfl rfl dX9_parseInteger_65 ?_
          refine wq_getI fk_X9_25 tT_211 (fun _ _ _ => rfl) dX9_parseInteger_66 ?_
          refine wq_bipush (z := 48) (zlit rfl) rfl dX9_parseInteger_69 ?_
          refine wq_isub (((q82.2 c84).2 c106).1 c128).1 dX9_parseInteger_71 ?_
          refine wq_putI fk_X9_134 hT_p1 rfl rfl dX9_parseInteger_72 ?_
          refine wq_toph (fun h129 e130 => ?_)
          have sh129 : zSh h129 := zSh_of e130 hS83
          refine wq_aload_n 0 rfl rfl dX9_parseInteger_75 ?_
          refine wq_aload_n 0 rfl rfl dX9_parseInteger_76 ?_
          refine wq_getI fk_X9_19 tT_211 (fun _ _ _ => rfl) dX9_parseInteger_77 ?_
          refine wq_iconst (z := 1) (zlit rfl) dX9_parseInteger_80 ?_
          refine wq_iadd ((((q82.2 c84).2 c106).1 c128).2 h129 e130).1 dX9_parseInteger_81 ?_
          refine wN_V (As := [vI ((gI h129 211 2) + 1)]) vm_X9_moveTo lk_X9_36 tT_211 rfl rfl (Nat.le_of_ble_eq_true rfl) (Nat.le_of_ble_eq_true rfl) (d' := d - 1) (by omega) dX9_parseInteger_82 ((((q82.2 c84).2 c106).1 c128).2 h129 e130).2 (fun v9 h132 q133 => ?_)
          obtain ⟨rfl, hS134, q133⟩ := q133
          refine wq_st (st' := []) rfl ?_
          refine wq_aload_n 1 rfl rfl dX9_parseInteger_85 ?_
          refine wq_aload_n 0 rfl rfl dX9_parseInteger_86 ?_
          refine wq_getI fk_X9_25 tT_211 (fun _ _ _ => rfl) dX9_parseInteger_87 ?_
          refine wq_bipush (z := 60) (zlit rfl) rfl dX9_parseInteger_90 ?_
          refine wq_icmp_ne 99 rfl dX9_parseInteger_92 (fun c135 => ?_) (fun c135 => ?_)
          · refine wq_iconst (z := 0) (zlit rfl) dX9_parseInteger_99 ?_
            refine wq_putZ (Or.inl rfl) fk_X9_135 hT_p1 rfl rfl dX9_parseInteger_100 ?_
            refine wq_toph (fun h136 e137 => ?_)
            have sh136 : zSh h136 := zSh_of e137 hS134
            refine wq_aload_n 1 rfl rfl dX9_parseInteger_103 ?_
            refine wq_getI fk_X9_135 hT_p1 (fun _ _ _ => rfl) dX9_parseInteger_104 ?_
            refine wq_if_eq 120 rfl dX9_parseInteger_107 (fun c138 => ?_) (fun c138 => ?_)
            · refine wq_iconst (z := 1) (zlit rfl) dX9_parseInteger_120 ?_
              exact wp_zret (Or.inr rfl) rfl dX9_parseInteger_121 (((q133.1 c135) h136 e137).1 c138)
            · refine wq_aload_n 0 rfl rfl dX9_parseInteger_110 ?_
              refine wq_aload_n 0 rfl rfl dX9_parseInteger_111 ?_
              refine wq_getI fk_X9_19 tT_211 (fun _ _ _ => rfl) dX9_parseInteger_112 ?_
              refine wq_iconst (z := 1) (zlit rfl) dX9_parseInteger_115 ?_
              refine wq_iadd (((q133.1 c135) h136 e137).2 c138).1 dX9_parseInteger_116 ?_
              refine wN_V (As := [vI ((gI h136 211 2) + 1)]) vm_X9_moveTo lk_X9_36 tT_211 rfl rfl (Nat.le_of_ble_eq_true rfl) (Nat.le_of_ble_eq_true rfl) (d' := d - 1) (by omega) dX9_parseInteger_117 (((q133.1 c135) h136 e137).2 c138).2 (fun v9 h140 q141 => ?_)
              obtain ⟨rfl, hS142, q141⟩ := q141
              refine wq_st (st' := []) rfl ?_
              refine wq_iconst (z := 1) (zlit rfl) dX9_parseInteger_120 ?_
              exact wp_zret (Or.inr rfl) rfl dX9_parseInteger_121 q141
          · refine wq_iconst (z := 1) (zlit rfl) dX9_parseInteger_95 ?_
            refine wq_goto 100 rfl dX9_parseInteger_96 ?_
            refine wq_putZ (Or.inr rfl) fk_X9_135 hT_p1 rfl rfl dX9_parseInteger_100 ?_
            refine wq_toph (fun h143 e144 => ?_)
            have sh143 : zSh h143 := zSh_of e144 hS134
            refine wq_aload_n 1 rfl rfl dX9_parseInteger_103 ?_
            refine wq_getI fk_X9_135 hT_p1 (fun _ _ _ => rfl) dX9_parseInteger_104 ?_
            refine wq_if_eq 120 rfl dX9_parseInteger_107 (fun c145 => ?_) (fun c145 => ?_)
            · refine wq_iconst (z := 1) (zlit rfl) dX9_parseInteger_120 ?_
              exact wp_zret (Or.inr rfl) rfl dX9_parseInteger_121 (((q133.2 c135) h143 e144).1 c145)
            · refine wq_aload_n 0 rfl rfl dX9_parseInteger_110 ?_
              refine wq_aload_n 0 rfl rfl dX9_parseInteger_111 ?_
              refine wq_getI fk_X9_19 tT_211 (fun _ _ _ => rfl) dX9_parseInteger_112 ?_
              refine wq_iconst (z := 1) (zlit rfl) dX9_parseInteger_115 ?_
              refine wq_iadd (((q133.2 c135) h143 e144).2 c145).1 dX9_parseInteger_116 ?_
              refine wN_V (As := [vI ((gI h143 211 2) + 1)]) vm_X9_moveTo lk_X9_36 tT_211 rfl rfl (Nat.le_of_ble_eq_true rfl) (Nat.le_of_ble_eq_true rfl) (d' := d - 1) (by omega) dX9_parseInteger_117 (((q133.2 c135) h143 e144).2 c145).2 (fun v9 h147 q148 => ?_)
              obtain ⟨rfl, hS149, q148⟩ := q148
              refine wq_st (st' := []) rfl ?_
              refine wq_iconst (z := 1) (zlit rfl) dX9_parseInteger_120 ?_
              exact wp_zret (Or.inr rfl) rfl dX9_parseInteger_121 q148
        · refine wq_aload_n 0 rfl rfl dX9_parseInteger_55 ?_
          refine wq_aload_n 0 rfl rfl dX9_parseInteger_56 ?_
          refine wq_getI fk_X9_19 tT_211 (fun _ _ _ => rfl) dX9_parseInteger_57 ?_
          refine wN_V (As := [vI (gI h81 211 2)]) vm_X9_refuse lk_X9_59 tT_211 rfl rfl (Nat.le_of_ble_eq_true rfl) (Nat.le_of_ble_eq_true rfl) (d' := d - 1) (by omega) dX9_parseInteger_60 (((q82.2 c84).2 c106).2 c128) (fun v9 h151 q152 => ?_)
          obtain ⟨z150, rfl, hS153, q152⟩ := q152
          refine wq_st (st' := [vI z150]) rfl ?_
          exact wp_zret q152.1 rfl dX9_parseInteger_63 q152.2
theorem dX9_parseStructure_0 : decode cX9_parseStructure 0 = .ok (.iload_n 2, 1) := by decide +kernel
theorem dX9_parseStructure_1 : decode cX9_parseStructure 1 = .ok (.iconst 3, 1) := by decide +kernel
theorem dX9_parseStructure_2 : decode cX9_parseStructure 2 = .ok (.if_icmp .lt 12, 3) := by decide +kernel
theorem dX9_parseStructure_5 : decode cX9_parseStructure 5 = .ok (.aload_n 0, 1) := by decide +kernel
theorem dX9_parseStructure_6 : decode cX9_parseStructure 6 = .ok (.aload_n 0, 1) := by decide +kernel
theorem dX9_parseStructure_7 : decode cX9_parseStructure 7 = .ok (.getfield 19, 3) := by decide +kernel
theorem dX9_parseStructure_10 : decode cX9_parseStructure 10 = .ok (.invokevirtual 59, 3) := by decide +kernel
theorem dX9_parseStructure_13 : decode cX9_parseStructure 13 = .ok (.ireturn, 1) := by decide +kernel
theorem dX9_parseStructure_14 : decode cX9_parseStructure 14 = .ok (.aload_n 0, 1) := by decide +kernel
theorem dX9_parseStructure_15 : decode cX9_parseStructure 15 = .ok (.getfield 15, 3) := by decide +kernel
theorem dX9_parseStructure_18 : decode cX9_parseStructure 18 = .ok (.getfield 73, 3) := by decide +kernel
theorem dX9_parseStructure_21 : decode cX9_parseStructure 21 = .ok (.iload_n 1, 1) := by decide +kernel
theorem dX9_parseStructure_22 : decode cX9_parseStructure 22 = .ok (.aaload, 1) := by decide +kernel
theorem dX9_parseStructure_23 : decode cX9_parseStructure 23 = .ok (.iconst 5, 1) := by decide +kernel
theorem dX9_parseStructure_24 : decode cX9_parseStructure 24 = .ok (.putfield 106, 3) := by decide +kernel
theorem dX9_parseStructure_27 : decode cX9_parseStructure 27 = .ok (.aload_n 0, 1) := by decide +kernel
theorem dX9_parseStructure_28 : decode cX9_parseStructure 28 = .ok (.aload_n 0, 1) := by decide +kernel
theorem dX9_parseStructure_29 : decode cX9_parseStructure 29 = .ok (.getfield 19, 3) := by decide +kernel
theorem dX9_parseStructure_32 : decode cX9_parseStructure 32 = .ok (.iconst 1, 1) := by decide +kernel
theorem dX9_parseStructure_33 : decode cX9_parseStructure 33 = .ok (.iadd, 1) := by decide +kernel
theorem dX9_parseStructure_34 : decode cX9_parseStructure 34 = .ok (.invokevirtual 36, 3) := by decide +kernel
theorem dX9_parseStructure_37 : decode cX9_parseStructure 37 = .ok (.aload_n 0, 1) := by decide +kernel
theorem dX9_parseStructure_38 : decode cX9_parseStructure 38 = .ok (.iload_n 1, 1) := by decide +kernel
theorem dX9_parseStructure_39 : decode cX9_parseStructure 39 = .ok (.iload_n 2, 1) := by decide +kernel
theorem dX9_parseStructure_40 : decode cX9_parseStructure 40 = .ok (.iconst 1, 1) := by decide +kernel
theorem dX9_parseStructure_41 : decode cX9_parseStructure 41 = .ok (.iadd, 1) := by decide +kernel
theorem dX9_parseStructure_42 : decode cX9_parseStructure 42 = .ok (.invokevirtual 42, 3) := by decide +kernel
theorem dX9_parseStructure_45 : decode cX9_parseStructure 45 = .ok (.ifCond .eq 16, 3) := by decide +kernel
theorem dX9_parseStructure_48 : decode cX9_parseStructure 48 = .ok (.aload_n 0, 1) := by decide +kernel
theorem dX9_parseStructure_49 : decode cX9_parseStructure 49 = .ok (.bipush 125, 2) := by decide +kernel
theorem dX9_parseStructure_51 : decode cX9_parseStructure 51 = .ok (.invokevirtual 87, 3) := by decide +kernel
theorem dX9_parseStructure_54 : decode cX9_parseStructure 54 = .ok (.ifCond .eq 7, 3) := by decide +kernel
theorem dX9_parseStructure_57 : decode cX9_parseStructure 57 = .ok (.iconst 1, 1) := by decide +kernel
theorem dX9_parseStructure_58 : decode cX9_parseStructure 58 = .ok (.goto 4, 3) := by decide +kernel
theorem dX9_parseStructure_61 : decode cX9_parseStructure 61 = .ok (.iconst 0, 1) := by decide +kernel
theorem dX9_parseStructure_62 : decode cX9_parseStructure 62 = .ok (.ireturn, 1) := by decide +kernel
theorem vc_X9_parseStructure_0 {G : zG} {d : Nat} {Q : Option zV → zHp → Prop} (p1 : Int) (p2 : Int) (h : zHp) (hS : zSh h) (hd : 7 ≤ d)  
    (hv : ((p2 < 3 → (zT 369 (gR h 211 1) = (108, 2) ∧ (((0 : Int) ≤ p1 ∧ p1 < ((24 : Nat) : Int)) ∧ (∀ h2 : zHp, h2 = sI h ((gR h 211 1) + 2 + p1.toNat) 0 5 → ((-2147483648 ≤ (gI h2 211 2) + 1 ∧ (gI h2 211 2) + 1 ≤ 2147483647) ∧ (wpN G (d - 1) M_X9_moveTo 0 (zar 0 [vR 211, vI ((gI h2 211 2) + 1)]) [] h2 (qV (fun h5 => zSh h5 ∧ ((-2147483648 ≤ p2 + 1 ∧ p2 + 1 ≤ 2147483647) ∧ (wpN G (d - 1) M_X9_parseBlock 0 (zar 0 [vR 211, vI p1, vI (p2 + 1)]) [] h5 (qI (fun z8 h9 => zSh h9 ∧ ((z8 = 0 → Q (some (vI 0)) h9) ∧ (z8 ≠ 0 → (wpN G (d - 1) M_X9_parseSign 0 (zar 0 [vR 211, vI 125]) [] h9 (qI (fun z13 h14 => zSh h14 ∧ ((z13 = 0 → Q (some (vI 0)) h14) ∧ (z13 ≠ 0 → Q (some (vI 1)) h14))))))))))))))))))) ∧ (3 ≤ p2 → (wpN G (d - 1) M_X9_refuse 0 (zar 0 [vR 211, vI (gI h 211 2)]) [] h (qI (fun z18 h19 => zSh h19 ∧ ((z18 = 0 ∨ z18 = 1) ∧ Q (some (vI z18)) h19))))))) : wpN G d M_X9_parseStructure 0 [(0, vR 211), (1, vI p1), (2, vI p2)] [] h Q := by
  refine wq_iload_n 2 rfl rfl dX9_parseStructure_0 ?_
  refine wq_iconst (z := 3) (zlit rfl) dX9_parseStructure_1 ?_
  refine wq_icmp_lt 14 rfl dX9_parseStructure_2 (fun c1 => ?_) (fun c1 => ?_)
  · refine wq_aload_n 0 rfl rfl dX9_parseStructure_14 ?_
    refine wq_getR fk_X9_15 tT_211 (fun _ _ _ => rfl) rfl (zT_nz (hv.1 c1).1 (by decide)) dX9_parseStructure_15 ?_
    refine wq_getR (r := ((gR h 211 1) + 1)) fk_X9_73 (hv.1 c1).1 (fun _ _ _ => rfl) (sh_8_0 hS (hv.1 c1).1) (by omega) dX9_parseStructure_18 ?_
    refine wq_iload_n 1 rfl rfl dX9_parseStructure_21 ?_
    refine wq_aald (r := ((gR h 211 1) + 2 + p1.toNat)) (ztm0 (hv.1 c1).1) (by decide) (by decide) rfl (hv.1 c1).2.1.1 (hv.1 c1).2.1.2 (sh_itm hS (hv.1 c1).1 (zlt_n (hv.1 c1).2.1.1 (hv.1 c1).2.1.2)) (by omega) dX9_parseStructure_22 ?_
    refine wq_iconst (z := 5) (zlit rfl) dX9_parseStructure_23 ?_
    refine wq_putI fk_X9_106 (zitm (hv.1 c1).1 (zlt_n (hv.1 c1).2.1.1 (hv.1 c1).2.1.2)) rfl rfl dX9_parseStructure_24 ?_
    refine wq_toph (fun h2 e3 => ?_)
    have sh2 : zSh h2 := zSh_of e3 hS
    refine wq_aload_n 0 rfl rfl dX9_parseStructure_27 ?_
    refine wq_aload_n 0 rfl rfl dX9_parseStructure_28 ?_
    refine wq_getI fk_X9_19 tT_211 (fun _ _ _ => rfl) dX9_parseStructure_29 ?_
    refine wq_iconst (z := 1) (zlit rfl) dX9_parseStructure_32 ?_
    refine wq_iadd ((hv.1 c1).2.2 h2 e3).1 dX9_parseStructure_33 ?_
    refine wN_V (As := [vI ((gI h2 211 2) + 1)]) vm_X9_moveTo lk_X9_36 tT_211 rfl rfl (Nat.le_of_ble_eq_true rfl) (Nat.le_of_ble_eq_true rfl) (d' := d - 1) (by omega) dX9_parseStructure_34 ((hv.1 c1).2.2 h2 e3).2 (fun v9 h5 q6 => ?_)
    obtain ⟨rfl, hS7, q6⟩ := q6
    refine wq_st (st' := []) rfl ?_
    refine wq_aload_n 0 rfl rfl dX9_parseStructure_37 ?_
    refine wq_iload_n 1 rfl rfl dX9_parseStructure_38 ?_
    refine wq_iload_n 2 rfl rfl dX9_parseStructure_39 ?_
    refine wq_iconst (z := 1) (zlit rfl) dX9_parseStructure_40 ?_
    refine wq_iadd q6.1 dX9_parseStructure_41 ?_
    refine wN_V (As := [vI p1, vI (p2 + 1)]) vm_X9_parseBlock lk_X9_42 tT_211 rfl rfl (Nat.le_of_ble_eq_true rfl) (Nat.le_of_ble_eq_true rfl) (d' := d - 1) (by omega) dX9_parseStructure_42 q6.2 (fun v9 h9 q10 => ?_)
    obtain ⟨z8, rfl, hS11, q10⟩ := q10
    refine wq_st (st' := [vI z8]) rfl ?_
    refine wq_if_eq 61 rfl dX9_parseStructure_45 (fun c12 => ?_) (fun c12 => ?_)
    · refine wq_iconst (z := 0) (zlit rfl) dX9_parseStructure_61 ?_
      exact wp_zret (Or.inl rfl) rfl dX9_parseStructure_62 (q10.1 c12)
    · refine wq_aload_n 0 rfl rfl dX9_parseStructure_48 ?_
      refine wq_bipush (z := 125) (zlit rfl) rfl dX9_parseStructure_49 ?_
      refine wN_V (As := [vI 125]) vm_X9_parseSign lk_X9_87 tT_211 rfl rfl (Nat.le_of_ble_eq_true rfl) (Nat.le_of_ble_eq_true rfl) (d' := d - 1) (by omega) dX9_parseStructure_51 (q10.2 c12) (fun v9 h14 q15 => ?_)
      obtain ⟨z13, rfl, hS16, q15⟩ := q15
      refine wq_st (st' := [vI z13]) rfl ?_
      refine wq_if_eq 61 rfl dX9_parseStructure_54 (fun c17 => ?_) (fun c17 => ?_)
      · refine wq_iconst (z := 0) (zlit rfl) dX9_parseStructure_61 ?_
        exact wp_zret (Or.inl rfl) rfl dX9_parseStructure_62 (q15.1 c17)
      · refine wq_iconst (z := 1) (zlit rfl) dX9_parseStructure_57 ?_
        refine wq_goto 62 rfl dX9_parseStructure_58 ?_
        exact wp_zret (Or.inr rfl) rfl dX9_parseStructure_62 (q15.2 c17)
  · refine wq_aload_n 0 rfl rfl dX9_parseStructure_5 ?_
    refine wq_aload_n 0 rfl rfl dX9_parseStructure_6 ?_
    refine wq_getI fk_X9_19 tT_211 (fun _ _ _ => rfl) dX9_parseStructure_7 ?_
    refine wN_V (As := [vI (gI h 211 2)]) vm_X9_refuse lk_X9_59 tT_211 rfl rfl (Nat.le_of_ble_eq_true rfl) (Nat.le_of_ble_eq_true rfl) (d' := d - 1) (by omega) dX9_parseStructure_10 (hv.2 c1) (fun v9 h19 q20 => ?_)
    obtain ⟨z18, rfl, hS21, q20⟩ := q20
    refine wq_st (st' := [vI z18]) rfl ?_
    exact wp_zret q20.1 rfl dX9_parseStructure_13 q20.2
