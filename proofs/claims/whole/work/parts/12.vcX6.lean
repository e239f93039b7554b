theorem dX6_compute_0 : decode cX6_compute 0 = .ok (.aload_n 0, 1) := by decide +kernel
theorem dX6_compute_1 : decode cX6_compute 1 = .ok (.aload_n 1, 1) := by decide +kernel
theorem dX6_compute_2 : decode cX6_compute 2 = .ok (.putfield 22, 3) := by decide +kernel
theorem dX6_compute_5 : decode cX6_compute 5 = .ok (.aload_n 0, 1) := by decide +kernel
theorem dX6_compute_6 : decode cX6_compute 6 = .ok (.iload_n 2, 1) := by decide +kernel
theorem dX6_compute_7 : decode cX6_compute 7 = .ok (.putfield 45, 3) := by decide +kernel
theorem dX6_compute_10 : decode cX6_compute 10 = .ok (.aload_n 0, 1) := by decide +kernel
theorem dX6_compute_11 : decode cX6_compute 11 = .ok (.iload_n 2, 1) := by decide +kernel
theorem dX6_compute_12 : decode cX6_compute 12 = .ok (.putfield 49, 3) := by decide +kernel
theorem dX6_compute_15 : decode cX6_compute 15 = .ok (.aload_n 0, 1) := by decide +kernel
theorem dX6_compute_16 : decode cX6_compute 16 = .ok (.iconst 0, 1) := by decide +kernel
theorem dX6_compute_17 : decode cX6_compute 17 = .ok (.putfield 52, 3) := by decide +kernel
theorem dX6_compute_20 : decode cX6_compute 20 = .ok (.aload_n 0, 1) := by decide +kernel
theorem dX6_compute_21 : decode cX6_compute 21 = .ok (.iconst 0, 1) := by decide +kernel
theorem dX6_compute_22 : decode cX6_compute 22 = .ok (.putfield 55, 3) := by decide +kernel
theorem dX6_compute_25 : decode cX6_compute 25 = .ok (.aload_n 0, 1) := by decide +kernel
theorem dX6_compute_26 : decode cX6_compute 26 = .ok (.iconst 0, 1) := by decide +kernel
theorem dX6_compute_27 : decode cX6_compute 27 = .ok (.putfield 58, 3) := by decide +kernel
theorem dX6_compute_30 : decode cX6_compute 30 = .ok (.iconst 0, 1) := by decide +kernel
theorem dX6_compute_31 : decode cX6_compute 31 = .ok (.istore_n 3, 1) := by decide +kernel
theorem dX6_compute_32 : decode cX6_compute 32 = .ok (.iload_n 3, 1) := by decide +kernel
theorem dX6_compute_33 : decode cX6_compute 33 = .ok (.aload_n 1, 1) := by decide +kernel
theorem dX6_compute_34 : decode cX6_compute 34 = .ok (.getfield 61, 3) := by decide +kernel
theorem dX6_compute_37 : decode cX6_compute 37 = .ok (.if_icmp .ge 35, 3) := by decide +kernel
theorem dX6_compute_40 : decode cX6_compute 40 = .ok (.aload_n 0, 1) := by decide +kernel
theorem dX6_compute_41 : decode cX6_compute 41 = .ok (.getfield 58, 3) := by decide +kernel
theorem dX6_compute_44 : decode cX6_compute 44 = .ok (.ifCond .ne 28, 3) := by decide +kernel
theorem dX6_compute_47 : decode cX6_compute 47 = .ok (.aload_n 0, 1) := by decide +kernel
theorem dX6_compute_48 : decode cX6_compute 48 = .ok (.iload_n 3, 1) := by decide +kernel
theorem dX6_compute_49 : decode cX6_compute 49 = .ok (.iconst 0, 1) := by decide +kernel
theorem dX6_compute_50 : decode cX6_compute 50 = .ok (.invokevirtual 62, 3) := by decide +kernel
theorem dX6_compute_53 : decode cX6_compute 53 = .ok (.iload_n 3, 1) := by decide +kernel
theorem dX6_compute_54 : decode cX6_compute 54 = .ok (.iconst 1, 1) := by decide +kernel
theorem dX6_compute_55 : decode cX6_compute 55 = .ok (.iadd, 1) := by decide +kernel
theorem dX6_compute_56 : decode cX6_compute 56 = .ok (.aload_n 1, 1) := by decide +kernel
theorem dX6_compute_57 : decode cX6_compute 57 = .ok (.getfield 66, 3) := by decide +kernel
theorem dX6_compute_60 : decode cX6_compute 60 = .ok (.iload_n 3, 1) := by decide +kernel
theorem dX6_compute_61 : decode cX6_compute 61 = .ok (.aaload, 1) := by decide +kernel
theorem dX6_compute_62 : decode cX6_compute 62 = .ok (.getfield 70, 3) := by decide +kernel
theorem dX6_compute_65 : decode cX6_compute 65 = .ok (.invokestatic 75, 3) := by decide +kernel
theorem dX6_compute_68 : decode cX6_compute 68 = .ok (.istore_n 3, 1) := by decide +kernel
theorem dX6_compute_69 : decode cX6_compute 69 = .ok (.goto (-37), 3) := by decide +kernel
theorem dX6_compute_72 : decode cX6_compute 72 = .ok (.return_, 1) := by decide +kernel
theorem vc_X6_compute_0 {G : zG} {d : Nat} {Q : Option zV → zHp → Prop} (p1 : Nat) (hT_p1 : zT 369 p1 = (108, 2)) (p2 : Int) (h : zHp) (hS : zSh h) (hd : 4 ≤ d) (I_32 : Nat → Int → Int → zHp → Prop) (hI_32 : ∀ (y1 : Nat) (y2 : Int) (y3 : Int) (h' : zHp), I_32 y1 y2 y3 h' → wpN G d M_X6_compute 32 [(0, vR 215), (1, vR y1), (2, vI y2), (3, vI y3)] [] h' Q) 
    (hv : (∀ h1 : zHp, h1 = sR h 215 5 p1 → (∀ h3 : zHp, h3 = sI h1 215 6 p2 → (∀ h5 : zHp, h5 = sI h3 215 3 p2 → (∀ h7 : zHp, h7 = sI h5 215 1 0 → (∀ h9 : zHp, h9 = sI h7 215 7 0 → (∀ h11 : zHp, h11 = sI h9 215 2 0 → (zSh h11 → I_32 p1 p2 0 h11)))))))) : wpN G d M_X6_compute 0 [(0, vR 215), (1, vR p1), (2, vI p2)] [] h Q := by
  refine wq_aload_n 0 rfl rfl dX6_compute_0 ?_
  refine wq_aload_n 1 rfl rfl dX6_compute_1 ?_
  refine wq_putR (zT_nz hT_p1 (by decide)) fk_X6_22 tT_215 (Or.inl rfl) (fun _ _ _ => rfl) (fun _ => rfl) (fun _ => rfl) dX6_compute_2 ?_
  refine wq_toph (fun h1 e2 => ?_)
  have sh1 : zSh h1 := zSh_put e2 hS (by decide)
  refine wq_aload_n 0 rfl rfl dX6_compute_5 ?_
  refine wq_iload_n 2 rfl rfl dX6_compute_6 ?_
  refine wq_putI fk_X6_45 tT_215 rfl rfl dX6_compute_7 ?_
  refine wq_toph (fun h3 e4 => ?_)
  have sh3 : zSh h3 := zSh_of e4 sh1
  refine wq_aload_n 0 rfl rfl dX6_compute_10 ?_
  refine wq_iload_n 2 rfl rfl dX6_compute_11 ?_
  refine wq_putI fk_X6_49 tT_215 rfl rfl dX6_compute_12 ?_
  refine wq_toph (fun h5 e6 => ?_)
  have sh5 : zSh h5 := zSh_of e6 sh3
  refine wq_aload_n 0 rfl rfl dX6_compute_15 ?_
  refine wq_iconst (z := 0) (zlit rfl) dX6_compute_16 ?_
  refine wq_putI fk_X6_52 tT_215 rfl rfl dX6_compute_17 ?_
  refine wq_toph (fun h7 e8 => ?_)
  have sh7 : zSh h7 := zSh_of e8 sh5
  refine wq_aload_n 0 rfl rfl dX6_compute_20 ?_
  refine wq_iconst (z := 0) (zlit rfl) dX6_compute_21 ?_
  refine wq_putI fk_X6_55 tT_215 rfl rfl dX6_compute_22 ?_
  refine wq_toph (fun h9 e10 => ?_)
  have sh9 : zSh h9 := zSh_of e10 sh7
  refine wq_aload_n 0 rfl rfl dX6_compute_25 ?_
  refine wq_iconst (z := 0) (zlit rfl) dX6_compute_26 ?_
  refine wq_putI fk_X6_58 tT_215 rfl rfl dX6_compute_27 ?_
  refine wq_toph (fun h11 e12 => ?_)
  have sh11 : zSh h11 := zSh_of e12 sh9
  refine wq_iconst (z := 0) (zlit rfl) dX6_compute_30 ?_
  refine wq_istore_n (ls' := [(0, vR 215), (1, vR p1), (2, vI p2), (3, vI 0)]) rfl (by decide) rfl dX6_compute_31 ?_
  exact wq_pick [0, 1, 2, 3] rfl (hI_32 p1 p2 0 h11 (((((((hv h1 e2) h3 e4) h5 e6) h7 e8) h9 e10) h11 e12) sh11))
theorem vc_X6_compute_32 {G : zG} {d : Nat} {Q : Option zV → zHp → Prop} (y1 : Nat) (hT_y1 : zT 369 y1 = (108, 2)) (y2 : Int) (y3 : Int) (h : zHp) (hS : zSh h) (hd : 4 ≤ d) (I_32 : Nat → Int → Int → zHp → Prop) (hI_32 : ∀ (y1 : Nat) (y2 : Int) (y3 : Int) (h' : zHp), I_32 y1 y2 y3 h' → wpN G d M_X6_compute 32 [(0, vR 215), (1, vR y1), (2, vI y2), (3, vI y3)] [] h' Q) 
    (hv : (((gI h y1 1) ≤ y3 → Q none h) ∧ (y3 < (gI h y1 1) → (((gI h 215 2) ≠ 0 → Q none h) ∧ ((gI h 215 2) = 0 → (wpN G (d - 1) M_X6_goThrough 0 (zar 0 [vR 215, vI y3, vI 0]) [] h (qV (fun h4 => zSh h4 ∧ ((-2147483648 ≤ y3 + 1 ∧ y3 + 1 ≤ 2147483647) ∧ (((0 : Int) ≤ y3 ∧ y3 < ((24 : Nat) : Int)) ∧ (wpN G (d - 1) M_J9_max_7cf53 0 (zar 0 [vI (y3 + 1), vI (gI h4 (y1 + 2 + y3.toNat) 5)]) [] h4 (qI (fun z7 h8 => zSh h8 ∧ (zSh h8 → I_32 y1 y2 z7 h8)))))))))))))) : wpN G d M_X6_compute 32 [(0, vR 215), (1, vR y1), (2, vI y2), (3, vI y3)] [] h Q := by
  refine wq_iload_n 3 rfl rfl dX6_compute_32 ?_
  refine wq_aload_n 1 rfl rfl dX6_compute_33 ?_
  refine wq_getI fk_X6_61 hT_y1 (fun _ _ _ => rfl) dX6_compute_34 ?_
  refine wq_icmp_ge 72 rfl dX6_compute_37 (fun c1 => ?_) (fun c1 => ?_)
  · exact wp_vret rfl dX6_compute_72 (hv.1 c1)
  · refine wq_aload_n 0 rfl rfl dX6_compute_40 ?_
    refine wq_getI fk_X6_58 tT_215 (fun _ _ _ => rfl) dX6_compute_41 ?_
    refine wq_if_ne 72 rfl dX6_compute_44 (fun c2 => ?_) (fun c2 => ?_)
    · exact wp_vret rfl dX6_compute_72 ((hv.2 c1).1 c2)
    · refine wq_aload_n 0 rfl rfl dX6_compute_47 ?_
      refine wq_iload_n 3 rfl rfl dX6_compute_48 ?_
      refine wq_iconst (z := 0) (zlit rfl) dX6_compute_49 ?_
      refine wN_V (As := [vI y3, vI 0]) vm_X6_goThrough lk_X6_62 tT_215 rfl rfl (Nat.le_of_ble_eq_true rfl) (Nat.le_of_ble_eq_true rfl) (d' := d - 1) (by omega) dX6_compute_50 ((hv.2 c1).2 c2) (fun v9 h4 q5 => ?_)
      obtain ⟨rfl, hS6, q5⟩ := q5
      refine wq_st (st' := []) rfl ?_
      refine wq_iload_n 3 rfl rfl dX6_compute_53 ?_
      refine wq_iconst (z := 1) (zlit rfl) dX6_compute_54 ?_
      refine wq_iadd q5.1 dX6_compute_55 ?_
      refine wq_aload_n 1 rfl rfl dX6_compute_56 ?_
      refine wq_getR (r := (y1 + 1)) fk_X6_66 hT_y1 (fun _ _ _ => rfl) (sh_8_0 hS6 hT_y1) (by omega) dX6_compute_57 ?_
      refine wq_iload_n 3 rfl rfl dX6_compute_60 ?_
      refine wq_aald (r := (y1 + 2 + y3.toNat)) (ztm0 hT_y1) (by decide) (by decide) rfl q5.2.1.1 q5.2.1.2 (sh_itm hS6 hT_y1 (zlt_n q5.2.1.1 q5.2.1.2)) (by omega) dX6_compute_61 ?_
      refine wq_getI fk_X6_70 (zitm hT_y1 (zlt_n q5.2.1.1 q5.2.1.2)) (fun _ _ _ => rfl) dX6_compute_62 ?_
      refine wN_S (As := [vI (y3 + 1), vI (gI h4 (y1 + 2 + y3.toNat) 5)]) md_J9_max_7cf53 ms_J9_max_7cf53 lk_X6_75 rfl rfl (Nat.le_of_ble_eq_true rfl) (Nat.le_of_ble_eq_true rfl) (d' := d - 1) (by omega) dX6_compute_65 q5.2.2 (fun v9 h8 q9 => ?_)
      obtain ⟨z7, rfl, hS10, q9⟩ := q9
      refine wq_st (st' := [vI z7]) rfl ?_
      refine wq_istore_n (ls' := [(0, vR 215), (1, vR y1), (2, vI y2), (3, vI z7)]) rfl (by decide) rfl dX6_compute_68 ?_
      refine wq_goto 32 rfl dX6_compute_69 ?_
      exact wq_pick [0, 1, 2, 3] rfl (hI_32 y1 y2 z7 h8 (q9 hS10))
theorem dX6_makeStep_0 : decode cX6_makeStep 0 = .ok (.aload_n 0, 1) := by decide +kernel
theorem dX6_makeStep_1 : decode cX6_makeStep 1 = .ok (.getfield 55, 3) := by decide +kernel
theorem dX6_makeStep_4 : decode cX6_makeStep 4 = .ok (.sipush 400, 3) := by decide +kernel
theorem dX6_makeStep_7 : decode cX6_makeStep 7 = .ok (.if_icmp .lt 10, 3) := by decide +kernel
theorem dX6_makeStep_10 : decode cX6_makeStep 10 = .ok (.aload_n 0, 1) := by decide +kernel
theorem dX6_makeStep_11 : decode cX6_makeStep 11 = .ok (.iconst 3, 1) := by decide +kernel
theorem dX6_makeStep_12 : decode cX6_makeStep 12 = .ok (.putfield 58, 3) := by decide +kernel
theorem dX6_makeStep_15 : decode cX6_makeStep 15 = .ok (.iconst 0, 1) := by decide +kernel
theorem dX6_makeStep_16 : decode cX6_makeStep 16 = .ok (.ireturn, 1) := by decide +kernel
theorem dX6_makeStep_17 : decode cX6_makeStep 17 = .ok (.aload_n 0, 1) := by decide +kernel
theorem dX6_makeStep_18 : decode cX6_makeStep 18 = .ok (.dup, 1) := by decide +kernel
theorem dX6_makeStep_19 : decode cX6_makeStep 19 = .ok (.getfield 55, 3) := by decide +kernel
theorem dX6_makeStep_22 : decode cX6_makeStep 22 = .ok (.iconst 1, 1) := by decide +kernel
theorem dX6_makeStep_23 : decode cX6_makeStep 23 = .ok (.iadd, 1) := by decide +kernel
theorem dX6_makeStep_24 : decode cX6_makeStep 24 = .ok (.putfield 55, 3) := by decide +kernel
theorem dX6_makeStep_27 : decode cX6_makeStep 27 = .ok (.iconst 1, 1) := by decide +kernel
theorem dX6_makeStep_28 : decode cX6_makeStep 28 = .ok (.ireturn, 1) := by decide +kernel
theorem vc_X6_makeStep_0 {G : zG} {d : Nat} {Q : Option zV → zHp → Prop}  (h : zHp) (hS : zSh h) (hd : 0 ≤ d)  
    (hv : (((gI h 215 7) < 400 → ((-2147483648 ≤ (gI h 215 7) + 1 ∧ (gI h 215 7) + 1 ≤ 2147483647) ∧ (∀ h2 : zHp, h2 = sI h 215 7 ((gI h 215 7) + 1) → Q (some (vI 1)) h2))) ∧ (400 ≤ (gI h 215 7) → (∀ h4 : zHp, h4 = sI h 215 2 3 → Q (some (vI 0)) h4)))) : wpN G d M_X6_makeStep 0 [(0, vR 215)] [] h Q := by
  refine wq_aload_n 0 rfl rfl dX6_makeStep_0 ?_
  refine wq_getI fk_X6_55 tT_215 (fun _ _ _ => rfl) dX6_makeStep_1 ?_
  refine wq_sipush (z := 400) (zlit rfl) rfl dX6_makeStep_4 ?_
  refine wq_icmp_lt 17 rfl dX6_makeStep_7 (fun c1 => ?_) (fun c1 => ?_)
  · refine wq_aload_n 0 rfl rfl dX6_makeStep_17 ?_
    refine wq_dup rfl dX6_makeStep_18 ?_
    refine wq_getI fk_X6_55 tT_215 (fun _ _ _ => rfl) dX6_makeStep_19 ?_
    refine wq_iconst (z := 1) (zlit rfl) dX6_makeStep_22 ?_
    refine wq_iadd (hv.1 c1).1 dX6_makeStep_23 ?_
    refine wq_putI fk_X6_55 tT_215 rfl rfl dX6_makeStep_24 ?_
    refine wq_toph (fun h2 e3 => ?_)
    have sh2 : zSh h2 := zSh_of e3 hS
    refine wq_iconst (z := 1) (zlit rfl) dX6_makeStep_27 ?_
    exact wp_zret (Or.inr rfl) rfl dX6_makeStep_28 ((hv.1 c1).2 h2 e3)
  · refine wq_aload_n 0 rfl rfl dX6_makeStep_10 ?_
    refine wq_iconst (z := 3) (zlit rfl) dX6_makeStep_11 ?_
    refine wq_putI fk_X6_58 tT_215 rfl rfl dX6_makeStep_12 ?_
    refine wq_toph (fun h4 e5 => ?_)
    have sh4 : zSh h4 := zSh_of e5 hS
    refine wq_iconst (z := 0) (zlit rfl) dX6_makeStep_15 ?_
    exact wp_zret (Or.inl rfl) rfl dX6_makeStep_16 ((hv.2 c1) h4 e5)
theorem dX6_goThrough_0 : decode cX6_goThrough 0 = .ok (.iload_n 2, 1) := by decide +kernel
theorem dX6_goThrough_1 : decode cX6_goThrough 1 = .ok (.aload_n 0, 1) := by decide +kernel
theorem dX6_goThrough_2 : decode cX6_goThrough 2 = .ok (.getfield 28, 3) := by decide +kernel
theorem dX6_goThrough_5 : decode cX6_goThrough 5 = .ok (.arraylength, 1) := by decide +kernel
theorem dX6_goThrough_6 : decode cX6_goThrough 6 = .ok (.if_icmp .ge 10, 3) := by decide +kernel
theorem dX6_goThrough_9 : decode cX6_goThrough 9 = .ok (.aload_n 0, 1) := by decide +kernel
theorem dX6_goThrough_10 : decode cX6_goThrough 10 = .ok (.invokevirtual 81, 3) := by decide +kernel
theorem dX6_goThrough_13 : decode cX6_goThrough 13 = .ok (.ifCond .ne 4, 3) := by decide +kernel
theorem dX6_goThrough_16 : decode cX6_goThrough 16 = .ok (.return_, 1) := by decide +kernel
theorem dX6_goThrough_17 : decode cX6_goThrough 17 = .ok (.aload_n 0, 1) := by decide +kernel
theorem dX6_goThrough_18 : decode cX6_goThrough 18 = .ok (.getfield 22, 3) := by decide +kernel
theorem dX6_goThrough_21 : decode cX6_goThrough 21 = .ok (.getfield 66, 3) := by decide +kernel
theorem dX6_goThrough_24 : decode cX6_goThrough 24 = .ok (.iload_n 1, 1) := by decide +kernel
theorem dX6_goThrough_25 : decode cX6_goThrough 25 = .ok (.aaload, 1) := by decide +kernel
theorem dX6_goThrough_26 : decode cX6_goThrough 26 = .ok (.astore_n 3, 1) := by decide +kernel
theorem dX6_goThrough_27 : decode cX6_goThrough 27 = .ok (.aload_n 0, 1) := by decide +kernel
theorem dX6_goThrough_28 : decode cX6_goThrough 28 = .ok (.getfield 36, 3) := by decide +kernel
theorem dX6_goThrough_31 : decode cX6_goThrough 31 = .ok (.iload_n 1, 1) := by decide +kernel
theorem dX6_goThrough_32 : decode cX6_goThrough 32 = .ok (.aload_n 0, 1) := by decide +kernel
theorem dX6_goThrough_33 : decode cX6_goThrough 33 = .ok (.getfield 49, 3) := by decide +kernel
theorem dX6_goThrough_36 : decode cX6_goThrough 36 = .ok (.iastore, 1) := by decide +kernel
theorem dX6_goThrough_37 : decode cX6_goThrough 37 = .ok (.aload_n 0, 1) := by decide +kernel
theorem dX6_goThrough_38 : decode cX6_goThrough 38 = .ok (.getfield 39, 3) := by decide +kernel
theorem dX6_goThrough_41 : decode cX6_goThrough 41 = .ok (.iload_n 1, 1) := by decide +kernel
theorem dX6_goThrough_42 : decode cX6_goThrough 42 = .ok (.aload_n 0, 1) := by decide +kernel
theorem dX6_goThrough_43 : decode cX6_goThrough 43 = .ok (.getfield 49, 3) := by decide +kernel
theorem dX6_goThrough_46 : decode cX6_goThrough 46 = .ok (.iastore, 1) := by decide +kernel
theorem dX6_goThrough_47 : decode cX6_goThrough 47 = .ok (.aload_n 0, 1) := by decide +kernel
theorem dX6_goThrough_48 : decode cX6_goThrough 48 = .ok (.getfield 32, 3) := by decide +kernel
theorem dX6_goThrough_51 : decode cX6_goThrough 51 = .ok (.iload_n 1, 1) := by decide +kernel
theorem dX6_goThrough_52 : decode cX6_goThrough 52 = .ok (.lconst 0, 1) := by decide +kernel
theorem dX6_goThrough_53 : decode cX6_goThrough 53 = .ok (.lastore, 1) := by decide +kernel
theorem dX6_goThrough_54 : decode cX6_goThrough 54 = .ok (.aload_n 3, 1) := by decide +kernel
theorem dX6_goThrough_55 : decode cX6_goThrough 55 = .ok (.getfield 85, 3) := by decide +kernel
theorem dX6_goThrough_58 : decode cX6_goThrough 58 = .ok (.iconst (-1), 1) := by decide +kernel
theorem dX6_goThrough_59 : decode cX6_goThrough 59 = .ok (.if_icmp .eq 22, 3) := by decide +kernel
theorem dX6_goThrough_62 : decode cX6_goThrough 62 = .ok (.aload_n 0, 1) := by decide +kernel
theorem dX6_goThrough_63 : decode cX6_goThrough 63 = .ok (.getfield 32, 3) := by decide +kernel
theorem dX6_goThrough_66 : decode cX6_goThrough 66 = .ok (.aload_n 3, 1) := by decide +kernel
theorem dX6_goThrough_67 : decode cX6_goThrough 67 = .ok (.getfield 85, 3) := by decide +kernel
theorem dX6_goThrough_70 : decode cX6_goThrough 70 = .ok (.laload, 1) := by decide +kernel
theorem dX6_goThrough_71 : decode cX6_goThrough 71 = .ok (.aload_n 3, 1) := by decide +kernel
theorem dX6_goThrough_72 : decode cX6_goThrough 72 = .ok (.getfield 88, 3) := by decide +kernel
theorem dX6_goThrough_75 : decode cX6_goThrough 75 = .ok (.i2l, 1) := by decide +kernel
theorem dX6_goThrough_76 : decode cX6_goThrough 76 = .ok (.lcmp, 1) := by decide +kernel
theorem dX6_goThrough_77 : decode cX6_goThrough 77 = .ok (.ifCond .eq 4, 3) := by decide +kernel
theorem dX6_goThrough_80 : decode cX6_goThrough 80 = .ok (.return_, 1) := by decide +kernel
theorem dX6_goThrough_81 : decode cX6_goThrough 81 = .ok (.aload_n 3, 1) := by decide +kernel
theorem dX6_goThrough_82 : decode cX6_goThrough 82 = .ok (.getfield 91, 3) := by decide +kernel
theorem dX6_goThrough_85 : decode cX6_goThrough 85 = .ok (.iconst 5, 1) := by decide +kernel
theorem dX6_goThrough_86 : decode cX6_goThrough 86 = .ok (.if_icmp .ne 12, 3) := by decide +kernel
theorem dX6_goThrough_89 : decode cX6_goThrough 89 = .ok (.aload_n 0, 1) := by decide +kernel
theorem dX6_goThrough_90 : decode cX6_goThrough 90 = .ok (.iload_n 1, 1) := by decide +kernel
theorem dX6_goThrough_91 : decode cX6_goThrough 91 = .ok (.iload_n 2, 1) := by decide +kernel
theorem dX6_goThrough_92 : decode cX6_goThrough 92 = .ok (.invokevirtual 94, 3) := by decide +kernel
theorem dX6_goThrough_95 : decode cX6_goThrough 95 = .ok (.goto 54, 3) := by decide +kernel
theorem dX6_goThrough_98 : decode cX6_goThrough 98 = .ok (.aload_n 3, 1) := by decide +kernel
theorem dX6_goThrough_99 : decode cX6_goThrough 99 = .ok (.getfield 91, 3) := by decide +kernel
theorem dX6_goThrough_102 : decode cX6_goThrough 102 = .ok (.bipush 6, 2) := by decide +kernel
theorem dX6_goThrough_104 : decode cX6_goThrough 104 = .ok (.if_icmp .ne 19, 3) := by decide +kernel
theorem dX6_goThrough_107 : decode cX6_goThrough 107 = .ok (.aload_n 0, 1) := by decide +kernel
theorem dX6_goThrough_108 : decode cX6_goThrough 108 = .ok (.dup, 1) := by decide +kernel
theorem dX6_goThrough_109 : decode cX6_goThrough 109 = .ok (.getfield 49, 3) := by decide +kernel
theorem dX6_goThrough_112 : decode cX6_goThrough 112 = .ok (.aload_n 3, 1) := by decide +kernel
theorem dX6_goThrough_113 : decode cX6_goThrough 113 = .ok (.getfield 97, 3) := by decide +kernel
theorem dX6_goThrough_116 : decode cX6_goThrough 116 = .ok (.iadd, 1) := by decide +kernel
theorem dX6_goThrough_117 : decode cX6_goThrough 117 = .ok (.putfield 49, 3) := by decide +kernel
theorem dX6_goThrough_120 : decode cX6_goThrough 120 = .ok (.goto 29, 3) := by decide +kernel
theorem dX6_goThrough_123 : decode cX6_goThrough 123 = .ok (.aload_n 3, 1) := by decide +kernel
theorem dX6_goThrough_124 : decode cX6_goThrough 124 = .ok (.getfield 91, 3) := by decide +kernel
theorem dX6_goThrough_127 : decode cX6_goThrough 127 = .ok (.bipush 7, 2) := by decide +kernel
theorem dX6_goThrough_129 : decode cX6_goThrough 129 = .ok (.if_icmp .ne 14, 3) := by decide +kernel
theorem dX6_goThrough_132 : decode cX6_goThrough 132 = .ok (.aload_n 0, 1) := by decide +kernel
theorem dX6_goThrough_133 : decode cX6_goThrough 133 = .ok (.aload_n 3, 1) := by decide +kernel
theorem dX6_goThrough_134 : decode cX6_goThrough 134 = .ok (.getfield 97, 3) := by decide +kernel
theorem dX6_goThrough_137 : decode cX6_goThrough 137 = .ok (.invokevirtual 100, 3) := by decide +kernel
theorem dX6_goThrough_140 : decode cX6_goThrough 140 = .ok (.goto 9, 3) := by decide +kernel
theorem dX6_goThrough_143 : decode cX6_goThrough 143 = .ok (.aload_n 0, 1) := by decide +kernel
theorem dX6_goThrough_144 : decode cX6_goThrough 144 = .ok (.iload_n 1, 1) := by decide +kernel
theorem dX6_goThrough_145 : decode cX6_goThrough 145 = .ok (.iload_n 2, 1) := by decide +kernel
theorem dX6_goThrough_146 : decode cX6_goThrough 146 = .ok (.invokevirtual 104, 3) := by decide +kernel
theorem dX6_goThrough_149 : decode cX6_goThrough 149 = .ok (.aload_n 0, 1) := by decide +kernel
theorem dX6_goThrough_150 : decode cX6_goThrough 150 = .ok (.getfield 39, 3) := by decide +kernel
theorem dX6_goThrough_153 : decode cX6_goThrough 153 = .ok (.iload_n 1, 1) := by decide +kernel
theorem dX6_goThrough_154 : decode cX6_goThrough 154 = .ok (.aload_n 0, 1) := by decide +kernel
theorem dX6_goThrough_155 : decode cX6_goThrough 155 = .ok (.getfield 49, 3) := by decide +kernel
theorem dX6_goThrough_158 : decode cX6_goThrough 158 = .ok (.iastore, 1) := by decide +kernel
theorem dX6_goThrough_159 : decode cX6_goThrough 159 = .ok (.return_, 1) := by decide +kernel
theorem vc_X6_goThrough_0 {G : zG} {d : Nat} {Q : Option zV → zHp → Prop} (p1 : Int) (p2 : Int) (h : zHp) (hS : zSh h) (hd : 3 ≤ d)  
    (hv : ((((4 : Nat) : Int) ≤ p2 → Q none h) ∧ (p2 < ((4 : Nat) : Int) → (wpN G (d - 1) M_X6_makeStep 0 (zar 0 [vR 215]) [] h (qI (fun z2 h3 => zSh h3 ∧ ((z2 ≠ 0 → (zT 369 (gR h3 215 5) = (108, 2) ∧ (((0 : Int) ≤ p1 ∧ p1 < ((24 : Nat) : Int)) ∧ (((0 : Int) ≤ p1 ∧ p1 < ((24 : Nat) : Int)) ∧ (∀ h7 : zHp, h7 = sI h3 339 p1.toNat (gI h3 215 3) → (((0 : Int) ≤ p1 ∧ p1 < ((24 : Nat) : Int)) ∧ (∀ h9 : zHp, h9 = sI h7 340 p1.toNat (gI h7 215 3) → (((0 : Int) ≤ p1 ∧ p1 < ((24 : Nat) : Int)) ∧ (∀ h11 : zHp, h11 = sL h9 338 p1.toNat 0 → (((gI h11 ((gR h3 215 5) + 2 + p1.toNat) 6) = (-1) → (((gI h11 ((gR h3 215 5) + 2 + p1.toNat) 0) ≠ 5 → (((gI h11 ((gR h3 215 5) + 2 + p1.toNat) 0) ≠ 6 → (((gI h11 ((gR h3 215 5) + 2 + p1.toNat) 0) ≠ 7 → (wpN G (d - 1) M_X6_layFields 0 (zar 0 [vR 215, vI p1, vI p2]) [] h11 (qV (fun h18 => zSh h18 ∧ (((0 : Int) ≤ p1 ∧ p1 < ((24 : Nat) : Int)) ∧ (∀ h21 : zHp, h21 = sI h18 340 p1.toNat (gI h18 215 3) → Q none h21)))))) ∧ ((gI h11 ((gR h3 215 5) + 2 + p1.toNat) 0) = 7 → (wpN G (d - 1) M_X6_align 0 (zar 0 [vR 215, vI (gI h11 ((gR h3 215 5) + 2 + p1.toNat) 10)]) [] h11 (qV (fun h24 => zSh h24 ∧ (((0 : Int) ≤ p1 ∧ p1 < ((24 : Nat) : Int)) ∧ (∀ h27 : zHp, h27 = sI h24 340 p1.toNat (gI h24 215 3) → Q none h27)))))))) ∧ ((gI h11 ((gR h3 215 5) + 2 + p1.toNat) 0) = 6 → ((-2147483648 ≤ (gI h11 215 3) + (gI h11 ((gR h3 215 5) + 2 + p1.toNat) 10) ∧ (gI h11 215 3) + (gI h11 ((gR h3 215 5) + 2 + p1.toNat) 10) ≤ 2147483647) ∧ (∀ h29 : zHp, h29 = sI h11 215 3 ((gI h11 215 3) + (gI h11 ((gR h3 215 5) + 2 + p1.toNat) 10)) → (((0 : Int) ≤ p1 ∧ p1 < ((24 : Nat) : Int)) ∧ (∀ h31 : zHp, h31 = sI h29 340 p1.toNat (gI h29 215 3) → Q none h31))))))) ∧ ((gI h11 ((gR h3 215 5) + 2 + p1.toNat) 0) = 5 → (wpN G (d - 1) M_X6_repeatStructure 0 (zar 0 [vR 215, vI p1, vI p2]) [] h11 (qV (fun h34 => zSh h34 ∧ (((0 : Int) ≤ p1 ∧ p1 < ((24 : Nat) : Int)) ∧ (∀ h37 : zHp, h37 = sI h34 340 p1.toNat (gI h34 215 3) → Q none h37)))))))) ∧ ((gI h11 ((gR h3 215 5) + 2 + p1.toNat) 6) ≠ (-1) → (((0 : Int) ≤ (gI h11 ((gR h3 215 5) + 2 + p1.toNat) 6) ∧ (gI h11 ((gR h3 215 5) + 2 + p1.toNat) 6) < ((24 : Nat) : Int)) ∧ (((gL h11 338 (gI h11 ((gR h3 215 5) + 2 + p1.toNat) 6).toNat) = (gI h11 ((gR h3 215 5) + 2 + p1.toNat) 7) → (((gI h11 ((gR h3 215 5) + 2 + p1.toNat) 0) ≠ 5 → (((gI h11 ((gR h3 215 5) + 2 + p1.toNat) 0) ≠ 6 → (((gI h11 ((gR h3 215 5) + 2 + p1.toNat) 0) ≠ 7 → (wpN G (d - 1) M_X6_layFields 0 (zar 0 [vR 215, vI p1, vI p2]) [] h11 (qV (fun h44 => zSh h44 ∧ (((0 : Int) ≤ p1 ∧ p1 < ((24 : Nat) : Int)) ∧ (∀ h47 : zHp, h47 = sI h44 340 p1.toNat (gI h44 215 3) → Q none h47)))))) ∧ ((gI h11 ((gR h3 215 5) + 2 + p1.toNat) 0) = 7 → (wpN G (d - 1) M_X6_align 0 (zar 0 [vR 215, vI (gI h11 ((gR h3 215 5) + 2 + p1.toNat) 10)]) [] h11 (qV (fun h50 => zSh h50 ∧ (((0 : Int) ≤ p1 ∧ p1 < ((24 : Nat) : Int)) ∧ (∀ h53 : zHp, h53 = sI h50 340 p1.toNat (gI h50 215 3) → Q none h53)))))))) ∧ ((gI h11 ((gR h3 215 5) + 2 + p1.toNat) 0) = 6 → ((-2147483648 ≤ (gI h11 215 3) + (gI h11 ((gR h3 215 5) + 2 + p1.toNat) 10) ∧ (gI h11 215 3) + (gI h11 ((gR h3 215 5) + 2 + p1.toNat) 10) ≤ 2147483647) ∧ (∀ h55 : zHp, h55 = sI h11 215 3 ((gI h11 215 3) + (gI h11 ((gR h3 215 5) + 2 + p1.toNat) 10)) → (((0 : Int) ≤ p1 ∧ p1 < ((24 : Nat) : Int)) ∧ (∀ h57 : zHp, h57 = sI h55 340 p1.toNat (gI h55 215 3) → Q none h57))))))) ∧ ((gI h11 ((gR h3 215 5) + 2 + p1.toNat) 0) = 5 → (wpN G (d - 1) M_X6_repeatStructure 0 (zar 0 [vR 215, vI p1, vI p2]) [] h11 (qV (fun h60 => zSh h60 ∧ (((0 : Int) ≤ p1 ∧ p1 < ((24 : Nat) : Int)) ∧ (∀ h63 : zHp, h63 = sI h60 340 p1.toNat (gI h60 215 3) → Q none h63)))))))) ∧ ((gL h11 338 (gI h11 ((gR h3 215 5) + 2 + p1.toNat) 6).toNat) ≠ (gI h11 ((gR h3 215 5) + 2 + p1.toNat) 7) → Q none h11)))))))))))))) ∧ (z2 = 0 → Q none h3)))))))) : wpN G d M_X6_goThrough 0 [(0, vR 215), (1, vI p1), (2, vI p2)] [] h Q := by
  refine wq_iload_n 2 rfl rfl dX6_goThrough_0 ?_
  refine wq_aload_n 0 rfl rfl dX6_goThrough_1 ?_
  refine wq_getR fk_X6_28 tT_215 (fun _ _ _ => rfl) (sh_6_8 hS) (by decide) dX6_goThrough_2 ?_
  refine wq_alen tT_337 (by decide) (by decide) dX6_goThrough_5 ?_
  refine wq_icmp_ge 16 rfl dX6_goThrough_6 (fun c1 => ?_) (fun c1 => ?_)
  · exact wp_vret rfl dX6_goThrough_16 (hv.1 c1)
  · refine wq_aload_n 0 rfl rfl dX6_goThrough_9 ?_
    refine wN_V (As := []) vm_X6_makeStep lk_X6_81 tT_215 rfl rfl (Nat.le_of_ble_eq_true rfl) (Nat.le_of_ble_eq_true rfl) (d' := d - 1) (by omega) dX6_goThrough_10 (hv.2 c1) (fun v9 h3 q4 => ?_)
    obtain ⟨z2, rfl, hS5, q4⟩ := q4
    refine wq_st (st' := [vI z2]) rfl ?_
    refine wq_if_ne 17 rfl dX6_goThrough_13 (fun c6 => ?_) (fun c6 => ?_)
    · refine wq_aload_n 0 rfl rfl dX6_goThrough_17 ?_
      refine wq_getR fk_X6_22 tT_215 (fun _ _ _ => rfl) rfl (zT_nz (q4.1 c6).1 (by decide)) dX6_goThrough_18 ?_
      refine wq_getR (r := ((gR h3 215 5) + 1)) fk_X6_66 (q4.1 c6).1 (fun _ _ _ => rfl) (sh_8_0 hS5 (q4.1 c6).1) (by omega) dX6_goThrough_21 ?_
      refine wq_iload_n 1 rfl rfl dX6_goThrough_24 ?_
      refine wq_aald (r := ((gR h3 215 5) + 2 + p1.toNat)) (ztm0 (q4.1 c6).1) (by decide) (by decide) rfl (q4.1 c6).2.1.1 (q4.1 c6).2.1.2 (sh_itm hS5 (q4.1 c6).1 (zlt_n (q4.1 c6).2.1.1 (q4.1 c6).2.1.2)) (by omega) dX6_goThrough_25 ?_
      refine wq_astore_n (ls' := [(0, vR 215), (1, vI p1), (2, vI p2), (3, vR ((gR h3 215 5) + 2 + p1.toNat))]) rfl (by decide) rfl dX6_goThrough_26 ?_
      refine wq_aload_n 0 rfl rfl dX6_goThrough_27 ?_
      refine wq_getR fk_X6_36 tT_215 (fun _ _ _ => rfl) (sh_6_10 hS5) (by decide) dX6_goThrough_28 ?_
      refine wq_iload_n 1 rfl rfl dX6_goThrough_31 ?_
      refine wq_aload_n 0 rfl rfl dX6_goThrough_32 ?_
      refine wq_getI fk_X6_49 tT_215 (fun _ _ _ => rfl) dX6_goThrough_33 ?_
      refine wq_iast tT_339 (q4.1 c6).2.2.1.1 (q4.1 c6).2.2.1.2 dX6_goThrough_36 ?_
      refine wq_toph (fun h7 e8 => ?_)
      have sh7 : zSh h7 := zSh_of e8 hS5
      refine wq_aload_n 0 rfl rfl dX6_goThrough_37 ?_
      refine wq_getR fk_X6_39 tT_215 (fun _ _ _ => rfl) (sh_6_11 sh7) (by decide) dX6_goThrough_38 ?_
      refine wq_iload_n 1 rfl rfl dX6_goThrough_41 ?_
      refine wq_aload_n 0 rfl rfl dX6_goThrough_42 ?_
      refine wq_getI fk_X6_49 tT_215 (fun _ _ _ => rfl) dX6_goThrough_43 ?_
      refine wq_iast tT_340 ((q4.1 c6).2.2.2 h7 e8).1.1 ((q4.1 c6).2.2.2 h7 e8).1.2 dX6_goThrough_46 ?_
      refine wq_toph (fun h9 e10 => ?_)
      have sh9 : zSh h9 := zSh_of e10 sh7
      refine wq_aload_n 0 rfl rfl dX6_goThrough_47 ?_
      refine wq_getR fk_X6_32 tT_215 (fun _ _ _ => rfl) (sh_6_9 sh9) (by decide) dX6_goThrough_48 ?_
      refine wq_iload_n 1 rfl rfl dX6_goThrough_51 ?_
      refine wq_lconst (z := 0) (zlitL rfl) rfl dX6_goThrough_52 ?_
      refine wq_last tT_338 (((q4.1 c6).2.2.2 h7 e8).2 h9 e10).1.1 (((q4.1 c6).2.2.2 h7 e8).2 h9 e10).1.2 dX6_goThrough_53 ?_
      refine wq_toph (fun h11 e12 => ?_)
      have sh11 : zSh h11 := zSh_of e12 sh9
      refine wq_aload_n 3 rfl rfl dX6_goThrough_54 ?_
      refine wq_getI fk_X6_85 (zitm (q4.1 c6).1 (zlt_n (q4.1 c6).2.1.1 (q4.1 c6).2.1.2)) (fun _ _ _ => rfl) dX6_goThrough_55 ?_
      refine wq_iconst (z := -1) (zlit rfl) dX6_goThrough_58 ?_
      refine wq_icmp_eq 81 rfl dX6_goThrough_59 (fun c13 => ?_) (fun c13 => ?_)
      · refine wq_aload_n 3 rfl rfl dX6_goThrough_81 ?_
        refine wq_getI fk_X6_91 (zitm (q4.1 c6).1 (zlt_n (q4.1 c6).2.1.1 (q4.1 c6).2.1.2)) (fun _ _ _ => rfl) dX6_goThrough_82 ?_
        refine wq_iconst (z := 5) (zlit rfl) dX6_goThrough_85 ?_
        refine wq_icmp_ne 98 rfl dX6_goThrough_86 (fun c14 => ?_) (fun c14 => ?_)
        · refine wq_aload_n 3 rfl rfl dX6_goThrough_98 ?_
          refine wq_getI fk_X6_91 (zitm (q4.1 c6).1 (zlt_n (q4.1 c6).2.1.1 (q4.1 c6).2.1.2)) (fun _ _ _ => rfl) dX6_goThrough_99 ?_
          refine wq_bipush (z := 6) (zlit rfl) rfl dX6_goThrough_102 ?_
          refine wq_icmp_ne 123 rfl dX6_goThrough_104 (fun c15 => ?_) (fun c15 => ?_)
          · refine wq_aload_n 3 rfl rfl dX6_goThrough_123 ?_
            refine wq_getI fk_X6_91 (zitm (q4.1 c6).1 (zlt_n (q4.1 c6).2.1.1 (q4.1 c6).2.1.2)) (fun _ _ _ => rfl) dX6_goThrough_124 ?_
            refine wq_bipush (z := 7) (zlit rfl) rfl dX6_goThrough_127 ?_
            refine wq_icmp_ne 143 rfl dX6_goThrough_129 (fun c16 => ?_) (fun c16 => ?_)
            · refine wq_aload_n 0 rfl rfl dX6_goThrough_143 ?_
              refine wq_iload_n 1 rfl rfl dX6_goThrough_144 ?_
              refine wq_iload_n 2 rfl rfl dX6_goThrough_145 ?_
              refine wN_V (As := [vI p1, vI p2]) vm_X6_layFields lk_X6_104 tT_215 rfl rfl (Nat.le_of_ble_eq_true rfl) (Nat.le_of_ble_eq_true rfl) (d' := d - 1) (by omega) dX6_goThrough_146 ((((((((q4.1 c6).2.2.2 h7 e8).2 h9 e10).2 h11 e12).1 c13).1 c14).1 c15).1 c16) (fun v9 h18 q19 => ?_)
              obtain ⟨rfl, hS20, q19⟩ := q19
              refine wq_st (st' := []) rfl ?_
              refine wq_aload_n 0 rfl rfl dX6_goThrough_149 ?_
              refine wq_getR fk_X6_39 tT_215 (fun _ _ _ => rfl) (sh_6_11 hS20) (by decide) dX6_goThrough_150 ?_
              refine wq_iload_n 1 rfl rfl dX6_goThrough_153 ?_
              refine wq_aload_n 0 rfl rfl dX6_goThrough_154 ?_
              refine wq_getI fk_X6_49 tT_215 (fun _ _ _ => rfl) dX6_goThrough_155 ?_
              refine wq_iast tT_340 q19.1.1 q19.1.2 dX6_goThrough_158 ?_
              refine wq_toph (fun h21 e22 => ?_)
              have sh21 : zSh h21 := zSh_of e22 hS20
              exact wp_vret rfl dX6_goThrough_159 (q19.2 h21 e22)
            · refine wq_aload_n 0 rfl rfl dX6_goThrough_132 ?_
              refine wq_aload_n 3 rfl rfl dX6_goThrough_133 ?_
              refine wq_getI fk_X6_97 (zitm (q4.1 c6).1 (zlt_n (q4.1 c6).2.1.1 (q4.1 c6).2.1.2)) (fun _ _ _ => rfl) dX6_goThrough_134 ?_
              refine wN_V (As := [vI (gI h11 ((gR h3 215 5) + 2 + p1.toNat) 10)]) vm_X6_align lk_X6_100 tT_215 rfl rfl (Nat.le_of_ble_eq_true rfl) (Nat.le_of_ble_eq_true rfl) (d' := d - 1) (by omega) dX6_goThrough_137 ((((((((q4.1 c6).2.2.2 h7 e8).2 h9 e10).2 h11 e12).1 c13).1 c14).1 c15).2 c16) (fun v9 h24 q25 => ?_)
              obtain ⟨rfl, hS26, q25⟩ := q25
              refine wq_st (st' := []) rfl ?_
              refine wq_goto 149 rfl dX6_goThrough_140 ?_
              refine wq_aload_n 0 rfl rfl dX6_goThrough_149 ?_
              refine wq_getR fk_X6_39 tT_215 (fun _ _ _ => rfl) (sh_6_11 hS26) (by decide) dX6_goThrough_150 ?_
              refine wq_iload_n 1 rfl rfl dX6_goThrough_153 ?_
              refine wq_aload_n 0 rfl rfl dX6_goThrough_154 ?_
              refine wq_getI fk_X6_49 tT_215 (fun _ _ _ => rfl) dX6_goThrough_155 ?_
              refine wq_iast tT_340 q25.1.1 q25.1.2 dX6_goThrough_158 ?_
              refine wq_toph (fun h27 e28 => ?_)
              have sh27 : zSh h27 := zSh_of e28 hS26
              exact wp_vret rfl dX6_goThrough_159 (q25.2 h27 e28)
          · refine wq_aload_n 0 rfl rfl dX6_goThrough_107 ?_
            refine wq_dup rfl dX6_goThrough_108 ?_
            refine wq_getI fk_X6_49 tT_215 (fun _ _ _ => rfl) dX6_goThrough_109 ?_
            refine wq_aload_n 3 rfl rfl dX6_goThrough_112 ?_
            refine wq_getI fk_X6_97 (zitm (q4.1 c6).1 (zlt_n (q4.1 c6).2.1.1 (q4.1 c6).2.1.2)) (fun _ _ _ => rfl) dX6_goThrough_113 ?_
            refine wq_iadd (((((((q4.1 c6).2.2.2 h7 e8).2 h9 e10).2 h11 e12).1 c13).1 c14).2 c15).1 dX6_goThrough_116 ?_
            refine wq_putI fk_X6_49 tT_215 rfl rfl dX6_goThrough_117 ?_
            refine wq_toph (fun h29 e30 => ?_)
            have sh29 : zSh h29 := zSh_of e30 sh11
            refine wq_goto 149 rfl dX6_goThrough_120 ?_
            refine wq_aload_n 0 rfl rfl dX6_goThrough_149 ?_
            refine wq_getR fk_X6_39 tT_215 (fun _ _ _ => rfl) (sh_6_11 sh29) (by decide) dX6_goThrough_150 ?_
            refine wq_iload_n 1 rfl rfl dX6_goThrough_153 ?_
            refine wq_aload_n 0 rfl rfl dX6_goThrough_154 ?_
            refine wq_getI fk_X6_49 tT_215 (fun _ _ _ => rfl) dX6_goThrough_155 ?_
            refine wq_iast tT_340 ((((((((q4.1 c6).2.2.2 h7 e8).2 h9 e10).2 h11 e12).1 c13).1 c14).2 c15).2 h29 e30).1.1 ((((((((q4.1 c6).2.2.2 h7 e8).2 h9 e10).2 h11 e12).1 c13).1 c14).2 c15).2 h29 e30).1.2 dX6_goThrough_158 ?_
            refine wq_toph (fun h31 e32 => ?_)
            have sh31 : zSh h31 := zSh_of e32 sh29
            exact wp_vret rfl dX6_goThrough_159 (((((((((q4.1 c6).2.2.2 h7 e8).2 h9 e10).2 h11 e12).1 c13).1 c14).2 c15).2 h29 e30).2 h31 e32)
        · refine wq_aload_n 0 rfl rfl dX6_goThrough_89 ?_
          refine wq_iload_n 1 rfl rfl dX6_goThrough_90 ?_
          refine wq_iload_n 2 rfl rfl dX6_goThrough_91 ?_
          refine wN_V (As := [vI p1, vI p2]) vm_X6_repeatStructure lk_X6_94 tT_215 rfl rfl (Nat.le_of_ble_eq_true rfl) (Nat.le_of_ble_eq_true rfl) (d' := d - 1) (by omega) dX6_goThrough_92 ((((((q4.1 c6).2.2.2 h7 e8).2 h9 e10).2 h11 e12).1 c13).2 c14) (fun v9 h34 q35 => ?_)
          obtain ⟨rfl, hS36, q35⟩ := q35
          refine wq_st (st' := []) rfl ?_
          refine wq_goto 149 rfl dX6_goThrough_95 ?_
          refine wq_aload_n 0 rfl rfl dX6_goThrough_149 ?_
          refine wq_getR fk_X6_39 tT_215 (fun _ _ _ => rfl) (sh_6_11 hS36) (by decide) dX6_goThrough_150 ?_
          refine wq_iload_n 1 rfl rfl dX6_goThrough_153 ?_
          refine wq_aload_n 0 rfl rfl dX6_goThrough_154 ?_
          refine wq_getI fk_X6_49 tT_215 (fun _ _ _ => rfl) dX6_goThrough_155 ?_
          refine wq_iast tT_340 q35.1.1 q35.1.2 dX6_goThrough_158 ?_
          refine wq_toph (fun h37 e38 => ?_)
          have sh37 : zSh h37 := zSh_of e38 hS36
          exact wp_vret rfl dX6_goThrough_159 (q35.2 h37 e38)
      · refine wq_aload_n 0 rfl rfl dX6_goThrough_62 ?_
        refine wq_getR fk_X6_32 tT_215 (fun _ _ _ => rfl) (sh_6_9 sh11) (by decide) dX6_goThrough_63 ?_
        refine wq_aload_n 3 rfl rfl dX6_goThrough_66 ?_
        refine wq_getI fk_X6_85 (zitm (q4.1 c6).1 (zlt_n (q4.1 c6).2.1.1 (q4.1 c6).2.1.2)) (fun _ _ _ => rfl) dX6_goThrough_67 ?_
        refine wq_lald tT_338 (((((q4.1 c6).2.2.2 h7 e8).2 h9 e10).2 h11 e12).2 c13).1.1 (((((q4.1 c6).2.2.2 h7 e8).2 h9 e10).2 h11 e12).2 c13).1.2 dX6_goThrough_70 ?_
        refine wq_aload_n 3 rfl rfl dX6_goThrough_71 ?_
        refine wq_getI fk_X6_88 (zitm (q4.1 c6).1 (zlt_n (q4.1 c6).2.1.1 (q4.1 c6).2.1.2)) (fun _ _ _ => rfl) dX6_goThrough_72 ?_
        refine wq_i2l dX6_goThrough_75 ?_
        refine wq_lcmp_eq 81 rfl dX6_goThrough_76 dX6_goThrough_77 (fun c39 => ?_) (fun c39 => ?_)
        · refine wq_aload_n 3 rfl rfl dX6_goThrough_81 ?_
          refine wq_getI fk_X6_91 (zitm (q4.1 c6).1 (zlt_n (q4.1 c6).2.1.1 (q4.1 c6).2.1.2)) (fun _ _ _ => rfl) dX6_goThrough_82 ?_
          refine wq_iconst (z := 5) (zlit rfl) dX6_goThrough_85 ?_
          refine wq_icmp_ne 98 rfl dX6_goThrough_86 (fun c40 => ?_) (fun c40 => ?_)
          · refine wq_aload_n 3 rfl rfl dX6_goThrough_98 ?_
            refine wq_getI fk_X6_91 (zitm (q4.1 c6).1 (zlt_n (q4.1 c6).2.1.1 (q4.1 c6).2.1.2)) (fun _ _ _ => rfl) dX6_goThrough_99 ?_
            refine wq_bipush (z := 6) (zlit rfl) rfl dX6_goThrough_102 ?_
            refine wq_icmp_ne 123 rfl dX6_goThrough_104 (fun c41 => ?_) (fun c41 => ?_)
            · refine wq_aload_n 3 rfl rfl dX6_goThrough_123 ?_
              refine wq_getI fk_X6_91 (zitm (q4.1 c6).1 (zlt_n (q4.1 c6).2.1.1 (q4.1 c6).2.1.2)) (fun _ _ _ => rfl) dX6_goThrough_124 ?_
              refine wq_bipush (z := 7) (zlit rfl) rfl dX6_goThrough_127 ?_
              refine wq_icmp_ne 143 rfl dX6_goThrough_129 (fun c42 => ?_) (fun c42 => ?_)
              · refine wq_aload_n 0 rfl rfl dX6_goThrough_143 ?_
                refine wq_iload_n 1 rfl rfl dX6_goThrough_144 ?_
                refine wq_iload_n 2 rfl rfl dX6_goThrough_145 ?_
                refine wN_V (As := [vI p1, vI p2]) vm_X6_layFields lk_X6_104 tT_215 rfl rfl (Nat.le_of_ble_eq_true rfl) (Nat.le_of_ble_eq_true rfl) (d' := d - 1) (by omega) dX6_goThrough_146 (((((((((q4.1 c6).2.2.2 h7 e8).2 h9 e10).2 h11 e12).2 c13).2.1 c39).1 c40).1 c41).1 c42) (fun v9 h44 q45 => ?_)
                obtain ⟨rfl, hS46, q45⟩ := q45
                refine wq_st (st' := []) rfl ?_
                refine wq_aload_n 0 rfl rfl dX6_goThrough_149 ?_
                refine wq_getR fk_X6_39 tT_215 (fun _ _ _ => rfl) (sh_6_11 hS46) (by decide) dX6_goThrough_150 ?_
                refine wq_iload_n 1 rfl rfl dX6_goThrough_153 ?_
                refine wq_aload_n 0 rfl rfl dX6_goThrough_154 ?_
                refine wq_getI fk_X6_49 tT_215 (fun _ _ _ => rfl) dX6_goThrough_155 ?_
                refine wq_iast tT_340 q45.1.1 q45.1.2 dX6_goThrough_158 ?_
                refine wq_toph (fun h47 e48 => ?_)
                have sh47 : zSh h47 := zSh_of e48 hS46
                exact wp_vret rfl dX6_goThrough_159 (q45.2 h47 e48)
              · refine wq_aload_n 0 rfl rfl dX6_goThrough_132 ?_
                refine wq_aload_n 3 rfl rfl dX6_goThrough_133 ?_
                refine wq_getI fk_X6_97 (zitm (q4.1 c6).1 (zlt_n (q4.1 c6).2.1.1 (q4.1 c6).2.1.2)) (fun _ _ _ => rfl) dX6_goThrough_134 ?_
                refine wN_V (As := [vI (gI h11 ((gR h3 215 5) + 2 + p1.toNat) 10)]) vm_X6_align lk_X6_100 tT_215 rfl rfl (Nat.le_of_ble_eq_true rfl) (Nat.le_of_ble_eq_true rfl) (d' := d - 1) (by omega) dX6_goThrough_137 (((((((((q4.1 c6).2.2.2 h7 e8).2 h9 e10).2 h11 e12).2 c13).2.1 c39).1 c40).1 c41).2 c42) (fun v9 h50 q51 => ?_)
                obtain ⟨rfl, hS52, q51⟩ := q51
                refine wq_st (st' := []) rfl ?_
                refine wq_goto 149 rfl dX6_goThrough_140 ?_
                refine wq_aload_n 0 rfl rfl dX6_goThrough_149 ?_
                refine wq_getR fk_X6_39 tT_215 (fun _ _ _ => rfl) (sh_6_11 hS52) (by decide) dX6_goThrough_150 ?_
                refine wq_iload_n 1 rfl rfl dX6_goThrough_153 ?_
                refine wq_aload_n 0 rfl rfl dX6_goThrough_154 ?_
                refine wq_getI fk_X6_49 tT_215 (fun _ _ _ => rfl) dX6_goThrough_155 ?_
                refine wq_iast tT_340 q51.1.1 q51.1.2 dX6_goThrough_158 ?_
                refine wq_toph (fun h53 e54 => ?_)
                have sh53 : zSh h53 := zSh_of e54 hS52
                exact wp_vret rfl dX6_goThrough_159 (q51.2 h53 e54)
            · refine wq_aload_n 0 rfl rfl dX6_goThrough_107 ?_
              refine wq_dup rfl dX6_goThrough_108 ?_
              refine wq_getI fk_X6_49 tT_215 (fun _ _ _ => rfl) dX6_goThrough_109 ?_
              refine wq_aload_n 3 rfl rfl dX6_goThrough_112 ?_
              refine wq_getI fk_X6_97 (zitm (q4.1 c6).1 (zlt_n (q4.1 c6).2.1.1 (q4.1 c6).2.1.2)) (fun _ _ _ => rfl) dX6_goThrough_113 ?_
              refine wq_iadd ((((((((q4.1 c6).2.2.2 h7 e8).2 h9 e10).2 h11 e12).2 c13).2.1 c39).1 c40).2 c41).1 dX6_goThrough_116 ?_
              refine wq_putI fk_X6_49 tT_215 rfl rfl dX6_goThrough_117 ?_
              refine wq_toph (fun h55 e56 => ?_)
              have sh55 : zSh h55 := zSh_of e56 sh11
              refine wq_goto 149 rfl dX6_goThrough_120 ?_
              refine wq_aload_n 0 rfl rfl dX6_goThrough_149 ?_
              refine wq_getR fk_X6_39 tT_215 (fun _ _ _ => rfl) (sh_6_11 sh55) (by decide) dX6_goThrough_150 ?_
              refine wq_iload_n 1 rfl rfl dX6_goThrough_153 ?_
              refine wq_aload_n 0 rfl rfl dX6_goThrough_154 ?_
              refine wq_getI fk_X6_49 tT_215 (fun _ _ _ => rfl) dX6_goThrough_155 ?_
              refine wq_iast tT_340 (((((((((q4.1 c6).2.2.2 h7 e8).2 h9 e10).2 h11 e12).2 c13).2.1 c39).1 c40).2 c41).2 h55 e56).1.1 (((((((((q4.1 c6).2.2.2 h7 e8).2 h9 e10).2 h11 e12).2 c13).2.1 c39).1 c40).2 c41).2 h55 e56).1.2 dX6_goThrough_158 ?_
              refine wq_toph (fun h57 e58 => ?_)
              have sh57 : zSh h57 := zSh_of e58 sh55
              exact wp_vret rfl dX6_goThrough_159 ((((((((((q4.1 c6).2.2.2 h7 e8).2 h9 e10).2 h11 e12).2 c13).2.1 c39).1 c40).2 c41).2 h55 e56).2 h57 e58)
          · refine wq_aload_n 0 rfl rfl dX6_goThrough_89 ?_
            refine wq_iload_n 1 rfl rfl dX6_goThrough_90 ?_
            refine wq_iload_n 2 rfl rfl dX6_goThrough_91 ?_
            refine wN_V (As := [vI p1, vI p2]) vm_X6_repeatStructure lk_X6_94 tT_215 rfl rfl (Nat.le_of_ble_eq_true rfl) (Nat.le_of_ble_eq_true rfl) (d' := d - 1) (by omega) dX6_goThrough_92 (((((((q4.1 c6).2.2.2 h7 e8).2 h9 e10).2 h11 e12).2 c13).2.1 c39).2 c40) (fun v9 h60 q61 => ?_)
            obtain ⟨rfl, hS62, q61⟩ := q61
            refine wq_st (st' := []) rfl ?_
            refine wq_goto 149 rfl dX6_goThrough_95 ?_
            refine wq_aload_n 0 rfl rfl dX6_goThrough_149 ?_
            refine wq_getR fk_X6_39 tT_215 (fun _ _ _ => rfl) (sh_6_11 hS62) (by decide) dX6_goThrough_150 ?_
            refine wq_iload_n 1 rfl rfl dX6_goThrough_153 ?_
            refine wq_aload_n 0 rfl rfl dX6_goThrough_154 ?_
            refine wq_getI fk_X6_49 tT_215 (fun _ _ _ => rfl) dX6_goThrough_155 ?_
            refine wq_iast tT_340 q61.1.1 q61.1.2 dX6_goThrough_158 ?_
            refine wq_toph (fun h63 e64 => ?_)
            have sh63 : zSh h63 := zSh_of e64 hS62
            exact wp_vret rfl dX6_goThrough_159 (q61.2 h63 e64)
        · exact wp_vret rfl dX6_goThrough_80 ((((((q4.1 c6).2.2.2 h7 e8).2 h9 e10).2 h11 e12).2 c13).2.2 c39)
    · exact wp_vret rfl dX6_goThrough_16 (q4.2 c6)
theorem dX6_repeatStructure_0 : decode cX6_repeatStructure 0 = .ok (.aload_n 0, 1) := by decide +kernel
theorem dX6_repeatStructure_1 : decode cX6_repeatStructure 1 = .ok (.getfield 22, 3) := by decide +kernel
theorem dX6_repeatStructure_4 : decode cX6_repeatStructure 4 = .ok (.getfield 66, 3) := by decide +kernel
theorem dX6_repeatStructure_7 : decode cX6_repeatStructure 7 = .ok (.iload_n 1, 1) := by decide +kernel
theorem dX6_repeatStructure_8 : decode cX6_repeatStructure 8 = .ok (.aaload, 1) := by decide +kernel
theorem dX6_repeatStructure_9 : decode cX6_repeatStructure 9 = .ok (.astore_n 3, 1) := by decide +kernel
theorem dX6_repeatStructure_10 : decode cX6_repeatStructure 10 = .ok (.aload_n 0, 1) := by decide +kernel
theorem dX6_repeatStructure_11 : decode cX6_repeatStructure 11 = .ok (.aload_n 3, 1) := by decide +kernel
theorem dX6_repeatStructure_12 : decode cX6_repeatStructure 12 = .ok (.invokevirtual 107, 3) := by decide +kernel
theorem dX6_repeatStructure_15 : decode cX6_repeatStructure 15 = .ok (.istore 4, 2) := by decide +kernel
theorem dX6_repeatStructure_17 : decode cX6_repeatStructure 17 = .ok (.iconst 0, 1) := by decide +kernel
theorem dX6_repeatStructure_18 : decode cX6_repeatStructure 18 = .ok (.istore 5, 2) := by decide +kernel
theorem dX6_repeatStructure_20 : decode cX6_repeatStructure 20 = .ok (.iload 5, 2) := by decide +kernel
theorem dX6_repeatStructure_22 : decode cX6_repeatStructure 22 = .ok (.iload 4, 2) := by decide +kernel
theorem dX6_repeatStructure_24 : decode cX6_repeatStructure 24 = .ok (.if_icmp .ge 96, 3) := by decide +kernel
theorem dX6_repeatStructure_27 : decode cX6_repeatStructure 27 = .ok (.aload_n 0, 1) := by decide +kernel
theorem dX6_repeatStructure_28 : decode cX6_repeatStructure 28 = .ok (.invokevirtual 81, 3) := by decide +kernel
theorem dX6_repeatStructure_31 : decode cX6_repeatStructure 31 = .ok (.ifCond .eq 89, 3) := by decide +kernel
theorem dX6_repeatStructure_34 : decode cX6_repeatStructure 34 = .ok (.aload_n 0, 1) := by decide +kernel
theorem dX6_repeatStructure_35 : decode cX6_repeatStructure 35 = .ok (.getfield 28, 3) := by decide +kernel
theorem dX6_repeatStructure_38 : decode cX6_repeatStructure 38 = .ok (.iload_n 2, 1) := by decide +kernel
theorem dX6_repeatStructure_39 : decode cX6_repeatStructure 39 = .ok (.sipush 1000, 3) := by decide +kernel
theorem dX6_repeatStructure_42 : decode cX6_repeatStructure 42 = .ok (.iload 5, 2) := by decide +kernel
theorem dX6_repeatStructure_44 : decode cX6_repeatStructure 44 = .ok (.imul, 1) := by decide +kernel
theorem dX6_repeatStructure_45 : decode cX6_repeatStructure 45 = .ok (.aload_n 3, 1) := by decide +kernel
theorem dX6_repeatStructure_46 : decode cX6_repeatStructure 46 = .ok (.getfield 111, 3) := by decide +kernel
theorem dX6_repeatStructure_49 : decode cX6_repeatStructure 49 = .ok (.iadd, 1) := by decide +kernel
theorem dX6_repeatStructure_50 : decode cX6_repeatStructure 50 = .ok (.iastore, 1) := by decide +kernel
theorem dX6_repeatStructure_51 : decode cX6_repeatStructure 51 = .ok (.iload_n 1, 1) := by decide +kernel
theorem dX6_repeatStructure_52 : decode cX6_repeatStructure 52 = .ok (.iconst 1, 1) := by decide +kernel
theorem dX6_repeatStructure_53 : decode cX6_repeatStructure 53 = .ok (.iadd, 1) := by decide +kernel
theorem dX6_repeatStructure_54 : decode cX6_repeatStructure 54 = .ok (.istore 6, 2) := by decide +kernel
theorem dX6_repeatStructure_56 : decode cX6_repeatStructure 56 = .ok (.iload 6, 2) := by decide +kernel
theorem dX6_repeatStructure_58 : decode cX6_repeatStructure 58 = .ok (.aload_n 3, 1) := by decide +kernel
theorem dX6_repeatStructure_59 : decode cX6_repeatStructure 59 = .ok (.getfield 70, 3) := by decide +kernel
theorem dX6_repeatStructure_62 : decode cX6_repeatStructure 62 = .ok (.if_icmp .ge 44, 3) := by decide +kernel
theorem dX6_repeatStructure_65 : decode cX6_repeatStructure 65 = .ok (.aload_n 0, 1) := by decide +kernel
theorem dX6_repeatStructure_66 : decode cX6_repeatStructure 66 = .ok (.getfield 58, 3) := by decide +kernel
theorem dX6_repeatStructure_69 : decode cX6_repeatStructure 69 = .ok (.ifCond .ne 37, 3) := by decide +kernel
theorem dX6_repeatStructure_72 : decode cX6_repeatStructure 72 = .ok (.aload_n 0, 1) := by decide +kernel
theorem dX6_repeatStructure_73 : decode cX6_repeatStructure 73 = .ok (.iload 6, 2) := by decide +kernel
theorem dX6_repeatStructure_75 : decode cX6_repeatStructure 75 = .ok (.iload_n 2, 1) := by decide +kernel
theorem dX6_repeatStructure_76 : decode cX6_repeatStructure 76 = .ok (.iconst 1, 1) := by decide +kernel
theorem dX6_repeatStructure_77 : decode cX6_repeatStructure 77 = .ok (.iadd, 1) := by decide +kernel
theorem dX6_repeatStructure_78 : decode cX6_repeatStructure 78 = .ok (.invokevirtual 62, 3) := by decide +kernel
theorem dX6_repeatStructure_81 : decode cX6_repeatStructure 81 = .ok (.iload 6, 2) := by decide +kernel
theorem dX6_repeatStructure_83 : decode cX6_repeatStructure 83 = .ok (.iconst 1, 1) := by decide +kernel
theorem dX6_repeatStructure_84 : decode cX6_repeatStructure 84 = .ok (.iadd, 1) := by decide +kernel
theorem dX6_repeatStructure_85 : decode cX6_repeatStructure 85 = .ok (.aload_n 0, 1) := by decide +kernel
theorem dX6_repeatStructure_86 : decode cX6_repeatStructure 86 = .ok (.getfield 22, 3) := by decide +kernel
theorem dX6_repeatStructure_89 : decode cX6_repeatStructure 89 = .ok (.getfield 66, 3) := by decide +kernel
theorem dX6_repeatStructure_92 : decode cX6_repeatStructure 92 = .ok (.iload 6, 2) := by decide +kernel
theorem dX6_repeatStructure_94 : decode cX6_repeatStructure 94 = .ok (.aaload, 1) := by decide +kernel
theorem dX6_repeatStructure_95 : decode cX6_repeatStructure 95 = .ok (.getfield 70, 3) := by decide +kernel
theorem dX6_repeatStructure_98 : decode cX6_repeatStructure 98 = .ok (.invokestatic 75, 3) := by decide +kernel
theorem dX6_repeatStructure_101 : decode cX6_repeatStructure 101 = .ok (.istore 6, 2) := by decide +kernel
theorem dX6_repeatStructure_103 : decode cX6_repeatStructure 103 = .ok (.goto (-47), 3) := by decide +kernel
theorem dX6_repeatStructure_106 : decode cX6_repeatStructure 106 = .ok (.aload_n 0, 1) := by decide +kernel
theorem dX6_repeatStructure_107 : decode cX6_repeatStructure 107 = .ok (.getfield 58, 3) := by decide +kernel
theorem dX6_repeatStructure_110 : decode cX6_repeatStructure 110 = .ok (.ifCond .eq 4, 3) := by decide +kernel
theorem dX6_repeatStructure_113 : decode cX6_repeatStructure 113 = .ok (.return_, 1) := by decide +kernel
theorem dX6_repeatStructure_114 : decode cX6_repeatStructure 114 = .ok (.iinc 5 1, 3) := by decide +kernel
theorem dX6_repeatStructure_117 : decode cX6_repeatStructure 117 = .ok (.goto (-97), 3) := by decide +kernel
theorem dX6_repeatStructure_120 : decode cX6_repeatStructure 120 = .ok (.return_, 1) := by decide +kernel
theorem vc_X6_repeatStructure_0 {G : zG} {d : Nat} {Q : Option zV → zHp → Prop} (p1 : Int) (p2 : Int) (h : zHp) (hS : zSh h) (hd : 4 ≤ d) (I_20 : Int → Int → Nat → Int → Int → zHp → Prop) (hI_20 : ∀ (y1 : Int) (y2 : Int) (y3 : Nat) (y4 : Int) (y5 : Int) (h' : zHp), I_20 y1 y2 y3 y4 y5 h' → wpN G d M_X6_repeatStructure 20 [(0, vR 215), (1, vI y1), (2, vI y2), (3, vR y3), (4, vI y4), (5, vI y5)] [] h' Q) 
    (hv : (zT 369 (gR h 215 5) = (108, 2) ∧ (((0 : Int) ≤ p1 ∧ p1 < ((24 : Nat) : Int)) ∧ (wpN G (d - 1) M_X6_repetitionsOf 0 (zar 0 [vR 215, vR ((gR h 215 5) + 2 + p1.toNat)]) [] h (qI (fun z1 h2 => zSh h2 ∧ (zSh h2 → I_20 p1 p2 ((gR h 215 5) + 2 + p1.toNat) z1 0 h2))))))) : wpN G d M_X6_repeatStructure 0 [(0, vR 215), (1, vI p1), (2, vI p2)] [] h Q := by
  refine wq_aload_n 0 rfl rfl dX6_repeatStructure_0 ?_
  refine wq_getR fk_X6_22 tT_215 (fun _ _ _ => rfl) rfl (zT_nz hv.1 (by decide)) dX6_repeatStructure_1 ?_
  refine wq_getR (r := ((gR h 215 5) + 1)) fk_X6_66 hv.1 (fun _ _ _ => rfl) (sh_8_0 hS hv.1) (by omega) dX6_repeatStructure_4 ?_
  refine wq_iload_n 1 rfl rfl dX6_repeatStructure_7 ?_
  refine wq_aald (r := ((gR h 215 5) + 2 + p1.toNat)) (ztm0 hv.1) (by decide) (by decide) rfl hv.2.1.1 hv.2.1.2 (sh_itm hS hv.1 (zlt_n hv.2.1.1 hv.2.1.2)) (by omega) dX6_repeatStructure_8 ?_
  refine wq_astore_n (ls' := [(0, vR 215), (1, vI p1), (2, vI p2), (3, vR ((gR h 215 5) + 2 + p1.toNat))]) rfl (by decide) rfl dX6_repeatStructure_9 ?_
  refine wq_aload_n 0 rfl rfl dX6_repeatStructure_10 ?_
  refine wq_aload_n 3 rfl rfl dX6_repeatStructure_11 ?_
  refine wN_V (As := [vR ((gR h 215 5) + 2 + p1.toNat)]) vm_X6_repetitionsOf lk_X6_107 tT_215 rfl rfl (Nat.le_of_ble_eq_true rfl) (Nat.le_of_ble_eq_true rfl) (d' := d - 1) (by omega) dX6_repeatStructure_12 hv.2.2 (fun v9 h2 q3 => ?_)
  obtain ⟨z1, rfl, hS4, q3⟩ := q3
  refine wq_st (st' := [vI z1]) rfl ?_
  refine wq_istore (ls' := [(0, vR 215), (1, vI p1), (2, vI p2), (3, vR ((gR h 215 5) + 2 + p1.toNat)), (4, vI z1)]) (by decide) rfl dX6_repeatStructure_15 ?_
  refine wq_iconst (z := 0) (zlit rfl) dX6_repeatStructure_17 ?_
  refine wq_istore (ls' := [(0, vR 215), (1, vI p1), (2, vI p2), (3, vR ((gR h 215 5) + 2 + p1.toNat)), (4, vI z1), (5, vI 0)]) (by decide) rfl dX6_repeatStructure_18 ?_
  exact wq_pick [0, 1, 2, 3, 4, 5] rfl (hI_20 p1 p2 ((gR h 215 5) + 2 + p1.toNat) z1 0 h2 (q3 hS4))
theorem vc_X6_repeatStructure_20 {G : zG} {d : Nat} {Q : Option zV → zHp → Prop} (y1 : Int) (y2 : Int) (y3 : Nat) (hT_y3 : zT 369 y3 = (105, 13)) (y4 : Int) (y5 : Int) (h : zHp) (hS : zSh h) (hd : 4 ≤ d) (I_56 : Int → Int → Nat → Int → Int → Int → zHp → Prop) (hI_56 : ∀ (y1 : Int) (y2 : Int) (y3 : Nat) (y4 : Int) (y5 : Int) (y6 : Int) (h' : zHp), I_56 y1 y2 y3 y4 y5 y6 h' → wpN G d M_X6_repeatStructure 56 [(0, vR 215), (1, vI y1), (2, vI y2), (3, vR y3), (4, vI y4), (5, vI y5), (6, vI y6)] [] h' Q) 
    (hv : ((y4 ≤ y5 → Q none h) ∧ (y5 < y4 → (wpN G (d - 1) M_X6_makeStep 0 (zar 0 [vR 215]) [] h (qI (fun z2 h3 => zSh h3 ∧ ((z2 = 0 → Q none h3) ∧ (z2 ≠ 0 → ((-2147483648 ≤ 1000 * y5 ∧ 1000 * y5 ≤ 2147483647) ∧ ((-2147483648 ≤ (1000 * y5) + (gI h3 y3 1) ∧ (1000 * y5) + (gI h3 y3 1) ≤ 2147483647) ∧ (((0 : Int) ≤ y2 ∧ y2 < ((4 : Nat) : Int)) ∧ (∀ h7 : zHp, h7 = sI h3 337 y2.toNat ((1000 * y5) + (gI h3 y3 1)) → ((-2147483648 ≤ y1 + 1 ∧ y1 + 1 ≤ 2147483647) ∧ (∀ x9 : Int, x9 = (y1 + 1) → (zSh h7 → I_56 y1 y2 y3 y4 y5 x9 h7))))))))))))))) : wpN G d M_X6_repeatStructure 20 [(0, vR 215), (1, vI y1), (2, vI y2), (3, vR y3), (4, vI y4), (5, vI y5)] [] h Q := by
  refine wq_iload 5 rfl dX6_repeatStructure_20 ?_
  refine wq_iload 4 rfl dX6_repeatStructure_22 ?_
  refine wq_icmp_ge 120 rfl dX6_repeatStructure_24 (fun c1 => ?_) (fun c1 => ?_)
  · exact wp_vret rfl dX6_repeatStructure_120 (hv.1 c1)
  · refine wq_aload_n 0 rfl rfl dX6_repeatStructure_27 ?_
    refine wN_V (As := []) vm_X6_makeStep lk_X6_81 tT_215 rfl rfl (Nat.le_of_ble_eq_true rfl) (Nat.le_of_ble_eq_true rfl) (d' := d - 1) (by omega) dX6_repeatStructure_28 (hv.2 c1) (fun v9 h3 q4 => ?_)
    obtain ⟨z2, rfl, hS5, q4⟩ := q4
    refine wq_st (st' := [vI z2]) rfl ?_
    refine wq_if_eq 120 rfl dX6_repeatStructure_31 (fun c6 => ?_) (fun c6 => ?_)
    · exact wp_vret rfl dX6_repeatStructure_120 (q4.1 c6)
    · refine wq_aload_n 0 rfl rfl dX6_repeatStructure_34 ?_
      refine wq_getR fk_X6_28 tT_215 (fun _ _ _ => rfl) (sh_6_8 hS5) (by decide) dX6_repeatStructure_35 ?_
      refine wq_iload_n 2 rfl rfl dX6_repeatStructure_38 ?_
      refine wq_sipush (z := 1000) (zlit rfl) rfl dX6_repeatStructure_39 ?_
      refine wq_iload 5 rfl dX6_repeatStructure_42 ?_
      refine wq_imul (q4.2 c6).1 dX6_repeatStructure_44 ?_
      refine wq_aload_n 3 rfl rfl dX6_repeatStructure_45 ?_
      refine wq_getI fk_X6_111 hT_y3 (fun _ _ _ => rfl) dX6_repeatStructure_46 ?_
      refine wq_iadd (q4.2 c6).2.1 dX6_repeatStructure_49 ?_
      refine wq_iast tT_337 (q4.2 c6).2.2.1.1 (q4.2 c6).2.2.1.2 dX6_repeatStructure_50 ?_
      refine wq_toph (fun h7 e8 => ?_)
      have sh7 : zSh h7 := zSh_of e8 hS5
      refine wq_iload_n 1 rfl rfl dX6_repeatStructure_51 ?_
      refine wq_iconst (z := 1) (zlit rfl) dX6_repeatStructure_52 ?_
      refine wq_iadd ((q4.2 c6).2.2.2 h7 e8).1 dX6_repeatStructure_53 ?_
      refine wq_topI (fun x9 e10 => ?_)
      refine wq_istore (ls' := [(0, vR 215), (1, vI y1), (2, vI y2), (3, vR y3), (4, vI y4), (5, vI y5), (6, vI x9)]) (by decide) rfl dX6_repeatStructure_54 ?_
      exact wq_pick [0, 1, 2, 3, 4, 5, 6] rfl (hI_56 y1 y2 y3 y4 y5 x9 h7 ((((q4.2 c6).2.2.2 h7 e8).2 x9 e10) sh7))
theorem vc_X6_repeatStructure_56 {G : zG} {d : Nat} {Q : Option zV → zHp → Prop} (y1 : Int) (y2 : Int) (y3 : Nat) (hT_y3 : zT 369 y3 = (105, 13)) (y4 : Int) (y5 : Int) (y6 : Int) (h : zHp) (hS : zSh h) (hd : 4 ≤ d) (I_20 : Int → Int → Nat → Int → Int → zHp → Prop) (hI_20 : ∀ (y1 : Int) (y2 : Int) (y3 : Nat) (y4 : Int) (y5 : Int) (h' : zHp), I_20 y1 y2 y3 y4 y5 h' → wpN G d M_X6_repeatStructure 20 [(0, vR 215), (1, vI y1), (2, vI y2), (3, vR y3), (4, vI y4), (5, vI y5)] [] h' Q) (I_56 : Int → Int → Nat → Int → Int → Int → zHp → Prop) (hI_56 : ∀ (y1 : Int) (y2 : Int) (y3 : Nat) (y4 : Int) (y5 : Int) (y6 : Int) (h' : zHp), I_56 y1 y2 y3 y4 y5 y6 h' → wpN G d M_X6_repeatStructure 56 [(0, vR 215), (1, vI y1), (2, vI y2), (3, vR y3), (4, vI y4), (5, vI y5), (6, vI y6)] [] h' Q) 
    (hv : (((gI h y3 5) ≤ y6 → (((gI h 215 2) = 0 → ((-2147483648 ≤ y5 + 1 ∧ y5 + 1 ≤ 2147483647) ∧ ∀ x3 : Int, x3 = y5 + 1 → (zSh h → I_20 y1 y2 y3 y4 x3 h))) ∧ ((gI h 215 2) ≠ 0 → Q none h))) ∧ (y6 < (gI h y3 5) → (((gI h 215 2) ≠ 0 → (((gI h 215 2) = 0 → ((-2147483648 ≤ y5 + 1 ∧ y5 + 1 ≤ 2147483647) ∧ ∀ x7 : Int, x7 = y5 + 1 → (zSh h → I_20 y1 y2 y3 y4 x7 h))) ∧ ((gI h 215 2) ≠ 0 → Q none h))) ∧ ((gI h 215 2) = 0 → ((-2147483648 ≤ y2 + 1 ∧ y2 + 1 ≤ 2147483647) ∧ (wpN G (d - 1) M_X6_goThrough 0 (zar 0 [vR 215, vI y6, vI (y2 + 1)]) [] h (qV (fun h10 => zSh h10 ∧ ((-2147483648 ≤ y6 + 1 ∧ y6 + 1 ≤ 2147483647) ∧ (zT 369 (gR h10 215 5) = (108, 2) ∧ (((0 : Int) ≤ y6 ∧ y6 < ((24 : Nat) : Int)) ∧ (wpN G (d - 1) M_J9_max_7cf53 0 (zar 0 [vI (y6 + 1), vI (gI h10 ((gR h10 215 5) + 2 + y6.toNat) 5)]) [] h10 (qI (fun z13 h14 => zSh h14 ∧ (zSh h14 → I_56 y1 y2 y3 y4 y5 z13 h14)))))))))))))))) : wpN G d M_X6_repeatStructure 56 [(0, vR 215), (1, vI y1), (2, vI y2), (3, vR y3), (4, vI y4), (5, vI y5), (6, vI y6)] [] h Q := by
  refine wq_iload 6 rfl dX6_repeatStructure_56 ?_
  refine wq_aload_n 3 rfl rfl dX6_repeatStructure_58 ?_
  refine wq_getI fk_X6_70 hT_y3 (fun _ _ _ => rfl) dX6_repeatStructure_59 ?_
  refine wq_icmp_ge 106 rfl dX6_repeatStructure_62 (fun c1 => ?_) (fun c1 => ?_)
  · refine wq_aload_n 0 rfl rfl dX6_repeatStructure_106 ?_
    refine wq_getI fk_X6_58 tT_215 (fun _ _ _ => rfl) dX6_repeatStructure_107 ?_
    refine wq_if_eq 114 rfl dX6_repeatStructure_110 (fun c2 => ?_) (fun c2 => ?_)
    · refine z_nm (y5 + 1) (fun x3 e4 => ?_)
      refine wq_iinc (y := x3) (ls' := [(0, vR 215), (1, vI y1), (2, vI y2), (3, vR y3), (4, vI y4), (5, vI x3), (6, vI y6)]) 5 rfl e4.symm (by rw [e4]; exact ((hv.1 c1).1 c2).1) (by decide) rfl dX6_repeatStructure_114 ?_
      refine wq_goto 20 rfl dX6_repeatStructure_117 ?_
      exact wq_pick [0, 1, 2, 3, 4, 5] rfl (hI_20 y1 y2 y3 y4 x3 h ((((hv.1 c1).1 c2).2 x3 e4) hS))
    · exact wp_vret rfl dX6_repeatStructure_113 ((hv.1 c1).2 c2)
  · refine wq_aload_n 0 rfl rfl dX6_repeatStructure_65 ?_
    refine wq_getI fk_X6_58 tT_215 (fun _ _ _ => rfl) dX6_repeatStructure_66 ?_
    refine wq_if_ne 106 rfl dX6_repeatStructure_69 (fun c5 => ?_) (fun c5 => ?_)
    · refine wq_aload_n 0 rfl rfl dX6_repeatStructure_106 ?_
      refine wq_getI fk_X6_58 tT_215 (fun _ _ _ => rfl) dX6_repeatStructure_107 ?_
      refine wq_if_eq 114 rfl dX6_repeatStructure_110 (fun c6 => ?_) (fun c6 => ?_)
      · refine z_nm (y5 + 1) (fun x7 e8 => ?_)
        refine wq_iinc (y := x7) (ls' := [(0, vR 215), (1, vI y1), (2, vI y2), (3, vR y3), (4, vI y4), (5, vI x7), (6, vI y6)]) 5 rfl e8.symm (by rw [e8]; exact (((hv.2 c1).1 c5).1 c6).1) (by decide) rfl dX6_repeatStructure_114 ?_
        refine wq_goto 20 rfl dX6_repeatStructure_117 ?_
        exact wq_pick [0, 1, 2, 3, 4, 5] rfl (hI_20 y1 y2 y3 y4 x7 h (((((hv.2 c1).1 c5).1 c6).2 x7 e8) hS))
      · exact wp_vret rfl dX6_repeatStructure_113 (((hv.2 c1).1 c5).2 c6)
    · refine wq_aload_n 0 rfl rfl dX6_repeatStructure_72 ?_
      refine wq_iload 6 rfl dX6_repeatStructure_73 ?_
      refine wq_iload_n 2 rfl rfl dX6_repeatStructure_75 ?_
      refine wq_iconst (z := 1) (zlit rfl) dX6_repeatStructure_76 ?_
      refine wq_iadd ((hv.2 c1).2 c5).1 dX6_repeatStructure_77 ?_
      refine wN_V (As := [vI y6, vI (y2 + 1)]) vm_X6_goThrough lk_X6_62 tT_215 rfl rfl (Nat.le_of_ble_eq_true rfl) (Nat.le_of_ble_eq_true rfl) (d' := d - 1) (by omega) dX6_repeatStructure_78 ((hv.2 c1).2 c5).2 (fun v9 h10 q11 => ?_)
      obtain ⟨rfl, hS12, q11⟩ := q11
      refine wq_st (st' := []) rfl ?_
      refine wq_iload 6 rfl dX6_repeatStructure_81 ?_
      refine wq_iconst (z := 1) (zlit rfl) dX6_repeatStructure_83 ?_
      refine wq_iadd q11.1 dX6_repeatStructure_84 ?_
      refine wq_aload_n 0 rfl rfl dX6_repeatStructure_85 ?_
      refine wq_getR fk_X6_22 tT_215 (fun _ _ _ => rfl) rfl (zT_nz q11.2.1 (by decide)) dX6_repeatStructure_86 ?_
      refine wq_getR (r := ((gR h10 215 5) + 1)) fk_X6_66 q11.2.1 (fun _ _ _ => rfl) (sh_8_0 hS12 q11.2.1) (by omega) dX6_repeatStructure_89 ?_
      refine wq_iload 6 rfl dX6_repeatStructure_92 ?_
      refine wq_aald (r := ((gR h10 215 5) + 2 + y6.toNat)) (ztm0 q11.2.1) (by decide) (by decide) rfl q11.2.2.1.1 q11.2.2.1.2 (sh_itm hS12 q11.2.1 (zlt_n q11.2.2.1.1 q11.2.2.1.2)) (by omega) dX6_repeatStructure_94 ?_
      refine wq_getI fk_X6_70 (zitm q11.2.1 (zlt_n q11.2.2.1.1 q11.2.2.1.2)) (fun _ _ _ => rfl) dX6_repeatStructure_95 ?_
      refine wN_S (As := [vI (y6 + 1), vI (gI h10 ((gR h10 215 5) + 2 + y6.toNat) 5)]) md_J9_max_7cf53 ms_J9_max_7cf53 lk_X6_75 rfl rfl (Nat.le_of_ble_eq_true rfl) (Nat.le_of_ble_eq_true rfl) (d' := d - 1) (by omega) dX6_repeatStructure_98 q11.2.2.2 (fun v9 h14 q15 => ?_)
      obtain ⟨z13, rfl, hS16, q15⟩ := q15
      refine wq_st (st' := [vI z13]) rfl ?_
      refine wq_istore (ls' := [(0, vR 215), (1, vI y1), (2, vI y2), (3, vR y3), (4, vI y4), (5, vI y5), (6, vI z13)]) (by decide) rfl dX6_repeatStructure_101 ?_
      refine wq_goto 56 rfl dX6_repeatStructure_103 ?_
      exact wq_pick [0, 1, 2, 3, 4, 5, 6] rfl (hI_56 y1 y2 y3 y4 y5 z13 h14 (q15 hS16))
theorem dX6_repetitionsOf_0 : decode cX6_repetitionsOf 0 = .ok (.aload_n 1, 1) := by decide +kernel
theorem dX6_repetitionsOf_1 : decode cX6_repetitionsOf 1 = .ok (.getfield 114, 3) := by decide +kernel
theorem dX6_repetitionsOf_4 : decode cX6_repetitionsOf 4 = .ok (.ifCond .ne 5, 3) := by decide +kernel
theorem dX6_repetitionsOf_7 : decode cX6_repetitionsOf 7 = .ok (.iconst 1, 1) := by decide +kernel
theorem dX6_repetitionsOf_8 : decode cX6_repetitionsOf 8 = .ok (.ireturn, 1) := by decide +kernel
theorem dX6_repetitionsOf_9 : decode cX6_repetitionsOf 9 = .ok (.aload_n 1, 1) := by decide +kernel
theorem dX6_repetitionsOf_10 : decode cX6_repetitionsOf 10 = .ok (.getfield 118, 3) := by decide +kernel
theorem dX6_repetitionsOf_13 : decode cX6_repetitionsOf 13 = .ok (.iconst (-1), 1) := by decide +kernel
theorem dX6_repetitionsOf_14 : decode cX6_repetitionsOf 14 = .ok (.if_icmp .ne 8, 3) := by decide +kernel
theorem dX6_repetitionsOf_17 : decode cX6_repetitionsOf 17 = .ok (.aload_n 1, 1) := by decide +kernel
theorem dX6_repetitionsOf_18 : decode cX6_repetitionsOf 18 = .ok (.getfield 97, 3) := by decide +kernel
theorem dX6_repetitionsOf_21 : decode cX6_repetitionsOf 21 = .ok (.ireturn, 1) := by decide +kernel
theorem dX6_repetitionsOf_22 : decode cX6_repetitionsOf 22 = .ok (.lconst 0, 1) := by decide +kernel
theorem dX6_repetitionsOf_23 : decode cX6_repetitionsOf 23 = .ok (.ldc2_w 121, 3) := by decide +kernel
theorem dX6_repetitionsOf_26 : decode cX6_repetitionsOf 26 = .ok (.aload_n 0, 1) := by decide +kernel
theorem dX6_repetitionsOf_27 : decode cX6_repetitionsOf 27 = .ok (.getfield 32, 3) := by decide +kernel
theorem dX6_repetitionsOf_30 : decode cX6_repetitionsOf 30 = .ok (.aload_n 1, 1) := by decide +kernel
theorem dX6_repetitionsOf_31 : decode cX6_repetitionsOf 31 = .ok (.getfield 118, 3) := by decide +kernel
theorem dX6_repetitionsOf_34 : decode cX6_repetitionsOf 34 = .ok (.laload, 1) := by decide +kernel
theorem dX6_repetitionsOf_35 : decode cX6_repetitionsOf 35 = .ok (.invokestatic 123, 3) := by decide +kernel
theorem dX6_repetitionsOf_38 : decode cX6_repetitionsOf 38 = .ok (.invokestatic 127, 3) := by decide +kernel
theorem dX6_repetitionsOf_41 : decode cX6_repetitionsOf 41 = .ok (.l2i, 1) := by decide +kernel
theorem dX6_repetitionsOf_42 : decode cX6_repetitionsOf 42 = .ok (.ireturn, 1) := by decide +kernel
theorem vc_X6_repetitionsOf_0 {G : zG} {d : Nat} {Q : Option zV → zHp → Prop} (p1 : Nat) (hT_p1 : zT 369 p1 = (105, 13)) (h : zHp) (hS : zSh h) (hd : 1 ≤ d)  
    (hv : (((gI h p1 8) ≠ 0 → (((gI h p1 9) ≠ (-1) → (((0 : Int) ≤ (gI h p1 9) ∧ (gI h p1 9) < ((24 : Nat) : Int)) ∧ (wpN G (d - 1) M_J9_min_f86c9 0 (zar 0 [vL 999, vL (gL h 338 (gI h p1 9).toNat)]) [] h (qL (fun z3 h4 => zSh h4 ∧ (wpN G (d - 1) M_J9_max_f86c9 0 (zar 0 [vL 0, vL z3]) [] h4 (qL (fun z7 h8 => zSh h8 ∧ Q (some (vI (w32 z7))) h8)))))))) ∧ ((gI h p1 9) = (-1) → Q (some (vI (gI h p1 10))) h))) ∧ ((gI h p1 8) = 0 → Q (some (vI 1)) h))) : wpN G d M_X6_repetitionsOf 0 [(0, vR 215), (1, vR p1)] [] h Q := by
  refine wq_aload_n 1 rfl rfl dX6_repetitionsOf_0 ?_
  refine wq_getI fk_X6_114 hT_p1 (fun _ _ _ => rfl) dX6_repetitionsOf_1 ?_
  refine wq_if_ne 9 rfl dX6_repetitionsOf_4 (fun c1 => ?_) (fun c1 => ?_)
  · refine wq_aload_n 1 rfl rfl dX6_repetitionsOf_9 ?_
    refine wq_getI fk_X6_118 hT_p1 (fun _ _ _ => rfl) dX6_repetitionsOf_10 ?_
    refine wq_iconst (z := -1) (zlit rfl) dX6_repetitionsOf_13 ?_
    refine wq_icmp_ne 22 rfl dX6_repetitionsOf_14 (fun c2 => ?_) (fun c2 => ?_)
    · refine wq_lconst (z := 0) (zlitL rfl) rfl dX6_repetitionsOf_22 ?_
      refine wq_ldc2_w (z := 999) (zlitL rfl) kc_X6_121 dX6_repetitionsOf_23 ?_
      refine wq_aload_n 0 rfl rfl dX6_repetitionsOf_26 ?_
      refine wq_getR fk_X6_32 tT_215 (fun _ _ _ => rfl) (sh_6_9 hS) (by decide) dX6_repetitionsOf_27 ?_
      refine wq_aload_n 1 rfl rfl dX6_repetitionsOf_30 ?_
      refine wq_getI fk_X6_118 hT_p1 (fun _ _ _ => rfl) dX6_repetitionsOf_31 ?_
      refine wq_lald tT_338 ((hv.1 c1).1 c2).1.1 ((hv.1 c1).1 c2).1.2 dX6_repetitionsOf_34 ?_
      refine wN_S (As := [vL 999, vL (gL h 338 (gI h p1 9).toNat)]) md_J9_min_f86c9 ms_J9_min_f86c9 lk_X6_123 rfl rfl (Nat.le_of_ble_eq_true rfl) (Nat.le_of_ble_eq_true rfl) (d' := d - 1) (by omega) dX6_repetitionsOf_35 ((hv.1 c1).1 c2).2 (fun v9 h4 q5 => ?_)
      obtain ⟨z3, rfl, hS6, q5⟩ := q5
      refine wq_st (st' := [vL z3, vL 0]) rfl ?_
      refine wN_S (As := [vL 0, vL z3]) md_J9_max_f86c9 ms_J9_max_f86c9 lk_X6_127 rfl rfl (Nat.le_of_ble_eq_true rfl) (Nat.le_of_ble_eq_true rfl) (d' := d - 1) (by omega) dX6_repetitionsOf_38 q5 (fun v9 h8 q9 => ?_)
      obtain ⟨z7, rfl, hS10, q9⟩ := q9
      refine wq_st (st' := [vL z7]) rfl ?_
      refine wq_l2i dX6_repetitionsOf_41 ?_
      exact wp_iret rfl dX6_repetitionsOf_42 q9
    · refine wq_aload_n 1 rfl rfl dX6_repetitionsOf_17 ?_
      refine wq_getI fk_X6_97 hT_p1 (fun _ _ _ => rfl) dX6_repetitionsOf_18 ?_
      exact wp_iret rfl dX6_repetitionsOf_21 ((hv.1 c1).2 c2)
  · refine wq_iconst (z := 1) (zlit rfl) dX6_repetitionsOf_7 ?_
    exact wp_iret rfl dX6_repetitionsOf_8 (hv.2 c1)
theorem dX6_align_0 : decode cX6_align 0 = .ok (.iload_n 1, 1) := by decide +kernel
theorem dX6_align_1 : decode cX6_align 1 = .ok (.ifCond .le 17, 3) := by decide +kernel
theorem dX6_align_4 : decode cX6_align 4 = .ok (.aload_n 0, 1) := by decide +kernel
theorem dX6_align_5 : decode cX6_align 5 = .ok (.getfield 49, 3) := by decide +kernel
theorem dX6_align_8 : decode cX6_align 8 = .ok (.aload_n 0, 1) := by decide +kernel
theorem dX6_align_9 : decode cX6_align 9 = .ok (.getfield 45, 3) := by decide +kernel
theorem dX6_align_12 : decode cX6_align 12 = .ok (.isub, 1) := by decide +kernel
theorem dX6_align_13 : decode cX6_align 13 = .ok (.iload_n 1, 1) := by decide +kernel
theorem dX6_align_14 : decode cX6_align 14 = .ok (.irem, 1) := by decide +kernel
theorem dX6_align_15 : decode cX6_align 15 = .ok (.goto 4, 3) := by decide +kernel
theorem dX6_align_18 : decode cX6_align 18 = .ok (.iconst 0, 1) := by decide +kernel
theorem dX6_align_19 : decode cX6_align 19 = .ok (.istore_n 2, 1) := by decide +kernel
theorem dX6_align_20 : decode cX6_align 20 = .ok (.iload_n 2, 1) := by decide +kernel
theorem dX6_align_21 : decode cX6_align 21 = .ok (.ifCond .le 15, 3) := by decide +kernel
theorem dX6_align_24 : decode cX6_align 24 = .ok (.aload_n 0, 1) := by decide +kernel
theorem dX6_align_25 : decode cX6_align 25 = .ok (.dup, 1) := by decide +kernel
theorem dX6_align_26 : decode cX6_align 26 = .ok (.getfield 49, 3) := by decide +kernel
theorem dX6_align_29 : decode cX6_align 29 = .ok (.iload_n 1, 1) := by decide +kernel
theorem dX6_align_30 : decode cX6_align 30 = .ok (.iload_n 2, 1) := by decide +kernel
theorem dX6_align_31 : decode cX6_align 31 = .ok (.isub, 1) := by decide +kernel
theorem dX6_align_32 : decode cX6_align 32 = .ok (.iadd, 1) := by decide +kernel
theorem dX6_align_33 : decode cX6_align 33 = .ok (.putfield 49, 3) := by decide +kernel
theorem dX6_align_36 : decode cX6_align 36 = .ok (.return_, 1) := by decide +kernel
theorem vc_X6_align_0 {G : zG} {d : Nat} {Q : Option zV → zHp → Prop} (p1 : Int) (h : zHp) (hS : zSh h) (hd : 0 ≤ d)  
    (hv : ((p1 ≤ 0 → Q none h) ∧ (0 < p1 → ((-2147483648 ≤ (gI h 215 3) - (gI h 215 6) ∧ (gI h 215 3) - (gI h 215 6) ≤ 2147483647) ∧ ((0 < p1) ∧ (∀ x3 : Int, x3 = (((gI h 215 3) - (gI h 215 6)).tmod p1) → ((x3 ≤ 0 → Q none h) ∧ (0 < x3 → ((-2147483648 ≤ p1 - x3 ∧ p1 - x3 ≤ 2147483647) ∧ ((-2147483648 ≤ (gI h 215 3) + (p1 - x3) ∧ (gI h 215 3) + (p1 - x3) ≤ 2147483647) ∧ (∀ h6 : zHp, h6 = sI h 215 3 ((gI h 215 3) + (p1 - x3)) → Q none h6))))))))))) : wpN G d M_X6_align 0 [(0, vR 215), (1, vI p1)] [] h Q := by
  refine wq_iload_n 1 rfl rfl dX6_align_0 ?_
  refine wq_if_le 18 rfl dX6_align_1 (fun c1 => ?_) (fun c1 => ?_)
  · refine wq_iconst (z := 0) (zlit rfl) dX6_align_18 ?_
    refine wq_istore_n (ls' := [(0, vR 215), (1, vI p1), (2, vI 0)]) rfl (by decide) rfl dX6_align_19 ?_
    refine wq_iload_n 2 rfl rfl dX6_align_20 ?_
    refine wq_if_le 36 rfl dX6_align_21 (fun _ => ?_) (fun c2 => absurd c2 (by decide))
    exact wp_vret rfl dX6_align_36 (hv.1 c1)
  · refine wq_aload_n 0 rfl rfl dX6_align_4 ?_
    refine wq_getI fk_X6_49 tT_215 (fun _ _ _ => rfl) dX6_align_5 ?_
    refine wq_aload_n 0 rfl rfl dX6_align_8 ?_
    refine wq_getI fk_X6_45 tT_215 (fun _ _ _ => rfl) dX6_align_9 ?_
    refine wq_isub (hv.2 c1).1 dX6_align_12 ?_
    refine wq_iload_n 1 rfl rfl dX6_align_13 ?_
    refine wq_irem (hv.2 c1).2.1 dX6_align_14 ?_
    refine wq_goto 19 rfl dX6_align_15 ?_
    refine wq_topI (fun x3 e4 => ?_)
    refine wq_istore_n (ls' := [(0, vR 215), (1, vI p1), (2, vI x3)]) rfl (by decide) rfl dX6_align_19 ?_
    refine wq_iload_n 2 rfl rfl dX6_align_20 ?_
    refine wq_if_le 36 rfl dX6_align_21 (fun c5 => ?_) (fun c5 => ?_)
    · exact wp_vret rfl dX6_align_36 (((hv.2 c1).2.2 x3 e4).1 c5)
    · refine wq_aload_n 0 rfl rfl dX6_align_24 ?_
      refine wq_dup rfl dX6_align_25 ?_
      refine wq_getI fk_X6_49 tT_215 (fun _ _ _ => rfl) dX6_align_26 ?_
      refine wq_iload_n 1 rfl rfl dX6_align_29 ?_
      refine wq_iload_n 2 rfl rfl dX6_align_30 ?_
      refine wq_isub (((hv.2 c1).2.2 x3 e4).2 c5).1 dX6_align_31 ?_
      refine wq_iadd (((hv.2 c1).2.2 x3 e4).2 c5).2.1 dX6_align_32 ?_
      refine wq_putI fk_X6_49 tT_215 rfl rfl dX6_align_33 ?_
      refine wq_toph (fun h6 e7 => ?_)
      have sh6 : zSh h6 := zSh_of e7 hS
      exact wp_vret rfl dX6_align_36 ((((hv.2 c1).2.2 x3 e4).2 c5).2.2 h6 e7)
theorem dX6_layFields_0 : decode cX6_layFields 0 = .ok (.aload_n 0, 1) := by decide +kernel
theorem dX6_layFields_1 : decode cX6_layFields 1 = .ok (.getfield 22, 3) := by decide +kernel
theorem dX6_layFields_4 : decode cX6_layFields 4 = .ok (.getfield 66, 3) := by decide +kernel
theorem dX6_layFields_7 : decode cX6_layFields 7 = .ok (.iload_n 1, 1) := by decide +kernel
theorem dX6_layFields_8 : decode cX6_layFields 8 = .ok (.aaload, 1) := by decide +kernel
theorem dX6_layFields_9 : decode cX6_layFields 9 = .ok (.astore_n 3, 1) := by decide +kernel
theorem dX6_layFields_10 : decode cX6_layFields 10 = .ok (.aload_n 0, 1) := by decide +kernel
theorem dX6_layFields_11 : decode cX6_layFields 11 = .ok (.aload_n 3, 1) := by decide +kernel
theorem dX6_layFields_12 : decode cX6_layFields 12 = .ok (.invokevirtual 107, 3) := by decide +kernel
theorem dX6_layFields_15 : decode cX6_layFields 15 = .ok (.istore 4, 2) := by decide +kernel
theorem dX6_layFields_17 : decode cX6_layFields 17 = .ok (.iconst 0, 1) := by decide +kernel
theorem dX6_layFields_18 : decode cX6_layFields 18 = .ok (.istore 5, 2) := by decide +kernel
theorem dX6_layFields_20 : decode cX6_layFields 20 = .ok (.iload 5, 2) := by decide +kernel
theorem dX6_layFields_22 : decode cX6_layFields 22 = .ok (.iload 4, 2) := by decide +kernel
theorem dX6_layFields_24 : decode cX6_layFields 24 = .ok (.if_icmp .ge 39, 3) := by decide +kernel
theorem dX6_layFields_27 : decode cX6_layFields 27 = .ok (.aload_n 0, 1) := by decide +kernel
theorem dX6_layFields_28 : decode cX6_layFields 28 = .ok (.getfield 58, 3) := by decide +kernel
theorem dX6_layFields_31 : decode cX6_layFields 31 = .ok (.ifCond .ne 32, 3) := by decide +kernel
theorem dX6_layFields_34 : decode cX6_layFields 34 = .ok (.aload_n 0, 1) := by decide +kernel
theorem dX6_layFields_35 : decode cX6_layFields 35 = .ok (.getfield 28, 3) := by decide +kernel
theorem dX6_layFields_38 : decode cX6_layFields 38 = .ok (.iload_n 2, 1) := by decide +kernel
theorem dX6_layFields_39 : decode cX6_layFields 39 = .ok (.sipush 1000, 3) := by decide +kernel
theorem dX6_layFields_42 : decode cX6_layFields 42 = .ok (.iload 5, 2) := by decide +kernel
theorem dX6_layFields_44 : decode cX6_layFields 44 = .ok (.imul, 1) := by decide +kernel
theorem dX6_layFields_45 : decode cX6_layFields 45 = .ok (.aload_n 3, 1) := by decide +kernel
theorem dX6_layFields_46 : decode cX6_layFields 46 = .ok (.getfield 111, 3) := by decide +kernel
theorem dX6_layFields_49 : decode cX6_layFields 49 = .ok (.iadd, 1) := by decide +kernel
theorem dX6_layFields_50 : decode cX6_layFields 50 = .ok (.iastore, 1) := by decide +kernel
theorem dX6_layFields_51 : decode cX6_layFields 51 = .ok (.aload_n 0, 1) := by decide +kernel
theorem dX6_layFields_52 : decode cX6_layFields 52 = .ok (.aload_n 3, 1) := by decide +kernel
theorem dX6_layFields_53 : decode cX6_layFields 53 = .ok (.iload_n 2, 1) := by decide +kernel
theorem dX6_layFields_54 : decode cX6_layFields 54 = .ok (.invokevirtual 129, 3) := by decide +kernel
theorem dX6_layFields_57 : decode cX6_layFields 57 = .ok (.iinc 5 1, 3) := by decide +kernel
theorem dX6_layFields_60 : decode cX6_layFields 60 = .ok (.goto (-40), 3) := by decide +kernel
theorem dX6_layFields_63 : decode cX6_layFields 63 = .ok (.aload_n 3, 1) := by decide +kernel
theorem dX6_layFields_64 : decode cX6_layFields 64 = .ok (.invokevirtual 133, 3) := by decide +kernel
theorem dX6_layFields_67 : decode cX6_layFields 67 = .ok (.ifCond .eq 41, 3) := by decide +kernel
theorem dX6_layFields_70 : decode cX6_layFields 70 = .ok (.aload_n 0, 1) := by decide +kernel
theorem dX6_layFields_71 : decode cX6_layFields 71 = .ok (.getfield 58, 3) := by decide +kernel
theorem dX6_layFields_74 : decode cX6_layFields 74 = .ok (.ifCond .ne 34, 3) := by decide +kernel
theorem dX6_layFields_77 : decode cX6_layFields 77 = .ok (.aload_n 0, 1) := by decide +kernel
theorem dX6_layFields_78 : decode cX6_layFields 78 = .ok (.getfield 52, 3) := by decide +kernel
theorem dX6_layFields_81 : decode cX6_layFields 81 = .ok (.ifCond .le 27, 3) := by decide +kernel
theorem dX6_layFields_84 : decode cX6_layFields 84 = .ok (.aload_n 0, 1) := by decide +kernel
theorem dX6_layFields_85 : decode cX6_layFields 85 = .ok (.getfield 32, 3) := by decide +kernel
theorem dX6_layFields_88 : decode cX6_layFields 88 = .ok (.iload_n 1, 1) := by decide +kernel
theorem dX6_layFields_89 : decode cX6_layFields 89 = .ok (.aload_n 0, 1) := by decide +kernel
theorem dX6_layFields_90 : decode cX6_layFields 90 = .ok (.getfield 18, 3) := by decide +kernel
theorem dX6_layFields_93 : decode cX6_layFields 93 = .ok (.aload_n 0, 1) := by decide +kernel
theorem dX6_layFields_94 : decode cX6_layFields 94 = .ok (.getfield 13, 3) := by decide +kernel
theorem dX6_layFields_97 : decode cX6_layFields 97 = .ok (.aload_n 0, 1) := by decide +kernel
theorem dX6_layFields_98 : decode cX6_layFields 98 = .ok (.getfield 52, 3) := by decide +kernel
theorem dX6_layFields_101 : decode cX6_layFields 101 = .ok (.iconst 1, 1) := by decide +kernel
theorem dX6_layFields_102 : decode cX6_layFields 102 = .ok (.isub, 1) := by decide +kernel
theorem dX6_layFields_103 : decode cX6_layFields 103 = .ok (.aaload, 1) := by decide +kernel
theorem dX6_layFields_104 : decode cX6_layFields 104 = .ok (.invokevirtual 136, 3) := by decide +kernel
theorem dX6_layFields_107 : decode cX6_layFields 107 = .ok (.lastore, 1) := by decide +kernel
theorem dX6_layFields_108 : decode cX6_layFields 108 = .ok (.return_, 1) := by decide +kernel
theorem vc_X6_layFields_0 {G : zG} {d : Nat} {Q : Option zV → zHp → Prop} (p1 : Int) (p2 : Int) (h : zHp) (hS : zSh h) (hd : 2 ≤ d) (I_20 : Int → Int → Nat → Int → Int → zHp → Prop) (hI_20 : ∀ (y1 : Int) (y2 : Int) (y3 : Nat) (y4 : Int) (y5 : Int) (h' : zHp), I_20 y1 y2 y3 y4 y5 h' → wpN G d M_X6_layFields 20 [(0, vR 215), (1, vI y1), (2, vI y2), (3, vR y3), (4, vI y4), (5, vI y5)] [] h' Q) 
    (hv : (zT 369 (gR h 215 5) = (108, 2) ∧ (((0 : Int) ≤ p1 ∧ p1 < ((24 : Nat) : Int)) ∧ (wpN G (d - 1) M_X6_repetitionsOf 0 (zar 0 [vR 215, vR ((gR h 215 5) + 2 + p1.toNat)]) [] h (qI (fun z1 h2 => zSh h2 ∧ (zSh h2 → I_20 p1 p2 ((gR h 215 5) + 2 + p1.toNat) z1 0 h2))))))) : wpN G d M_X6_layFields 0 [(0, vR 215), (1, vI p1), (2, vI p2)] [] h Q := by
  refine wq_aload_n 0 rfl rfl dX6_layFields_0 ?_
  refine wq_getR fk_X6_22 tT_215 (fun _ _ _ => rfl) rfl (zT_nz hv.1 (by decide)) dX6_layFields_1 ?_
  refine wq_getR (r := ((gR h 215 5) + 1)) fk_X6_66 hv.1 (fun _ _ _ => rfl) (sh_8_0 hS hv.1) (by omega) dX6_layFields_4 ?_
  refine wq_iload_n 1 rfl rfl dX6_layFields_7 ?_
  refine wq_aald (r := ((gR h 215 5) + 2 + p1.toNat)) (ztm0 hv.1) (by decide) (by decide) rfl hv.2.1.1 hv.2.1.2 (sh_itm hS hv.1 (zlt_n hv.2.1.1 hv.2.1.2)) (by omega) dX6_layFields_8 ?_
  refine wq_astore_n (ls' := [(0, vR 215), (1, vI p1), (2, vI p2), (3, vR ((gR h 215 5) + 2 + p1.toNat))]) rfl (by decide) rfl dX6_layFields_9 ?_
  refine wq_aload_n 0 rfl rfl dX6_layFields_10 ?_
  refine wq_aload_n 3 rfl rfl dX6_layFields_11 ?_
  refine wN_V (As := [vR ((gR h 215 5) + 2 + p1.toNat)]) vm_X6_repetitionsOf lk_X6_107 tT_215 rfl rfl (Nat.le_of_ble_eq_true rfl) (Nat.le_of_ble_eq_true rfl) (d' := d - 1) (by omega) dX6_layFields_12 hv.2.2 (fun v9 h2 q3 => ?_)
  obtain ⟨z1, rfl, hS4, q3⟩ := q3
  refine wq_st (st' := [vI z1]) rfl ?_
  refine wq_istore (ls' := [(0, vR 215), (1, vI p1), (2, vI p2), (3, vR ((gR h 215 5) + 2 + p1.toNat)), (4, vI z1)]) (by decide) rfl dX6_layFields_15 ?_
  refine wq_iconst (z := 0) (zlit rfl) dX6_layFields_17 ?_
  refine wq_istore (ls' := [(0, vR 215), (1, vI p1), (2, vI p2), (3, vR ((gR h 215 5) + 2 + p1.toNat)), (4, vI z1), (5, vI 0)]) (by decide) rfl dX6_layFields_18 ?_
  exact wq_pick [0, 1, 2, 3, 4, 5] rfl (hI_20 p1 p2 ((gR h 215 5) + 2 + p1.toNat) z1 0 h2 (q3 hS4))
theorem vc_X6_layFields_20 {G : zG} {d : Nat} {Q : Option zV → zHp → Prop} (y1 : Int) (y2 : Int) (y3 : Nat) (hT_y3 : zT 369 y3 = (105, 13)) (y4 : Int) (y5 : Int) (h : zHp) (hS : zSh h) (hd : 2 ≤ d) (I_20 : Int → Int → Nat → Int → Int → zHp → Prop) (hI_20 : ∀ (y1 : Int) (y2 : Int) (y3 : Nat) (y4 : Int) (y5 : Int) (h' : zHp), I_20 y1 y2 y3 y4 y5 h' → wpN G d M_X6_layFields 20 [(0, vR 215), (1, vI y1), (2, vI y2), (3, vR y3), (4, vI y4), (5, vI y5)] [] h' Q) 
    (hv : ((y4 ≤ y5 → (wpN G (d - 1) M_X5_isPlainInteger 0 (zar 0 [vR y3]) [] h (qI (fun z2 h3 => zSh h3 ∧ ((z2 = 0 → Q none h3) ∧ (z2 ≠ 0 → (((gI h3 215 2) ≠ 0 → Q none h3) ∧ ((gI h3 215 2) = 0 → (((gI h3 215 1) ≤ 0 → Q none h3) ∧ (0 < (gI h3 215 1) → ((-2147483648 ≤ (gI h3 215 1) - 1 ∧ (gI h3 215 1) - 1 ≤ 2147483647) ∧ (((0 : Int) ≤ ((gI h3 215 1) - 1) ∧ ((gI h3 215 1) - 1) < ((60 : Nat) : Int)) ∧ (wpN G (d - 1) M_X0_read 0 (zar 0 [vR 9, vR (217 + 2 * ((gI h3 215 1) - 1).toNat)]) [] h3 (qL (fun z9 h10 => zSh h10 ∧ (((0 : Int) ≤ y1 ∧ y1 < ((24 : Nat) : Int)) ∧ (∀ h13 : zHp, h13 = sL h10 338 y1.toNat z9 → Q none h13))))))))))))))))) ∧ (y5 < y4 → (((gI h 215 2) ≠ 0 → (wpN G (d - 1) M_X5_isPlainInteger 0 (zar 0 [vR y3]) [] h (qI (fun z16 h17 => zSh h17 ∧ ((z16 = 0 → Q none h17) ∧ (z16 ≠ 0 → (((gI h17 215 2) ≠ 0 → Q none h17) ∧ ((gI h17 215 2) = 0 → (((gI h17 215 1) ≤ 0 → Q none h17) ∧ (0 < (gI h17 215 1) → ((-2147483648 ≤ (gI h17 215 1) - 1 ∧ (gI h17 215 1) - 1 ≤ 2147483647) ∧ (((0 : Int) ≤ ((gI h17 215 1) - 1) ∧ ((gI h17 215 1) - 1) < ((60 : Nat) : Int)) ∧ (wpN G (d - 1) M_X0_read 0 (zar 0 [vR 9, vR (217 + 2 * ((gI h17 215 1) - 1).toNat)]) [] h17 (qL (fun z23 h24 => zSh h24 ∧ (((0 : Int) ≤ y1 ∧ y1 < ((24 : Nat) : Int)) ∧ (∀ h27 : zHp, h27 = sL h24 338 y1.toNat z23 → Q none h27))))))))))))))))) ∧ ((gI h 215 2) = 0 → ((-2147483648 ≤ 1000 * y5 ∧ 1000 * y5 ≤ 2147483647) ∧ ((-2147483648 ≤ (1000 * y5) + (gI h y3 1) ∧ (1000 * y5) + (gI h y3 1) ≤ 2147483647) ∧ (((0 : Int) ≤ y2 ∧ y2 < ((4 : Nat) : Int)) ∧ (∀ h29 : zHp, h29 = sI h 337 y2.toNat ((1000 * y5) + (gI h y3 1)) → (wpN G (d - 1) M_X6_layField 0 (zar 0 [vR 215, vR y3, vI y2]) [] h29 (qV (fun h32 => zSh h32 ∧ ((-2147483648 ≤ y5 + 1 ∧ y5 + 1 ≤ 2147483647) ∧ ∀ x35 : Int, x35 = y5 + 1 → (zSh h32 → I_20 y1 y2 y3 y4 x35 h32)))))))))))))) : wpN G d M_X6_layFields 20 [(0, vR 215), (1, vI y1), (2, vI y2), (3, vR y3), (4, vI y4), (5, vI y5)] [] h Q := by
  refine wq_iload 5 rfl dX6_layFields_20 ?_
  refine wq_iload 4 rfl dX6_layFields_22 ?_
  refine wq_icmp_ge 63 rfl dX6_layFields_24 (fun c1 => ?_) (fun c1 => ?_)
  · refine wq_aload_n 3 rfl rfl dX6_layFields_63 ?_
    refine wN_V (As := []) vm_X5_isPlainInteger lk_X6_133 hT_y3 rfl rfl (Nat.le_of_ble_eq_true rfl) (Nat.le_of_ble_eq_true rfl) (d' := d - 1) (by omega) dX6_layFields_64 (hv.1 c1) (fun v9 h3 q4 => ?_)
    obtain ⟨z2, rfl, hS5, q4⟩ := q4
    refine wq_st (st' := [vI z2]) rfl ?_
    refine wq_if_eq 108 rfl dX6_layFields_67 (fun c6 => ?_) (fun c6 => ?_)
    · exact wp_vret rfl dX6_layFields_108 (q4.1 c6)
    · refine wq_aload_n 0 rfl rfl dX6_layFields_70 ?_
      refine wq_getI fk_X6_58 tT_215 (fun _ _ _ => rfl) dX6_layFields_71 ?_
      refine wq_if_ne 108 rfl dX6_layFields_74 (fun c7 => ?_) (fun c7 => ?_)
      · exact wp_vret rfl dX6_layFields_108 ((q4.2 c6).1 c7)
      · refine wq_aload_n 0 rfl rfl dX6_layFields_77 ?_
        refine wq_getI fk_X6_52 tT_215 (fun _ _ _ => rfl) dX6_layFields_78 ?_
        refine wq_if_le 108 rfl dX6_layFields_81 (fun c8 => ?_) (fun c8 => ?_)
        · exact wp_vret rfl dX6_layFields_108 (((q4.2 c6).2 c7).1 c8)
        · refine wq_aload_n 0 rfl rfl dX6_layFields_84 ?_
          refine wq_getR fk_X6_32 tT_215 (fun _ _ _ => rfl) (sh_6_9 hS5) (by decide) dX6_layFields_85 ?_
          refine wq_iload_n 1 rfl rfl dX6_layFields_88 ?_
          refine wq_aload_n 0 rfl rfl dX6_layFields_89 ?_
          refine wq_getR fk_X6_18 tT_215 (fun _ _ _ => rfl) (sh_6_4 hS5) (by decide) dX6_layFields_90 ?_
          refine wq_aload_n 0 rfl rfl dX6_layFields_93 ?_
          refine wq_getR fk_X6_13 tT_215 (fun _ _ _ => rfl) (sh_6_0 hS5) (by decide) dX6_layFields_94 ?_
          refine wq_aload_n 0 rfl rfl dX6_layFields_97 ?_
          refine wq_getI fk_X6_52 tT_215 (fun _ _ _ => rfl) dX6_layFields_98 ?_
          refine wq_iconst (z := 1) (zlit rfl) dX6_layFields_101 ?_
          refine wq_isub (((q4.2 c6).2 c7).2 c8).1 dX6_layFields_102 ?_
          refine wq_aald (r := (217 + 2 * ((gI h3 215 1) - 1).toNat)) tT_216 (by decide) (by decide) rfl (((q4.2 c6).2 c7).2 c8).2.1.1 (((q4.2 c6).2 c7).2 c8).2.1.2 (sh_fds hS5 (zlt_n (((q4.2 c6).2 c7).2 c8).2.1.1 (((q4.2 c6).2 c7).2 c8).2.1.2)) (by omega) dX6_layFields_103 ?_
          refine wN_V (As := [vR (217 + 2 * ((gI h3 215 1) - 1).toNat)]) vm_X0_read lk_X6_136 tT_9 rfl rfl (Nat.le_of_ble_eq_true rfl) (Nat.le_of_ble_eq_true rfl) (d' := d - 1) (by omega) dX6_layFields_104 (((q4.2 c6).2 c7).2 c8).2.2 (fun v9 h10 q11 => ?_)
          obtain ⟨z9, rfl, hS12, q11⟩ := q11
          refine wq_st (st' := [vL z9, vI y1, vR 338]) rfl ?_
          refine wq_last tT_338 q11.1.1 q11.1.2 dX6_layFields_107 ?_
          refine wq_toph (fun h13 e14 => ?_)
          have sh13 : zSh h13 := zSh_of e14 hS12
          exact wp_vret rfl dX6_layFields_108 (q11.2 h13 e14)
  · refine wq_aload_n 0 rfl rfl dX6_layFields_27 ?_
    refine wq_getI fk_X6_58 tT_215 (fun _ _ _ => rfl) dX6_layFields_28 ?_
    refine wq_if_ne 63 rfl dX6_layFields_31 (fun c15 => ?_) (fun c15 => ?_)
    · refine wq_aload_n 3 rfl rfl dX6_layFields_63 ?_
      refine wN_V (As := []) vm_X5_isPlainInteger lk_X6_133 hT_y3 rfl rfl (Nat.le_of_ble_eq_true rfl) (Nat.le_of_ble_eq_true rfl) (d' := d - 1) (by omega) dX6_layFields_64 ((hv.2 c1).1 c15) (fun v9 h17 q18 => ?_)
      obtain ⟨z16, rfl, hS19, q18⟩ := q18
      refine wq_st (st' := [vI z16]) rfl ?_
      refine wq_if_eq 108 rfl dX6_layFields_67 (fun c20 => ?_) (fun c20 => ?_)
      · exact wp_vret rfl dX6_layFields_108 (q18.1 c20)
      · refine wq_aload_n 0 rfl rfl dX6_layFields_70 ?_
        refine wq_getI fk_X6_58 tT_215 (fun _ _ _ => rfl) dX6_layFields_71 ?_
        refine wq_if_ne 108 rfl dX6_layFields_74 (fun c21 => ?_) (fun c21 => ?_)
        · exact wp_vret rfl dX6_layFields_108 ((q18.2 c20).1 c21)
        · refine wq_aload_n 0 rfl rfl dX6_layFields_77 ?_
          refine wq_getI fk_X6_52 tT_215 (fun _ _ _ => rfl) dX6_layFields_78 ?_
          refine wq_if_le 108 rfl dX6_layFields_81 (fun c22 => ?_) (fun c22 => ?_)
          · exact wp_vret rfl dX6_layFields_108 (((q18.2 c20).2 c21).1 c22)
          · refine wq_aload_n 0 rfl rfl dX6_layFields_84 ?_
            refine wq_getR fk_X6_32 tT_215 (fun _ _ _ => rfl) (sh_6_9 hS19) (by decide) dX6_layFields_85 ?_
            refine wq_iload_n 1 rfl rfl dX6_layFields_88 ?_
            refine wq_aload_n 0 rfl rfl dX6_layFields_89 ?_
            refine wq_getR fk_X6_18 tT_215 (fun _ _ _ => rfl) (sh_6_4 hS19) (by decide) dX6_layFields_90 ?_
            refine wq_aload_n 0 rfl rfl dX6_layFields_93 ?_
            refine wq_getR fk_X6_13 tT_215 (fun _ _ _ => rfl) (sh_6_0 hS19) (by decide) dX6_layFields_94 ?_
            refine wq_aload_n 0 rfl rfl dX6_layFields_97 ?_
            refine wq_getI fk_X6_52 tT_215 (fun _ _ _ => rfl) dX6_layFields_98 ?_
            refine wq_iconst (z := 1) (zlit rfl) dX6_layFields_101 ?_
            refine wq_isub (((q18.2 c20).2 c21).2 c22).1 dX6_layFields_102 ?_
            refine wq_aald (r := (217 + 2 * ((gI h17 215 1) - 1).toNat)) tT_216 (by decide) (by decide) rfl (((q18.2 c20).2 c21).2 c22).2.1.1 (((q18.2 c20).2 c21).2 c22).2.1.2 (sh_fds hS19 (zlt_n (((q18.2 c20).2 c21).2 c22).2.1.1 (((q18.2 c20).2 c21).2 c22).2.1.2)) (by omega) dX6_layFields_103 ?_
            refine wN_V (As := [vR (217 + 2 * ((gI h17 215 1) - 1).toNat)]) vm_X0_read lk_X6_136 tT_9 rfl rfl (Nat.le_of_ble_eq_true rfl) (Nat.le_of_ble_eq_true rfl) (d' := d - 1) (by omega) dX6_layFields_104 (((q18.2 c20).2 c21).2 c22).2.2 (fun v9 h24 q25 => ?_)
            obtain ⟨z23, rfl, hS26, q25⟩ := q25
            refine wq_st (st' := [vL z23, vI y1, vR 338]) rfl ?_
            refine wq_last tT_338 q25.1.1 q25.1.2 dX6_layFields_107 ?_
            refine wq_toph (fun h27 e28 => ?_)
            have sh27 : zSh h27 := zSh_of e28 hS26
            exact wp_vret rfl dX6_layFields_108 (q25.2 h27 e28)
    · refine wq_aload_n 0 rfl rfl dX6_layFields_34 ?_
      refine wq_getR fk_X6_28 tT_215 (fun _ _ _ => rfl) (sh_6_8 hS) (by decide) dX6_layFields_35 ?_
      refine wq_iload_n 2 rfl rfl dX6_layFields_38 ?_
      refine wq_sipush (z := 1000) (zlit rfl) rfl dX6_layFields_39 ?_
      refine wq_iload 5 rfl dX6_layFields_42 ?_
      refine wq_imul ((hv.2 c1).2 c15).1 dX6_layFields_44 ?_
      refine wq_aload_n 3 rfl rfl dX6_layFields_45 ?_
      refine wq_getI fk_X6_111 hT_y3 (fun _ _ _ => rfl) dX6_layFields_46 ?_
      refine wq_iadd ((hv.2 c1).2 c15).2.1 dX6_layFields_49 ?_
      refine wq_iast tT_337 ((hv.2 c1).2 c15).2.2.1.1 ((hv.2 c1).2 c15).2.2.1.2 dX6_layFields_50 ?_
      refine wq_toph (fun h29 e30 => ?_)
      have sh29 : zSh h29 := zSh_of e30 hS
      refine wq_aload_n 0 rfl rfl dX6_layFields_51 ?_
      refine wq_aload_n 3 rfl rfl dX6_layFields_52 ?_
      refine wq_iload_n 2 rfl rfl dX6_layFields_53 ?_
      refine wN_V (As := [vR y3, vI y2]) vm_X6_layField lk_X6_129 tT_215 rfl rfl (Nat.le_of_ble_eq_true rfl) (Nat.le_of_ble_eq_true rfl) (d' := d - 1) (by omega) dX6_layFields_54 (((hv.2 c1).2 c15).2.2.2 h29 e30) (fun v9 h32 q33 => ?_)
      obtain ⟨rfl, hS34, q33⟩ := q33
      refine wq_st (st' := []) rfl ?_
      refine z_nm (y5 + 1) (fun x35 e36 => ?_)
      refine wq_iinc (y := x35) (ls' := [(0, vR 215), (1, vI y1), (2, vI y2), (3, vR y3), (4, vI y4), (5, vI x35)]) 5 rfl e36.symm (by rw [e36]; exact q33.1) (by decide) rfl dX6_layFields_57 ?_
      refine wq_goto 20 rfl dX6_layFields_60 ?_
      exact wq_pick [0, 1, 2, 3, 4, 5] rfl (hI_20 y1 y2 y3 y4 x35 h32 ((q33.2 x35 e36) hS34))
theorem dX6_layField_0 : decode cX6_layField 0 = .ok (.aload_n 0, 1) := by decide +kernel
theorem dX6_layField_1 : decode cX6_layField 1 = .ok (.getfield 52, 3) := by decide +kernel
theorem dX6_layField_4 : decode cX6_layField 4 = .ok (.bipush 60, 2) := by decide +kernel
theorem dX6_layField_6 : decode cX6_layField 6 = .ok (.if_icmp .lt 9, 3) := by decide +kernel
theorem dX6_layField_9 : decode cX6_layField 9 = .ok (.aload_n 0, 1) := by decide +kernel
theorem dX6_layField_10 : decode cX6_layField 10 = .ok (.iconst 2, 1) := by decide +kernel
theorem dX6_layField_11 : decode cX6_layField 11 = .ok (.putfield 58, 3) := by decide +kernel
theorem dX6_layField_14 : decode cX6_layField 14 = .ok (.return_, 1) := by decide +kernel
theorem dX6_layField_15 : decode cX6_layField 15 = .ok (.aload_n 1, 1) := by decide +kernel
theorem dX6_layField_16 : decode cX6_layField 16 = .ok (.getfield 142, 3) := by decide +kernel
theorem dX6_layField_19 : decode cX6_layField 19 = .ok (.aload_n 0, 1) := by decide +kernel
theorem dX6_layField_20 : decode cX6_layField 20 = .ok (.getfield 18, 3) := by decide +kernel
theorem dX6_layField_23 : decode cX6_layField 23 = .ok (.getfield 145, 3) := by decide +kernel
theorem dX6_layField_26 : decode cX6_layField 26 = .ok (.aload_n 0, 1) := by decide +kernel
theorem dX6_layField_27 : decode cX6_layField 27 = .ok (.getfield 49, 3) := by decide +kernel
theorem dX6_layField_30 : decode cX6_layField 30 = .ok (.isub, 1) := by decide +kernel
theorem dX6_layField_31 : decode cX6_layField 31 = .ok (.if_icmp .le 9, 3) := by decide +kernel
theorem dX6_layField_34 : decode cX6_layField 34 = .ok (.aload_n 0, 1) := by decide +kernel
theorem dX6_layField_35 : decode cX6_layField 35 = .ok (.iconst 1, 1) := by decide +kernel
theorem dX6_layField_36 : decode cX6_layField 36 = .ok (.putfield 58, 3) := by decide +kernel
theorem dX6_layField_39 : decode cX6_layField 39 = .ok (.return_, 1) := by decide +kernel
theorem dX6_layField_40 : decode cX6_layField 40 = .ok (.aload_n 0, 1) := by decide +kernel
theorem dX6_layField_41 : decode cX6_layField 41 = .ok (.getfield 13, 3) := by decide +kernel
theorem dX6_layField_44 : decode cX6_layField 44 = .ok (.aload_n 0, 1) := by decide +kernel
theorem dX6_layField_45 : decode cX6_layField 45 = .ok (.getfield 52, 3) := by decide +kernel
theorem dX6_layField_48 : decode cX6_layField 48 = .ok (.aaload, 1) := by decide +kernel
theorem dX6_layField_49 : decode cX6_layField 49 = .ok (.astore_n 3, 1) := by decide +kernel
theorem dX6_layField_50 : decode cX6_layField 50 = .ok (.aload_n 3, 1) := by decide +kernel
theorem dX6_layField_51 : decode cX6_layField 51 = .ok (.aload_n 0, 1) := by decide +kernel
theorem dX6_layField_52 : decode cX6_layField 52 = .ok (.getfield 49, 3) := by decide +kernel
theorem dX6_layField_55 : decode cX6_layField 55 = .ok (.putfield 146, 3) := by decide +kernel
theorem dX6_layField_58 : decode cX6_layField 58 = .ok (.aload_n 3, 1) := by decide +kernel
theorem dX6_layField_59 : decode cX6_layField 59 = .ok (.aload_n 1, 1) := by decide +kernel
theorem dX6_layField_60 : decode cX6_layField 60 = .ok (.getfield 142, 3) := by decide +kernel
theorem dX6_layField_63 : decode cX6_layField 63 = .ok (.putfield 149, 3) := by decide +kernel
theorem dX6_layField_66 : decode cX6_layField 66 = .ok (.aload_n 3, 1) := by decide +kernel
theorem dX6_layField_67 : decode cX6_layField 67 = .ok (.aload_n 1, 1) := by decide +kernel
theorem dX6_layField_68 : decode cX6_layField 68 = .ok (.getfield 91, 3) := by decide +kernel
theorem dX6_layField_71 : decode cX6_layField 71 = .ok (.putfield 150, 3) := by decide +kernel
theorem dX6_layField_74 : decode cX6_layField 74 = .ok (.aload_n 3, 1) := by decide +kernel
theorem dX6_layField_75 : decode cX6_layField 75 = .ok (.aload_n 1, 1) := by decide +kernel
theorem dX6_layField_76 : decode cX6_layField 76 = .ok (.getfield 151, 3) := by decide +kernel
theorem dX6_layField_79 : decode cX6_layField 79 = .ok (.putfield 154, 3) := by decide +kernel
theorem dX6_layField_82 : decode cX6_layField 82 = .ok (.aload_n 3, 1) := by decide +kernel
theorem dX6_layField_83 : decode cX6_layField 83 = .ok (.aload_n 1, 1) := by decide +kernel
theorem dX6_layField_84 : decode cX6_layField 84 = .ok (.getfield 155, 3) := by decide +kernel
theorem dX6_layField_87 : decode cX6_layField 87 = .ok (.iconst (-1), 1) := by decide +kernel
theorem dX6_layField_88 : decode cX6_layField 88 = .ok (.if_icmp .ne 9, 3) := by decide +kernel
theorem dX6_layField_91 : decode cX6_layField 91 = .ok (.sipush (-1009), 3) := by decide +kernel
theorem dX6_layField_94 : decode cX6_layField 94 = .ok (.goto 12, 3) := by decide +kernel
theorem dX6_layField_97 : decode cX6_layField 97 = .ok (.aload_n 0, 1) := by decide +kernel
theorem dX6_layField_98 : decode cX6_layField 98 = .ok (.getfield 36, 3) := by decide +kernel
theorem dX6_layField_101 : decode cX6_layField 101 = .ok (.aload_n 1, 1) := by decide +kernel
theorem dX6_layField_102 : decode cX6_layField 102 = .ok (.getfield 155, 3) := by decide +kernel
theorem dX6_layField_105 : decode cX6_layField 105 = .ok (.iaload, 1) := by decide +kernel
theorem dX6_layField_106 : decode cX6_layField 106 = .ok (.putfield 158, 3) := by decide +kernel
theorem dX6_layField_109 : decode cX6_layField 109 = .ok (.aload_n 3, 1) := by decide +kernel
theorem dX6_layField_110 : decode cX6_layField 110 = .ok (.aload_n 1, 1) := by decide +kernel
theorem dX6_layField_111 : decode cX6_layField 111 = .ok (.getfield 161, 3) := by decide +kernel
theorem dX6_layField_114 : decode cX6_layField 114 = .ok (.iconst (-1), 1) := by decide +kernel
theorem dX6_layField_115 : decode cX6_layField 115 = .ok (.if_icmp .ne 9, 3) := by decide +kernel
theorem dX6_layField_118 : decode cX6_layField 118 = .ok (.sipush (-1009), 3) := by decide +kernel
theorem dX6_layField_121 : decode cX6_layField 121 = .ok (.goto 12, 3) := by decide +kernel
theorem dX6_layField_124 : decode cX6_layField 124 = .ok (.aload_n 0, 1) := by decide +kernel
theorem dX6_layField_125 : decode cX6_layField 125 = .ok (.getfield 39, 3) := by decide +kernel
theorem dX6_layField_128 : decode cX6_layField 128 = .ok (.aload_n 1, 1) := by decide +kernel
theorem dX6_layField_129 : decode cX6_layField 129 = .ok (.getfield 161, 3) := by decide +kernel
theorem dX6_layField_132 : decode cX6_layField 132 = .ok (.iaload, 1) := by decide +kernel
theorem dX6_layField_133 : decode cX6_layField 133 = .ok (.putfield 164, 3) := by decide +kernel
theorem dX6_layField_136 : decode cX6_layField 136 = .ok (.aload_n 3, 1) := by decide +kernel
theorem dX6_layField_137 : decode cX6_layField 137 = .ok (.iload_n 2, 1) := by decide +kernel
theorem dX6_layField_138 : decode cX6_layField 138 = .ok (.iconst 1, 1) := by decide +kernel
theorem dX6_layField_139 : decode cX6_layField 139 = .ok (.iadd, 1) := by decide +kernel
theorem dX6_layField_140 : decode cX6_layField 140 = .ok (.putfield 167, 3) := by decide +kernel
theorem dX6_layField_143 : decode cX6_layField 143 = .ok (.aload_n 0, 1) := by decide +kernel
theorem dX6_layField_144 : decode cX6_layField 144 = .ok (.getfield 28, 3) := by decide +kernel
theorem dX6_layField_147 : decode cX6_layField 147 = .ok (.iconst 0, 1) := by decide +kernel
theorem dX6_layField_148 : decode cX6_layField 148 = .ok (.aload_n 3, 1) := by decide +kernel
theorem dX6_layField_149 : decode cX6_layField 149 = .ok (.getfield 170, 3) := by decide +kernel
theorem dX6_layField_152 : decode cX6_layField 152 = .ok (.iconst 0, 1) := by decide +kernel
theorem dX6_layField_153 : decode cX6_layField 153 = .ok (.iload_n 2, 1) := by decide +kernel
theorem dX6_layField_154 : decode cX6_layField 154 = .ok (.iconst 1, 1) := by decide +kernel
theorem dX6_layField_155 : decode cX6_layField 155 = .ok (.iadd, 1) := by decide +kernel
theorem dX6_layField_156 : decode cX6_layField 156 = .ok (.invokestatic 171, 3) := by decide +kernel
theorem dX6_layField_159 : decode cX6_layField 159 = .ok (.aload_n 0, 1) := by decide +kernel
theorem dX6_layField_160 : decode cX6_layField 160 = .ok (.dup, 1) := by decide +kernel
theorem dX6_layField_161 : decode cX6_layField 161 = .ok (.getfield 52, 3) := by decide +kernel
theorem dX6_layField_164 : decode cX6_layField 164 = .ok (.iconst 1, 1) := by decide +kernel
theorem dX6_layField_165 : decode cX6_layField 165 = .ok (.iadd, 1) := by decide +kernel
theorem dX6_layField_166 : decode cX6_layField 166 = .ok (.putfield 52, 3) := by decide +kernel
theorem dX6_layField_169 : decode cX6_layField 169 = .ok (.aload_n 0, 1) := by decide +kernel
theorem dX6_layField_170 : decode cX6_layField 170 = .ok (.dup, 1) := by decide +kernel
theorem dX6_layField_171 : decode cX6_layField 171 = .ok (.getfield 49, 3) := by decide +kernel
theorem dX6_layField_174 : decode cX6_layField 174 = .ok (.aload_n 1, 1) := by decide +kernel
theorem dX6_layField_175 : decode cX6_layField 175 = .ok (.getfield 142, 3) := by decide +kernel
theorem dX6_layField_178 : decode cX6_layField 178 = .ok (.iadd, 1) := by decide +kernel
theorem dX6_layField_179 : decode cX6_layField 179 = .ok (.putfield 49, 3) := by decide +kernel
theorem dX6_layField_182 : decode cX6_layField 182 = .ok (.return_, 1) := by decide +kernel
theorem vc_X6_layField_0 {G : zG} {d : Nat} {Q : Option zV → zHp → Prop} (p1 : Nat) (hT_p1 : zT 369 p1 = (105, 13)) (p2 : Int) (h : zHp) (hS : zSh h) (hd : 1 ≤ d)  
    (hv : (((gI h 215 1) < 60 → ((-2147483648 ≤ (gI h 9 1) - (gI h 215 3) ∧ (gI h 9 1) - (gI h 215 3) ≤ 2147483647) ∧ (((gI h p1 2) ≤ ((gI h 9 1) - (gI h 215 3)) → (((0 : Int) ≤ (gI h 215 1) ∧ (gI h 215 1) < ((60 : Nat) : Int)) ∧ (∀ h3 : zHp, h3 = sI h (217 + 2 * (gI h 215 1).toNat) 0 (gI h 215 3) → (∀ h5 : zHp, h5 = sI h3 (217 + 2 * (gI h 215 1).toNat) 1 (gI h3 p1 2) → (∀ h7 : zHp, h7 = sI h5 (217 + 2 * (gI h 215 1).toNat) 2 (gI h5 p1 0) → (((gI h7 p1 3) = 0 ∨ (gI h7 p1 3) = 1) ∧ (∀ h9 : zHp, h9 = sI h7 (217 + 2 * (gI h 215 1).toNat) 3 (gI h7 p1 3) → (((gI h9 p1 11) ≠ (-1) → (((0 : Int) ≤ (gI h9 p1 11) ∧ (gI h9 p1 11) < ((24 : Nat) : Int)) ∧ (∀ h12 : zHp, h12 = sI h9 (217 + 2 * (gI h 215 1).toNat) 4 (gI h9 339 (gI h9 p1 11).toNat) → (((gI h12 p1 12) ≠ (-1) → (((0 : Int) ≤ (gI h12 p1 12) ∧ (gI h12 p1 12) < ((24 : Nat) : Int)) ∧ (∀ h15 : zHp, h15 = sI h12 (217 + 2 * (gI h 215 1).toNat) 5 (gI h12 340 (gI h12 p1 12).toNat) → ((-2147483648 ≤ p2 + 1 ∧ p2 + 1 ≤ 2147483647) ∧ (∀ h17 : zHp, h17 = sI h15 (217 + 2 * (gI h 215 1).toNat) 6 (p2 + 1) → ((-2147483648 ≤ p2 + 1 ∧ p2 + 1 ≤ 2147483647) ∧ (((0 : Int) ≤ 0 ∧ (0 : Int) ≤ 0 ∧ (0 : Int) ≤ (p2 + 1) ∧ 0 + (p2 + 1) ≤ ((4 : Nat) : Int) ∧ 0 + (p2 + 1) ≤ ((4 : Nat) : Int)) ∧ ∀ h19 : zHp, h19 = cpI h17 337 0 ((217 + 2 * (gI h 215 1).toNat) + 1) 0 (p2 + 1).toNat → ((-2147483648 ≤ (gI h19 215 1) + 1 ∧ (gI h19 215 1) + 1 ≤ 2147483647) ∧ (∀ h21 : zHp, h21 = sI h19 215 1 ((gI h19 215 1) + 1) → ((-2147483648 ≤ (gI h21 215 3) + (gI h21 p1 2) ∧ (gI h21 215 3) + (gI h21 p1 2) ≤ 2147483647) ∧ (∀ h23 : zHp, h23 = sI h21 215 3 ((gI h21 215 3) + (gI h21 p1 2)) → Q none h23))))))))))) ∧ ((gI h12 p1 12) = (-1) → (∀ h25 : zHp, h25 = sI h12 (217 + 2 * (gI h 215 1).toNat) 5 (-1009) → ((-2147483648 ≤ p2 + 1 ∧ p2 + 1 ≤ 2147483647) ∧ (∀ h27 : zHp, h27 = sI h25 (217 + 2 * (gI h 215 1).toNat) 6 (p2 + 1) → ((-2147483648 ≤ p2 + 1 ∧ p2 + 1 ≤ 2147483647) ∧ (((0 : Int) ≤ 0 ∧ (0 : Int) ≤ 0 ∧ (0 : Int) ≤ (p2 + 1) ∧ 0 + (p2 + 1) ≤ ((4 : Nat) : Int) ∧ 0 + (p2 + 1) ≤ ((4 : Nat) : Int)) ∧ ∀ h29 : zHp, h29 = cpI h27 337 0 ((217 + 2 * (gI h 215 1).toNat) + 1) 0 (p2 + 1).toNat → ((-2147483648 ≤ (gI h29 215 1) + 1 ∧ (gI h29 215 1) + 1 ≤ 2147483647) ∧ (∀ h31 : zHp, h31 = sI h29 215 1 ((gI h29 215 1) + 1) → ((-2147483648 ≤ (gI h31 215 3) + (gI h31 p1 2) ∧ (gI h31 215 3) + (gI h31 p1 2) ≤ 2147483647) ∧ (∀ h33 : zHp, h33 = sI h31 215 3 ((gI h31 215 3) + (gI h31 p1 2)) → Q none h33)))))))))))))) ∧ ((gI h9 p1 11) = (-1) → (∀ h35 : zHp, h35 = sI h9 (217 + 2 * (gI h 215 1).toNat) 4 (-1009) → (((gI h35 p1 12) ≠ (-1) → (((0 : Int) ≤ (gI h35 p1 12) ∧ (gI h35 p1 12) < ((24 : Nat) : Int)) ∧ (∀ h38 : zHp, h38 = sI h35 (217 + 2 * (gI h 215 1).toNat) 5 (gI h35 340 (gI h35 p1 12).toNat) → ((-2147483648 ≤ p2 + 1 ∧ p2 + 1 ≤ 2147483647) ∧ (∀ h40 : zHp, h40 = sI h38 (217 + 2 * (gI h 215 1).toNat) 6 (p2 + 1) → ((-2147483648 ≤ p2 + 1 ∧ p2 + 1 ≤ 2147483647) ∧ (((0 : Int) ≤ 0 ∧ (0 : Int) ≤ 0 ∧ (0 : Int) ≤ (p2 + 1) ∧ 0 + (p2 + 1) ≤ ((4 : Nat) : Int) ∧ 0 + (p2 + 1) ≤ ((4 : Nat) : Int)) ∧ ∀ h42 : zHp, h42 = cpI h40 337 0 ((217 + 2 * (gI h 215 1).toNat) + 1) 0 (p2 + 1).toNat → ((-2147483648 ≤ (gI h42 215 1) + 1 ∧ (gI h42 215 1) + 1 ≤ 2147483647) ∧ (∀ h44 : zHp, h44 = sI h42 215 1 ((gI h42 215 1) + 1) → ((-2147483648 ≤ (gI h44 215 3) + (gI h44 p1 2) ∧ (gI h44 215 3) + (gI h44 p1 2) ≤ 2147483647) ∧ (∀ h46 : zHp, h46 = sI h44 215 3 ((gI h44 215 3) + (gI h44 p1 2)) → Q none h46))))))))))) ∧ ((gI h35 p1 12) = (-1) → (∀ h48 : zHp, h48 = sI h35 (217 + 2 * (gI h 215 1).toNat) 5 (-1009) → ((-2147483648 ≤ p2 + 1 ∧ p2 + 1 ≤ 2147483647) ∧ (∀ h50 : zHp, h50 = sI h48 (217 + 2 * (gI h 215 1).toNat) 6 (p2 + 1) → ((-2147483648 ≤ p2 + 1 ∧ p2 + 1 ≤ 2147483647) ∧ (((0 : Int) ≤ 0 ∧ (0 : Int) ≤ 0 ∧ (0 : Int) ≤ (p2 + 1) ∧ 0 + (p2 + 1) ≤ ((4 : Nat) : Int) ∧ 0 + (p2 + 1) ≤ ((4 : Nat) : Int)) ∧ ∀ h52 : zHp, h52 = cpI h50 337 0 ((217 + 2 * (gI h 215 1).toNat) + 1) 0 (p2 + 1).toNat → ((-2147483648 ≤ (gI h52 215 1) + 1 ∧ (gI h52 215 1) + 1 ≤ 2147483647) ∧ (∀ h54 : zHp, h54 = sI h52 215 1 ((gI h52 215 1) + 1) → ((-2147483648 ≤ (gI h54 215 3) + (gI h54 p1 2) ∧ (gI h54 215 3) + (gI h54 p1 2) ≤ 2147483647) ∧ (∀ h56 : zHp, h56 = sI h54 215 3 ((gI h54 215 3) + (gI h54 p1 2)) → Q none h56))))))))))))))))))))) ∧ (((gI h 9 1) - (gI h 215 3)) < (gI h p1 2) → (∀ h58 : zHp, h58 = sI h 215 2 1 → Q none h58))))) ∧ (60 ≤ (gI h 215 1) → (∀ h60 : zHp, h60 = sI h 215 2 2 → Q none h60)))) : wpN G d M_X6_layField 0 [(0, vR 215), (1, vR p1), (2, vI p2)] [] h Q := by
  refine wq_aload_n 0 rfl rfl dX6_layField_0 ?_
  refine wq_getI fk_X6_52 tT_215 (fun _ _ _ => rfl) dX6_layField_1 ?_
  refine wq_bipush (z := 60) (zlit rfl) rfl dX6_layField_4 ?_
  refine wq_icmp_lt 15 rfl dX6_layField_6 (fun c1 => ?_) (fun c1 => ?_)
  · refine wq_aload_n 1 rfl rfl dX6_layField_15 ?_
    refine wq_getI fk_X6_142 hT_p1 (fun _ _ _ => rfl) dX6_layField_16 ?_
    refine wq_aload_n 0 rfl rfl dX6_layField_19 ?_
    refine wq_getR fk_X6_18 tT_215 (fun _ _ _ => rfl) (sh_6_4 hS) (by decide) dX6_layField_20 ?_
    refine wq_getI fk_X6_145 tT_9 (fun _ _ _ => rfl) dX6_layField_23 ?_
    refine wq_aload_n 0 rfl rfl dX6_layField_26 ?_
    refine wq_getI fk_X6_49 tT_215 (fun _ _ _ => rfl) dX6_layField_27 ?_
    refine wq_isub (hv.1 c1).1 dX6_layField_30 ?_
    refine wq_icmp_le 40 rfl dX6_layField_31 (fun c2 => ?_) (fun c2 => ?_)
    · refine wq_aload_n 0 rfl rfl dX6_layField_40 ?_
      refine wq_getR fk_X6_13 tT_215 (fun _ _ _ => rfl) (sh_6_0 hS) (by decide) dX6_layField_41 ?_
      refine wq_aload_n 0 rfl rfl dX6_layField_44 ?_
      refine wq_getI fk_X6_52 tT_215 (fun _ _ _ => rfl) dX6_layField_45 ?_
      refine wq_aald (r := (217 + 2 * (gI h 215 1).toNat)) tT_216 (by decide) (by decide) rfl ((hv.1 c1).2.1 c2).1.1 ((hv.1 c1).2.1 c2).1.2 (sh_fds hS (zlt_n ((hv.1 c1).2.1 c2).1.1 ((hv.1 c1).2.1 c2).1.2)) (by omega) dX6_layField_48 ?_
      refine wq_astore_n (ls' := [(0, vR 215), (1, vR p1), (2, vI p2), (3, vR (217 + 2 * (gI h 215 1).toNat))]) rfl (by decide) rfl dX6_layField_49 ?_
      refine wq_aload_n 3 rfl rfl dX6_layField_50 ?_
      refine wq_aload_n 0 rfl rfl dX6_layField_51 ?_
      refine wq_getI fk_X6_49 tT_215 (fun _ _ _ => rfl) dX6_layField_52 ?_
      refine wq_putI fk_X6_146 (zfds (zlt_n ((hv.1 c1).2.1 c2).1.1 ((hv.1 c1).2.1 c2).1.2)) rfl rfl dX6_layField_55 ?_
      refine wq_toph (fun h3 e4 => ?_)
      have sh3 : zSh h3 := zSh_of e4 hS
      refine wq_aload_n 3 rfl rfl dX6_layField_58 ?_
      refine wq_aload_n 1 rfl rfl dX6_layField_59 ?_
      refine wq_getI fk_X6_142 hT_p1 (fun _ _ _ => rfl) dX6_layField_60 ?_
      refine wq_putI fk_X6_149 (zfds (zlt_n ((hv.1 c1).2.1 c2).1.1 ((hv.1 c1).2.1 c2).1.2)) rfl rfl dX6_layField_63 ?_
      refine wq_toph (fun h5 e6 => ?_)
      have sh5 : zSh h5 := zSh_of e6 sh3
      refine wq_aload_n 3 rfl rfl dX6_layField_66 ?_
      refine wq_aload_n 1 rfl rfl dX6_layField_67 ?_
      refine wq_getI fk_X6_91 hT_p1 (fun _ _ _ => rfl) dX6_layField_68 ?_
      refine wq_putI fk_X6_150 (zfds (zlt_n ((hv.1 c1).2.1 c2).1.1 ((hv.1 c1).2.1 c2).1.2)) rfl rfl dX6_layField_71 ?_
      refine wq_toph (fun h7 e8 => ?_)
      have sh7 : zSh h7 := zSh_of e8 sh5
      refine wq_aload_n 3 rfl rfl dX6_layField_74 ?_
      refine wq_aload_n 1 rfl rfl dX6_layField_75 ?_
      refine wq_getI fk_X6_151 hT_p1 (fun _ _ _ => rfl) dX6_layField_76 ?_
      refine wq_putZ (((((hv.1 c1).2.1 c2).2 h3 e4) h5 e6) h7 e8).1 fk_X6_154 (zfds (zlt_n ((hv.1 c1).2.1 c2).1.1 ((hv.1 c1).2.1 c2).1.2)) rfl rfl dX6_layField_79 ?_
      refine wq_toph (fun h9 e10 => ?_)
      have sh9 : zSh h9 := zSh_of e10 sh7
      refine wq_aload_n 3 rfl rfl dX6_layField_82 ?_
      refine wq_aload_n 1 rfl rfl dX6_layField_83 ?_
      refine wq_getI fk_X6_155 hT_p1 (fun _ _ _ => rfl) dX6_layField_84 ?_
      refine wq_iconst (z := -1) (zlit rfl) dX6_layField_87 ?_
      refine wq_icmp_ne 97 rfl dX6_layField_88 (fun c11 => ?_) (fun c11 => ?_)
      · refine wq_aload_n 0 rfl rfl dX6_layField_97 ?_
        refine wq_getR fk_X6_36 tT_215 (fun _ _ _ => rfl) (sh_6_10 sh9) (by decide) dX6_layField_98 ?_
        refine wq_aload_n 1 rfl rfl dX6_layField_101 ?_
        refine wq_getI fk_X6_155 hT_p1 (fun _ _ _ => rfl) dX6_layField_102 ?_
        refine wq_iald tT_339 (((((((hv.1 c1).2.1 c2).2 h3 e4) h5 e6) h7 e8).2 h9 e10).1 c11).1.1 (((((((hv.1 c1).2.1 c2).2 h3 e4) h5 e6) h7 e8).2 h9 e10).1 c11).1.2 dX6_layField_105 ?_
        refine wq_putI fk_X6_158 (zfds (zlt_n ((hv.1 c1).2.1 c2).1.1 ((hv.1 c1).2.1 c2).1.2)) rfl rfl dX6_layField_106 ?_
        refine wq_toph (fun h12 e13 => ?_)
        have sh12 : zSh h12 := zSh_of e13 sh9
        refine wq_aload_n 3 rfl rfl dX6_layField_109 ?_
        refine wq_aload_n 1 rfl rfl dX6_layField_110 ?_
        refine wq_getI fk_X6_161 hT_p1 (fun _ _ _ => rfl) dX6_layField_111 ?_
        refine wq_iconst (z := -1) (zlit rfl) dX6_layField_114 ?_
        refine wq_icmp_ne 124 rfl dX6_layField_115 (fun c14 => ?_) (fun c14 => ?_)
        · refine wq_aload_n 0 rfl rfl dX6_layField_124 ?_
          refine wq_getR fk_X6_39 tT_215 (fun _ _ _ => rfl) (sh_6_11 sh12) (by decide) dX6_layField_125 ?_
          refine wq_aload_n 1 rfl rfl dX6_layField_128 ?_
          refine wq_getI fk_X6_161 hT_p1 (fun _ _ _ => rfl) dX6_layField_129 ?_
          refine wq_iald tT_340 (((((((((hv.1 c1).2.1 c2).2 h3 e4) h5 e6) h7 e8).2 h9 e10).1 c11).2 h12 e13).1 c14).1.1 (((((((((hv.1 c1).2.1 c2).2 h3 e4) h5 e6) h7 e8).2 h9 e10).1 c11).2 h12 e13).1 c14).1.2 dX6_layField_132 ?_
          refine wq_putI fk_X6_164 (zfds (zlt_n ((hv.1 c1).2.1 c2).1.1 ((hv.1 c1).2.1 c2).1.2)) rfl rfl dX6_layField_133 ?_
          refine wq_toph (fun h15 e16 => ?_)
          have sh15 : zSh h15 := zSh_of e16 sh12
          refine wq_aload_n 3 rfl rfl dX6_layField_136 ?_
          refine wq_iload_n 2 rfl rfl dX6_layField_137 ?_
          refine wq_iconst (z := 1) (zlit rfl) dX6_layField_138 ?_
          refine wq_iadd ((((((((((hv.1 c1).2.1 c2).2 h3 e4) h5 e6) h7 e8).2 h9 e10).1 c11).2 h12 e13).1 c14).2 h15 e16).1 dX6_layField_139 ?_
          refine wq_putI fk_X6_167 (zfds (zlt_n ((hv.1 c1).2.1 c2).1.1 ((hv.1 c1).2.1 c2).1.2)) rfl rfl dX6_layField_140 ?_
          refine wq_toph (fun h17 e18 => ?_)
          have sh17 : zSh h17 := zSh_of e18 sh15
          refine wq_aload_n 0 rfl rfl dX6_layField_143 ?_
          refine wq_getR fk_X6_28 tT_215 (fun _ _ _ => rfl) (sh_6_8 sh17) (by decide) dX6_layField_144 ?_
          refine wq_iconst (z := 0) (zlit rfl) dX6_layField_147 ?_
          refine wq_aload_n 3 rfl rfl dX6_layField_148 ?_
          refine wq_getR (r := ((217 + 2 * (gI h 215 1).toNat) + 1)) fk_X6_170 (zfds (zlt_n ((hv.1 c1).2.1 c2).1.1 ((hv.1 c1).2.1 c2).1.2)) (fun _ _ _ => rfl) (sh_3_7 sh17 (zfds (zlt_n ((hv.1 c1).2.1 c2).1.1 ((hv.1 c1).2.1 c2).1.2))) (by omega) dX6_layField_149 ?_
          refine wq_iconst (z := 0) (zlit rfl) dX6_layField_152 ?_
          refine wq_iload_n 2 rfl rfl dX6_layField_153 ?_
          refine wq_iconst (z := 1) (zlit rfl) dX6_layField_154 ?_
          refine wq_iadd (((((((((((hv.1 c1).2.1 c2).2 h3 e4) h5 e6) h7 e8).2 h9 e10).1 c11).2 h12 e13).1 c14).2 h15 e16).2 h17 e18).1 dX6_layField_155 ?_
          refine wq_copyI lk_X6_171 ac_n ac_s ac_i tT_337 (zfld7 (zfds (zlt_n ((hv.1 c1).2.1 c2).1.1 ((hv.1 c1).2.1 c2).1.2))) (((((((((((hv.1 c1).2.1 c2).2 h3 e4) h5 e6) h7 e8).2 h9 e10).1 c11).2 h12 e13).1 c14).2 h15 e16).2 h17 e18).2.1.1 (((((((((((hv.1 c1).2.1 c2).2 h3 e4) h5 e6) h7 e8).2 h9 e10).1 c11).2 h12 e13).1 c14).2 h15 e16).2 h17 e18).2.1.2.1 (((((((((((hv.1 c1).2.1 c2).2 h3 e4) h5 e6) h7 e8).2 h9 e10).1 c11).2 h12 e13).1 c14).2 h15 e16).2 h17 e18).2.1.2.2.1 (((((((((((hv.1 c1).2.1 c2).2 h3 e4) h5 e6) h7 e8).2 h9 e10).1 c11).2 h12 e13).1 c14).2 h15 e16).2 h17 e18).2.1.2.2.2.1 (((((((((((hv.1 c1).2.1 c2).2 h3 e4) h5 e6) h7 e8).2 h9 e10).1 c11).2 h12 e13).1 c14).2 h15 e16).2 h17 e18).2.1.2.2.2.2 (zrm_f (by omega)) (zrm_l (by omega)) (Nat.le_of_ble_eq_true rfl) dX6_layField_156 ?_
          refine wq_toph (fun h19 e20 => ?_)
          have sh19 : zSh h19 := zSh_of e20 sh17
          refine wq_aload_n 0 rfl rfl dX6_layField_159 ?_
          refine wq_dup rfl dX6_layField_160 ?_
          refine wq_getI fk_X6_52 tT_215 (fun _ _ _ => rfl) dX6_layField_161 ?_
          refine wq_iconst (z := 1) (zlit rfl) dX6_layField_164 ?_
          refine wq_iadd ((((((((((((hv.1 c1).2.1 c2).2 h3 e4) h5 e6) h7 e8).2 h9 e10).1 c11).2 h12 e13).1 c14).2 h15 e16).2 h17 e18).2.2 h19 e20).1 dX6_layField_165 ?_
          refine wq_putI fk_X6_52 tT_215 rfl rfl dX6_layField_166 ?_
          refine wq_toph (fun h21 e22 => ?_)
          have sh21 : zSh h21 := zSh_of e22 sh19
          refine wq_aload_n 0 rfl rfl dX6_layField_169 ?_
          refine wq_dup rfl dX6_layField_170 ?_
          refine wq_getI fk_X6_49 tT_215 (fun _ _ _ => rfl) dX6_layField_171 ?_
          refine wq_aload_n 1 rfl rfl dX6_layField_174 ?_
          refine wq_getI fk_X6_142 hT_p1 (fun _ _ _ => rfl) dX6_layField_175 ?_
          refine wq_iadd (((((((((((((hv.1 c1).2.1 c2).2 h3 e4) h5 e6) h7 e8).2 h9 e10).1 c11).2 h12 e13).1 c14).2 h15 e16).2 h17 e18).2.2 h19 e20).2 h21 e22).1 dX6_layField_178 ?_
          refine wq_putI fk_X6_49 tT_215 rfl rfl dX6_layField_179 ?_
          refine wq_toph (fun h23 e24 => ?_)
          have sh23 : zSh h23 := zSh_of e24 sh21
          exact wp_vret rfl dX6_layField_182 ((((((((((((((hv.1 c1).2.1 c2).2 h3 e4) h5 e6) h7 e8).2 h9 e10).1 c11).2 h12 e13).1 c14).2 h15 e16).2 h17 e18).2.2 h19 e20).2 h21 e22).2 h23 e24)
        · refine wq_sipush (z := -1009) (zlit rfl) rfl dX6_layField_118 ?_
          refine wq_goto 133 rfl dX6_layField_121 ?_
          refine wq_putI fk_X6_164 (zfds (zlt_n ((hv.1 c1).2.1 c2).1.1 ((hv.1 c1).2.1 c2).1.2)) rfl rfl dX6_layField_133 ?_
          refine wq_toph (fun h25 e26 => ?_)
          have sh25 : zSh h25 := zSh_of e26 sh12
          refine wq_aload_n 3 rfl rfl dX6_layField_136 ?_
          refine wq_iload_n 2 rfl rfl dX6_layField_137 ?_
          refine wq_iconst (z := 1) (zlit rfl) dX6_layField_138 ?_
          refine wq_iadd ((((((((((hv.1 c1).2.1 c2).2 h3 e4) h5 e6) h7 e8).2 h9 e10).1 c11).2 h12 e13).2 c14) h25 e26).1 dX6_layField_139 ?_
          refine wq_putI fk_X6_167 (zfds (zlt_n ((hv.1 c1).2.1 c2).1.1 ((hv.1 c1).2.1 c2).1.2)) rfl rfl dX6_layField_140 ?_
          refine wq_toph (fun h27 e28 => ?_)
          have sh27 : zSh h27 := zSh_of e28 sh25
          refine wq_aload_n 0 rfl rfl dX6_layField_143 ?_
          refine wq_getR fk_X6_28 tT_215 (fun _ _ _ => rfl) (sh_6_8 sh27) (by decide) dX6_layField_144 ?_
          refine wq_iconst (z := 0) (zlit rfl) dX6_layField_147 ?_
          refine wq_aload_n 3 rfl rfl dX6_layField_148 ?_
          refine wq_getR (r := ((217 + 2 * (gI h 215 1).toNat) + 1)) fk_X6_170 (zfds (zlt_n ((hv.1 c1).2.1 c2).1.1 ((hv.1 c1).2.1 c2).1.2)) (fun _ _ _ => rfl) (sh_3_7 sh27 (zfds (zlt_n ((hv.1 c1).2.1 c2).1.1 ((hv.1 c1).2.1 c2).1.2))) (by omega) dX6_layField_149 ?_
          refine wq_iconst (z := 0) (zlit rfl) dX6_layField_152 ?_
          refine wq_iload_n 2 rfl rfl dX6_layField_153 ?_
          refine wq_iconst (z := 1) (zlit rfl) dX6_layField_154 ?_
          refine wq_iadd (((((((((((hv.1 c1).2.1 c2).2 h3 e4) h5 e6) h7 e8).2 h9 e10).1 c11).2 h12 e13).2 c14) h25 e26).2 h27 e28).1 dX6_layField_155 ?_
          refine wq_copyI lk_X6_171 ac_n ac_s ac_i tT_337 (zfld7 (zfds (zlt_n ((hv.1 c1).2.1 c2).1.1 ((hv.1 c1).2.1 c2).1.2))) (((((((((((hv.1 c1).2.1 c2).2 h3 e4) h5 e6) h7 e8).2 h9 e10).1 c11).2 h12 e13).2 c14) h25 e26).2 h27 e28).2.1.1 (((((((((((hv.1 c1).2.1 c2).2 h3 e4) h5 e6) h7 e8).2 h9 e10).1 c11).2 h12 e13).2 c14) h25 e26).2 h27 e28).2.1.2.1 (((((((((((hv.1 c1).2.1 c2).2 h3 e4) h5 e6) h7 e8).2 h9 e10).1 c11).2 h12 e13).2 c14) h25 e26).2 h27 e28).2.1.2.2.1 (((((((((((hv.1 c1).2.1 c2).2 h3 e4) h5 e6) h7 e8).2 h9 e10).1 c11).2 h12 e13).2 c14) h25 e26).2 h27 e28).2.1.2.2.2.1 (((((((((((hv.1 c1).2.1 c2).2 h3 e4) h5 e6) h7 e8).2 h9 e10).1 c11).2 h12 e13).2 c14) h25 e26).2 h27 e28).2.1.2.2.2.2 (zrm_f (by omega)) (zrm_l (by omega)) (Nat.le_of_ble_eq_true rfl) dX6_layField_156 ?_
          refine wq_toph (fun h29 e30 => ?_)
          have sh29 : zSh h29 := zSh_of e30 sh27
          refine wq_aload_n 0 rfl rfl dX6_layField_159 ?_
          refine wq_dup rfl dX6_layField_160 ?_
          refine wq_getI fk_X6_52 tT_215 (fun _ _ _ => rfl) dX6_layField_161 ?_
          refine wq_iconst (z := 1) (zlit rfl) dX6_layField_164 ?_
          refine wq_iadd ((((((((((((hv.1 c1).2.1 c2).2 h3 e4) h5 e6) h7 e8).2 h9 e10).1 c11).2 h12 e13).2 c14) h25 e26).2 h27 e28).2.2 h29 e30).1 dX6_layField_165 ?_
          refine wq_putI fk_X6_52 tT_215 rfl rfl dX6_layField_166 ?_
          refine wq_toph (fun h31 e32 => ?_)
          have sh31 : zSh h31 := zSh_of e32 sh29
          refine wq_aload_n 0 rfl rfl dX6_layField_169 ?_
          refine wq_dup rfl dX6_layField_170 ?_
          refine wq_getI fk_X6_49 tT_215 (fun _ _ _ => rfl) dX6_layField_171 ?_
          refine wq_aload_n 1 rfl rfl dX6_layField_174 ?_
          refine wq_getI fk_X6_142 hT_p1 (fun _ _ _ => rfl) dX6_layField_175 ?_
          refine wq_iadd (((((((((((((hv.1 c1).2.1 c2).2 h3 e4) h5 e6) h7 e8).2 h9 e10).1 c11).2 h12 e13).2 c14) h25 e26).2 h27 e28).2.2 h29 e30).2 h31 e32).1 dX6_layField_178 ?_
          refine wq_putI fk_X6_49 tT_215 rfl rfl dX6_layField_179 ?_
          refine wq_toph (fun h33 e34 => ?_)
          have sh33 : zSh h33 := zSh_of e34 sh31
          exact wp_vret rfl dX6_layField_182 ((((((((((((((hv.1 c1).2.1 c2).2 h3 e4) h5 e6) h7 e8).2 h9 e10).1 c11).2 h12 e13).2 c14) h25 e26).2 h27 e28).2.2 h29 e30).2 h31 e32).2 h33 e34)
      · refine wq_sipush (z := -1009) (zlit rfl) rfl dX6_layField_91 ?_
        refine wq_goto 106 rfl dX6_layField_94 ?_
        refine wq_putI fk_X6_158 (zfds (zlt_n ((hv.1 c1).2.1 c2).1.1 ((hv.1 c1).2.1 c2).1.2)) rfl rfl dX6_layField_106 ?_
        refine wq_toph (fun h35 e36 => ?_)
        have sh35 : zSh h35 := zSh_of e36 sh9
        refine wq_aload_n 3 rfl rfl dX6_layField_109 ?_
        refine wq_aload_n 1 rfl rfl dX6_layField_110 ?_
        refine wq_getI fk_X6_161 hT_p1 (fun _ _ _ => rfl) dX6_layField_111 ?_
        refine wq_iconst (z := -1) (zlit rfl) dX6_layField_114 ?_
        refine wq_icmp_ne 124 rfl dX6_layField_115 (fun c37 => ?_) (fun c37 => ?_)
        · refine wq_aload_n 0 rfl rfl dX6_layField_124 ?_
          refine wq_getR fk_X6_39 tT_215 (fun _ _ _ => rfl) (sh_6_11 sh35) (by decide) dX6_layField_125 ?_
          refine wq_aload_n 1 rfl rfl dX6_layField_128 ?_
          refine wq_getI fk_X6_161 hT_p1 (fun _ _ _ => rfl) dX6_layField_129 ?_
          refine wq_iald tT_340 (((((((((hv.1 c1).2.1 c2).2 h3 e4) h5 e6) h7 e8).2 h9 e10).2 c11) h35 e36).1 c37).1.1 (((((((((hv.1 c1).2.1 c2).2 h3 e4) h5 e6) h7 e8).2 h9 e10).2 c11) h35 e36).1 c37).1.2 dX6_layField_132 ?_
          refine wq_putI fk_X6_164 (zfds (zlt_n ((hv.1 c1).2.1 c2).1.1 ((hv.1 c1).2.1 c2).1.2)) rfl rfl dX6_layField_133 ?_
          refine wq_toph (fun h38 e39 => ?_)
          have sh38 : zSh h38 := zSh_of e39 sh35
          refine wq_aload_n 3 rfl rfl dX6_layField_136 ?_
          refine wq_iload_n 2 rfl rfl dX6_layField_137 ?_
          refine wq_iconst (z := 1) (zlit rfl) dX6_layField_138 ?_
          refine wq_iadd ((((((((((hv.1 c1).2.1 c2).2 h3 e4) h5 e6) h7 e8).2 h9 e10).2 c11) h35 e36).1 c37).2 h38 e39).1 dX6_layField_139 ?_
          refine wq_putI fk_X6_167 (zfds (zlt_n ((hv.1 c1).2.1 c2).1.1 ((hv.1 c1).2.1 c2).1.2)) rfl rfl dX6_layField_140 ?_
          refine wq_toph (fun h40 e41 => ?_)
          have sh40 : zSh h40 := zSh_of e41 sh38
          refine wq_aload_n 0 rfl rfl dX6_layField_143 ?_
          refine wq_getR fk_X6_28 tT_215 (fun _ _ _ => rfl) (sh_6_8 sh40) (by decide) dX6_layField_144 ?_
          refine wq_iconst (z := 0) (zlit rfl) dX6_layField_147 ?_
          refine wq_aload_n 3 rfl rfl dX6_layField_148 ?_
          refine wq_getR (r := ((217 + 2 * (gI h 215 1).toNat) + 1)) fk_X6_170 (zfds (zlt_n ((hv.1 c1).2.1 c2).1.1 ((hv.1 c1).2.1 c2).1.2)) (fun _ _ _ => rfl) (sh_3_7 sh40 (zfds (zlt_n ((hv.1 c1).2.1 c2).1.1 ((hv.1 c1).2.1 c2).1.2))) (by omega) dX6_layField_149 ?_
          refine wq_iconst (z := 0) (zlit rfl) dX6_layField_152 ?_
          refine wq_iload_n 2 rfl rfl dX6_layField_153 ?_
          refine wq_iconst (z := 1) (zlit rfl) dX6_layField_154 ?_
          refine wq_iadd (((((((((((hv.1 c1).2.1 c2).2 h3 e4) h5 e6) h7 e8).2 h9 e10).2 c11) h35 e36).1 c37).2 h38 e39).2 h40 e41).1 dX6_layField_155 ?_
          refine wq_copyI lk_X6_171 ac_n ac_s ac_i tT_337 (zfld7 (zfds (zlt_n ((hv.1 c1).2.1 c2).1.1 ((hv.1 c1).2.1 c2).1.2))) (((((((((((hv.1 c1).2.1 c2).2 h3 e4) h5 e6) h7 e8).2 h9 e10).2 c11) h35 e36).1 c37).2 h38 e39).2 h40 e41).2.1.1 (((((((((((hv.1 c1).2.1 c2).2 h3 e4) h5 e6) h7 e8).2 h9 e10).2 c11) h35 e36).1 c37).2 h38 e39).2 h40 e41).2.1.2.1 (((((((((((hv.1 c1).2.1 c2).2 h3 e4) h5 e6) h7 e8).2 h9 e10).2 c11) h35 e36).1 c37).2 h38 e39).2 h40 e41).2.1.2.2.1 (((((((((((hv.1 c1).2.1 c2).2 h3 e4) h5 e6) h7 e8).2 h9 e10).2 c11) h35 e36).1 c37).2 h38 e39).2 h40 e41).2.1.2.2.2.1 (((((((((((hv.1 c1).2.1 c2).2 h3 e4) h5 e6) h7 e8).2 h9 e10).2 c11) h35 e36).1 c37).2 h38 e39).2 h40 e41).2.1.2.2.2.2 (zrm_f (by omega)) (zrm_l (by omega)) (Nat.le_of_ble_eq_true rfl) dX6_layField_156 ?_
          refine wq_toph (fun h42 e43 => ?_)
          have sh42 : zSh h42 := zSh_of e43 sh40
          refine wq_aload_n 0 rfl rfl dX6_layField_159 ?_
          refine wq_dup rfl dX6_layField_160 ?_
          refine wq_getI fk_X6_52 tT_215 (fun _ _ _ => rfl) dX6_layField_161 ?_
          refine wq_iconst (z := 1) (zlit rfl) dX6_layField_164 ?_
          refine wq_iadd ((((((((((((hv.1 c1).2.1 c2).2 h3 e4) h5 e6) h7 e8).2 h9 e10).2 c11) h35 e36).1 c37).2 h38 e39).2 h40 e41).2.2 h42 e43).1 dX6_layField_165 ?_
          refine wq_putI fk_X6_52 tT_215 rfl rfl dX6_layField_166 ?_
          refine wq_toph (fun h44 e45 => ?_)
          have sh44 : zSh h44 := zSh_of e45 sh42
          refine wq_aload_n 0 rfl rfl dX6_layField_169 ?_
          refine wq_dup rfl dX6_layField_170 ?_
          refine wq_getI fk_X6_49 tT_215 (fun _ _ _ => rfl) dX6_layField_171 ?_
          refine wq_aload_n 1 rfl rfl dX6_layField_174 ?_
          refine wq_getI fk_X6_142 hT_p1 (fun _ _ _ => rfl) dX6_layField_175 ?_
          refine wq_iadd (((((((((((((hv.1 c1).2.1 c2).2 h3 e4) h5 e6) h7 e8).2 h9 e10).2 c11) h35 e36).1 c37).2 h38 e39).2 h40 e41).2.2 h42 e43).2 h44 e45).1 dX6_layField_178 ?_
          refine wq_putI fk_X6_49 tT_215 rfl rfl dX6_layField_179 ?_
          refine wq_toph (fun h46 e47 => ?_)
          have sh46 : zSh h46 := zSh_of e47 sh44
          exact wp_vret rfl dX6_layField_182 ((((((((((((((hv.1 c1).2.1 c2).2 h3 e4) h5 e6) h7 e8).2 h9 e10).2 c11) h35 e36).1 c37).2 h38 e39).2 h40 e41).2.2 h42 e43).2 h44 e45).2 h46 e47)
        · refine wq_sipush (z := -1009) (zlit rfl) rfl dX6_layField_118 ?_
          refine wq_goto 133 rfl dX6_layField_121 ?_
          refine wq_putI fk_X6_164 (zfds (zlt_n ((hv.1 c1).2.1 c2).1.1 ((hv.1 c1).2.1 c2).1.2)) rfl rfl dX6_layField_133 ?_
          refine wq_toph (fun h48 e49 => ?_)
          have sh48 : zSh h48 := zSh_of e49 sh35
          refine wq_aload_n 3 rfl rfl dX6_layField_136 ?_
          refine wq_iload_n 2 rfl rfl dX6_layField_137 ?_
          refine wq_iconst (z := 1) (zlit rfl) dX6_layField_138 ?_
          refine wq_iadd ((((((((((hv.1 c1).2.1 c2).2 h3 e4) h5 e6) h7 e8).2 h9 e10).2 c11) h35 e36).2 c37) h48 e49).1 dX6_layField_139 ?_
          refine wq_putI fk_X6_167 (zfds (zlt_n ((hv.1 c1).2.1 c2).1.1 ((hv.1 c1).2.1 c2).1.2)) rfl rfl dX6_layField_140 ?_
          refine wq_toph (fun h50 e51 => ?_)
          have sh50 : zSh h50 := zSh_of e51 sh48
          refine wq_aload_n 0 rfl rfl dX6_layField_143 ?_
          refine wq_getR fk_X6_28 tT_215 (fun _ _ _ => rfl) (sh_6_8 sh50) (by decide) dX6_layField_144 ?_
          refine wq_iconst (z := 0) (zlit rfl) dX6_layField_147 ?_
          refine wq_aload_n 3 rfl rfl dX6_layField_148 ?_
          refine wq_getR (r := ((217 + 2 * (gI h 215 1).toNat) + 1)) fk_X6_170 (zfds (zlt_n ((hv.1 c1).2.1 c2).1.1 ((hv.1 c1).2.1 c2).1.2)) (fun _ _ _ => rfl) (sh_3_7 sh50 (zfds (zlt_n ((hv.1 c1).2.1 c2).1.1 ((hv.1 c1).2.1 c2).1.2))) (by omega) dX6_layField_149 ?_
          refine wq_iconst (z := 0) (zlit rfl) dX6_layField_152 ?_
          refine wq_iload_n 2 rfl rfl dX6_layField_153 ?_
          refine wq_iconst (z := 1) (zlit rfl) dX6_layField_154 ?_
          refine wq_iadd (((((((((((hv.1 c1).2.1 c2).2 h3 e4) h5 e6) h7 e8).2 h9 e10).2 c11) h35 e36).2 c37) h48 e49).2 h50 e51).1 dX6_layField_155 ?_
          refine wq_copyI lk_X6_171 ac_n ac_s ac_i tT_337 (zfld7 (zfds (zlt_n ((hv.1 c1).2.1 c2).1.1 ((hv.1 c1).2.1 c2).1.2))) (((((((((((hv.1 c1).2.1 c2).2 h3 e4) h5 e6) h7 e8).2 h9 e10).2 c11) h35 e36).2 c37) h48 e49).2 h50 e51).2.1.1 (((((((((((hv.1 c1).2.1 c2).2 h3 e4) h5 e6) h7 e8).2 h9 e10).2 c11) h35 e36).2 c37) h48 e49).2 h50 e51).2.1.2.1 (((((((((((hv.1 c1).2.1 c2).2 h3 e4) h5 e6) h7 e8).2 h9 e10).2 c11) h35 e36).2 c37) h48 e49).2 h50 e51).2.1.2.2.1 (((((((((((hv.1 c1).2.1 c2).2 h3 e4) h5 e6) h7 e8).2 h9 e10).2 c11) h35 e36).2 c37) h48 e49).2 h50 e51).2.1.2.2.2.1 (((((((((((hv.1 c1).2.1 c2).2 h3 e4) h5 e6) h7 e8).2 h9 e10).2 c11) h35 e36).2 c37) h48 e49).2 h50 e51).2.1.2.2.2.2 (zrm_f (by omega)) (zrm_l (by omega)) (Nat.le_of_ble_eq_true rfl) dX6_layField_156 ?_
          refine wq_toph (fun h52 e53 => ?_)
          have sh52 : zSh h52 := zSh_of e53 sh50
          refine wq_aload_n 0 rfl rfl dX6_layField_159 ?_
          refine wq_dup rfl dX6_layField_160 ?_
          refine wq_getI fk_X6_52 tT_215 (fun _ _ _ => rfl) dX6_layField_161 ?_
          refine wq_iconst (z := 1) (zlit rfl) dX6_layField_164 ?_
          refine wq_iadd ((((((((((((hv.1 c1).2.1 c2).2 h3 e4) h5 e6) h7 e8).2 h9 e10).2 c11) h35 e36).2 c37) h48 e49).2 h50 e51).2.2 h52 e53).1 dX6_layField_165 ?_
          refine wq_putI fk_X6_52 tT_215 rfl rfl dX6_layField_166 ?_
          refine wq_toph (fun h54 e55 => ?_)
          have sh54 : zSh h54 := zSh_of e55 sh52
          refine wq_aload_n 0 rfl rfl dX6_layField_169 ?_
          refine wq_dup rfl dX6_layField_170 ?_
          refine wq_getI fk_X6_49 tT_215 (fun _ _ _ => rfl) dX6_layField_171 ?_
          refine wq_aload_n 1 rfl rfl dX6_layField_174 ?_
          refine wq_getI fk_X6_142 hT_p1 (fun _ _ _ => rfl) dX6_layField_175 ?_
          refine wq_iadd (((((((((((((hv.1 c1).2.1 c2).2 h3 e4) h5 e6) h7 e8).2 h9 e10).2 c11) h35 e36).2 c37) h48 e49).2 h50 e51).2.2 h52 e53).2 h54 e55).1 dX6_layField_178 ?_
          refine wq_putI fk_X6_49 tT_215 rfl rfl dX6_layField_179 ?_
          refine wq_toph (fun h56 e57 => ?_)
          have sh56 : zSh h56 := zSh_of e57 sh54
          exact wp_vret rfl dX6_layField_182 ((((((((((((((hv.1 c1).2.1 c2).2 h3 e4) h5 e6) h7 e8).2 h9 e10).2 c11) h35 e36).2 c37) h48 e49).2 h50 e51).2.2 h52 e53).2 h54 e55).2 h56 e57)
    · refine wq_aload_n 0 rfl rfl dX6_layField_34 ?_
      refine wq_iconst (z := 1) (zlit rfl) dX6_layField_35 ?_
      refine wq_putI fk_X6_58 tT_215 rfl rfl dX6_layField_36 ?_
      refine wq_toph (fun h58 e59 => ?_)
      have sh58 : zSh h58 := zSh_of e59 hS
      exact wp_vret rfl dX6_layField_39 (((hv.1 c1).2.2 c2) h58 e59)
  · refine wq_aload_n 0 rfl rfl dX6_layField_9 ?_
    refine wq_iconst (z := 2) (zlit rfl) dX6_layField_10 ?_
    refine wq_putI fk_X6_58 tT_215 rfl rfl dX6_layField_11 ?_
    refine wq_toph (fun h60 e61 => ?_)
    have sh60 : zSh h60 := zSh_of e61 hS
    exact wp_vret rfl dX6_layField_14 ((hv.2 c1) h60 e61)
theorem dX6_seek_0 : decode cX6_seek 0 = .ok (.iload_n 1, 1) := by decide +kernel
theorem dX6_seek_1 : decode cX6_seek 1 = .ok (.ifCond .lt 11, 3) := by decide +kernel
theorem dX6_seek_4 : decode cX6_seek 4 = .ok (.iload_n 1, 1) := by decide +kernel
theorem dX6_seek_5 : decode cX6_seek 5 = .ok (.aload_n 0, 1) := by decide +kernel
theorem dX6_seek_6 : decode cX6_seek 6 = .ok (.getfield 52, 3) := by decide +kernel
theorem dX6_seek_9 : decode cX6_seek 9 = .ok (.if_icmp .lt 4, 3) := by decide +kernel
theorem dX6_seek_12 : decode cX6_seek 12 = .ok (.return_, 1) := by decide +kernel
theorem dX6_seek_13 : decode cX6_seek 13 = .ok (.aload_n 0, 1) := by decide +kernel
theorem dX6_seek_14 : decode cX6_seek 14 = .ok (.aload_n 0, 1) := by decide +kernel
theorem dX6_seek_15 : decode cX6_seek 15 = .ok (.getfield 13, 3) := by decide +kernel
theorem dX6_seek_18 : decode cX6_seek 18 = .ok (.iload_n 1, 1) := by decide +kernel
theorem dX6_seek_19 : decode cX6_seek 19 = .ok (.aaload, 1) := by decide +kernel
theorem dX6_seek_20 : decode cX6_seek 20 = .ok (.getfield 167, 3) := by decide +kernel
theorem dX6_seek_23 : decode cX6_seek 23 = .ok (.putfield 177, 3) := by decide +kernel
theorem dX6_seek_26 : decode cX6_seek 26 = .ok (.aload_n 0, 1) := by decide +kernel
theorem dX6_seek_27 : decode cX6_seek 27 = .ok (.getfield 13, 3) := by decide +kernel
theorem dX6_seek_30 : decode cX6_seek 30 = .ok (.iload_n 1, 1) := by decide +kernel
theorem dX6_seek_31 : decode cX6_seek 31 = .ok (.aaload, 1) := by decide +kernel
theorem dX6_seek_32 : decode cX6_seek 32 = .ok (.getfield 170, 3) := by decide +kernel
theorem dX6_seek_35 : decode cX6_seek 35 = .ok (.iconst 0, 1) := by decide +kernel
theorem dX6_seek_36 : decode cX6_seek 36 = .ok (.aload_n 0, 1) := by decide +kernel
theorem dX6_seek_37 : decode cX6_seek 37 = .ok (.getfield 42, 3) := by decide +kernel
theorem dX6_seek_40 : decode cX6_seek 40 = .ok (.iconst 0, 1) := by decide +kernel
theorem dX6_seek_41 : decode cX6_seek 41 = .ok (.aload_n 0, 1) := by decide +kernel
theorem dX6_seek_42 : decode cX6_seek 42 = .ok (.getfield 42, 3) := by decide +kernel
theorem dX6_seek_45 : decode cX6_seek 45 = .ok (.arraylength, 1) := by decide +kernel
theorem dX6_seek_46 : decode cX6_seek 46 = .ok (.invokestatic 171, 3) := by decide +kernel
theorem dX6_seek_49 : decode cX6_seek 49 = .ok (.return_, 1) := by decide +kernel
theorem vc_X6_seek_0 {G : zG} {d : Nat} {Q : Option zV → zHp → Prop} (p1 : Int) (h : zHp) (hS : zSh h) (hd : 1 ≤ d)  
    (hv : ((p1 < 0 → Q none h) ∧ (0 ≤ p1 → ((p1 < (gI h 215 1) → (((0 : Int) ≤ p1 ∧ p1 < ((60 : Nat) : Int)) ∧ (∀ h3 : zHp, h3 = sI h 215 13 (gI h (217 + 2 * p1.toNat) 6) → (((0 : Int) ≤ p1 ∧ p1 < ((60 : Nat) : Int)) ∧ (((0 : Int) ≤ 0 ∧ (0 : Int) ≤ 0 ∧ (0 : Int) ≤ ((4 : Nat) : Int) ∧ 0 + ((4 : Nat) : Int) ≤ ((4 : Nat) : Int) ∧ 0 + ((4 : Nat) : Int) ≤ ((4 : Nat) : Int)) ∧ ∀ h5 : zHp, h5 = cpI h3 ((217 + 2 * p1.toNat) + 1) 0 341 0 ((4 : Nat) : Int).toNat → Q none h5))))) ∧ ((gI h 215 1) ≤ p1 → Q none h))))) : wpN G d M_X6_seek 0 [(0, vR 215), (1, vI p1)] [] h Q := by
  refine wq_iload_n 1 rfl rfl dX6_seek_0 ?_
  refine wq_if_lt 12 rfl dX6_seek_1 (fun c1 => ?_) (fun c1 => ?_)
  · exact wp_vret rfl dX6_seek_12 (hv.1 c1)
  · refine wq_iload_n 1 rfl rfl dX6_seek_4 ?_
    refine wq_aload_n 0 rfl rfl dX6_seek_5 ?_
    refine wq_getI fk_X6_52 tT_215 (fun _ _ _ => rfl) dX6_seek_6 ?_
    refine wq_icmp_lt 13 rfl dX6_seek_9 (fun c2 => ?_) (fun c2 => ?_)
    · refine wq_aload_n 0 rfl rfl dX6_seek_13 ?_
      refine wq_aload_n 0 rfl rfl dX6_seek_14 ?_
      refine wq_getR fk_X6_13 tT_215 (fun _ _ _ => rfl) (sh_6_0 hS) (by decide) dX6_seek_15 ?_
      refine wq_iload_n 1 rfl rfl dX6_seek_18 ?_
      refine wq_aald (r := (217 + 2 * p1.toNat)) tT_216 (by decide) (by decide) rfl ((hv.2 c1).1 c2).1.1 ((hv.2 c1).1 c2).1.2 (sh_fds hS (zlt_n ((hv.2 c1).1 c2).1.1 ((hv.2 c1).1 c2).1.2)) (by omega) dX6_seek_19 ?_
      refine wq_getI fk_X6_167 (zfds (zlt_n ((hv.2 c1).1 c2).1.1 ((hv.2 c1).1 c2).1.2)) (fun _ _ _ => rfl) dX6_seek_20 ?_
      refine wq_putI fk_X6_177 tT_215 rfl rfl dX6_seek_23 ?_
      refine wq_toph (fun h3 e4 => ?_)
      have sh3 : zSh h3 := zSh_of e4 hS
      refine wq_aload_n 0 rfl rfl dX6_seek_26 ?_
      refine wq_getR fk_X6_13 tT_215 (fun _ _ _ => rfl) (sh_6_0 sh3) (by decide) dX6_seek_27 ?_
      refine wq_iload_n 1 rfl rfl dX6_seek_30 ?_
      refine wq_aald (r := (217 + 2 * p1.toNat)) tT_216 (by decide) (by decide) rfl (((hv.2 c1).1 c2).2 h3 e4).1.1 (((hv.2 c1).1 c2).2 h3 e4).1.2 (sh_fds sh3 (zlt_n (((hv.2 c1).1 c2).2 h3 e4).1.1 (((hv.2 c1).1 c2).2 h3 e4).1.2)) (by omega) dX6_seek_31 ?_
      refine wq_getR (r := ((217 + 2 * p1.toNat) + 1)) fk_X6_170 (zfds (zlt_n (((hv.2 c1).1 c2).2 h3 e4).1.1 (((hv.2 c1).1 c2).2 h3 e4).1.2)) (fun _ _ _ => rfl) (sh_3_7 sh3 (zfds (zlt_n (((hv.2 c1).1 c2).2 h3 e4).1.1 (((hv.2 c1).1 c2).2 h3 e4).1.2))) (by omega) dX6_seek_32 ?_
      refine wq_iconst (z := 0) (zlit rfl) dX6_seek_35 ?_
      refine wq_aload_n 0 rfl rfl dX6_seek_36 ?_
      refine wq_getR fk_X6_42 tT_215 (fun _ _ _ => rfl) (sh_6_12 sh3) (by decide) dX6_seek_37 ?_
      refine wq_iconst (z := 0) (zlit rfl) dX6_seek_40 ?_
      refine wq_aload_n 0 rfl rfl dX6_seek_41 ?_
      refine wq_getR fk_X6_42 tT_215 (fun _ _ _ => rfl) (sh_6_12 sh3) (by decide) dX6_seek_42 ?_
      refine wq_alen tT_341 (by decide) (by decide) dX6_seek_45 ?_
      refine wq_copyI lk_X6_171 ac_n ac_s ac_i (zfld7 (zfds (zlt_n (((hv.2 c1).1 c2).2 h3 e4).1.1 (((hv.2 c1).1 c2).2 h3 e4).1.2))) tT_341 (((hv.2 c1).1 c2).2 h3 e4).2.1.1 (((hv.2 c1).1 c2).2 h3 e4).2.1.2.1 (((hv.2 c1).1 c2).2 h3 e4).2.1.2.2.1 (((hv.2 c1).1 c2).2 h3 e4).2.1.2.2.2.1 (((hv.2 c1).1 c2).2 h3 e4).2.1.2.2.2.2 (zrm_f (by omega)) (zrm_l (by omega)) (Nat.le_of_ble_eq_true rfl) dX6_seek_46 ?_
      refine wq_toph (fun h5 e6 => ?_)
      have sh5 : zSh h5 := zSh_of e6 sh3
      exact wp_vret rfl dX6_seek_49 ((((hv.2 c1).1 c2).2 h3 e4).2.2 h5 e6)
    · exact wp_vret rfl dX6_seek_12 ((hv.2 c1).2 c2)
theorem dX6_firstSought_0 : decode cX6_firstSought 0 = .ok (.iconst 0, 1) := by decide +kernel
theorem dX6_firstSought_1 : decode cX6_firstSought 1 = .ok (.istore_n 1, 1) := by decide +kernel
theorem dX6_firstSought_2 : decode cX6_firstSought 2 = .ok (.iload_n 1, 1) := by decide +kernel
theorem dX6_firstSought_3 : decode cX6_firstSought 3 = .ok (.aload_n 0, 1) := by decide +kernel
theorem dX6_firstSought_4 : decode cX6_firstSought 4 = .ok (.getfield 52, 3) := by decide +kernel
theorem dX6_firstSought_7 : decode cX6_firstSought 7 = .ok (.if_icmp .ge 24, 3) := by decide +kernel
theorem dX6_firstSought_10 : decode cX6_firstSought 10 = .ok (.aload_n 0, 1) := by decide +kernel
theorem dX6_firstSought_11 : decode cX6_firstSought 11 = .ok (.aload_n 0, 1) := by decide +kernel
theorem dX6_firstSought_12 : decode cX6_firstSought 12 = .ok (.getfield 13, 3) := by decide +kernel
theorem dX6_firstSought_15 : decode cX6_firstSought 15 = .ok (.iload_n 1, 1) := by decide +kernel
theorem dX6_firstSought_16 : decode cX6_firstSought 16 = .ok (.aaload, 1) := by decide +kernel
theorem dX6_firstSought_17 : decode cX6_firstSought 17 = .ok (.invokevirtual 180, 3) := by decide +kernel
theorem dX6_firstSought_20 : decode cX6_firstSought 20 = .ok (.ifCond .eq 5, 3) := by decide +kernel
theorem dX6_firstSought_23 : decode cX6_firstSought 23 = .ok (.iload_n 1, 1) := by decide +kernel
theorem dX6_firstSought_24 : decode cX6_firstSought 24 = .ok (.ireturn, 1) := by decide +kernel
theorem dX6_firstSought_25 : decode cX6_firstSought 25 = .ok (.iinc 1 1, 3) := by decide +kernel
theorem dX6_firstSought_28 : decode cX6_firstSought 28 = .ok (.goto (-26), 3) := by decide +kernel
theorem dX6_firstSought_31 : decode cX6_firstSought 31 = .ok (.sipush (-1009), 3) := by decide +kernel
theorem dX6_firstSought_34 : decode cX6_firstSought 34 = .ok (.ireturn, 1) := by decide +kernel
theorem vc_X6_firstSought_0 {G : zG} {d : Nat} {Q : Option zV → zHp → Prop}  (h : zHp) (hS : zSh h) (hd : 1 ≤ d) (I_2 : Int → zHp → Prop) (hI_2 : ∀ (y1 : Int) (h' : zHp), I_2 y1 h' → wpN G d M_X6_firstSought 2 [(0, vR 215), (1, vI y1)] [] h' Q) 
    (hv : (zSh h → I_2 0 h)) : wpN G d M_X6_firstSought 0 [(0, vR 215)] [] h Q := by
  refine wq_iconst (z := 0) (zlit rfl) dX6_firstSought_0 ?_
  refine wq_istore_n (ls' := [(0, vR 215), (1, vI 0)]) rfl (by decide) rfl dX6_firstSought_1 ?_
  exact wq_pick [0, 1] rfl (hI_2 0 h (hv hS))
theorem vc_X6_firstSought_2 {G : zG} {d : Nat} {Q : Option zV → zHp → Prop} (y1 : Int) (h : zHp) (hS : zSh h) (hd : 1 ≤ d) (I_2 : Int → zHp → Prop) (hI_2 : ∀ (y1 : Int) (h' : zHp), I_2 y1 h' → wpN G d M_X6_firstSought 2 [(0, vR 215), (1, vI y1)] [] h' Q) 
    (hv : (((gI h 215 1) ≤ y1 → Q (some (vI (-1009))) h) ∧ (y1 < (gI h 215 1) → (((0 : Int) ≤ y1 ∧ y1 < ((60 : Nat) : Int)) ∧ (wpN G (d - 1) M_X6_isSought 0 (zar 0 [vR 215, vR (217 + 2 * y1.toNat)]) [] h (qI (fun z2 h3 => zSh h3 ∧ ((z2 = 0 → ((-2147483648 ≤ y1 + 1 ∧ y1 + 1 ≤ 2147483647) ∧ ∀ x7 : Int, x7 = y1 + 1 → (zSh h3 → I_2 x7 h3))) ∧ (z2 ≠ 0 → Q (some (vI y1)) h3))))))))) : wpN G d M_X6_firstSought 2 [(0, vR 215), (1, vI y1)] [] h Q := by
  refine wq_iload_n 1 rfl rfl dX6_firstSought_2 ?_
  refine wq_aload_n 0 rfl rfl dX6_firstSought_3 ?_
  refine wq_getI fk_X6_52 tT_215 (fun _ _ _ => rfl) dX6_firstSought_4 ?_
  refine wq_icmp_ge 31 rfl dX6_firstSought_7 (fun c1 => ?_) (fun c1 => ?_)
  · refine wq_sipush (z := -1009) (zlit rfl) rfl dX6_firstSought_31 ?_
    exact wp_iret rfl dX6_firstSought_34 (hv.1 c1)
  · refine wq_aload_n 0 rfl rfl dX6_firstSought_10 ?_
    refine wq_aload_n 0 rfl rfl dX6_firstSought_11 ?_
    refine wq_getR fk_X6_13 tT_215 (fun _ _ _ => rfl) (sh_6_0 hS) (by decide) dX6_firstSought_12 ?_
    refine wq_iload_n 1 rfl rfl dX6_firstSought_15 ?_
    refine wq_aald (r := (217 + 2 * y1.toNat)) tT_216 (by decide) (by decide) rfl (hv.2 c1).1.1 (hv.2 c1).1.2 (sh_fds hS (zlt_n (hv.2 c1).1.1 (hv.2 c1).1.2)) (by omega) dX6_firstSought_16 ?_
    refine wN_V (As := [vR (217 + 2 * y1.toNat)]) vm_X6_isSought lk_X6_180 tT_215 rfl rfl (Nat.le_of_ble_eq_true rfl) (Nat.le_of_ble_eq_true rfl) (d' := d - 1) (by omega) dX6_firstSought_17 (hv.2 c1).2 (fun v9 h3 q4 => ?_)
    obtain ⟨z2, rfl, hS5, q4⟩ := q4
    refine wq_st (st' := [vI z2]) rfl ?_
    refine wq_if_eq 25 rfl dX6_firstSought_20 (fun c6 => ?_) (fun c6 => ?_)
    · refine z_nm (y1 + 1) (fun x7 e8 => ?_)
      refine wq_iinc (y := x7) (ls' := [(0, vR 215), (1, vI x7)]) 1 rfl e8.symm (by rw [e8]; exact (q4.1 c6).1) (by decide) rfl dX6_firstSought_25 ?_
      refine wq_goto 2 rfl dX6_firstSought_28 ?_
      exact wq_pick [0, 1] rfl (hI_2 x7 h3 (((q4.1 c6).2 x7 e8) hS5))
    · refine wq_iload_n 1 rfl rfl dX6_firstSought_23 ?_
      exact wp_iret rfl dX6_firstSought_24 (q4.2 c6)
theorem dX6_isSought_0 : decode cX6_isSought 0 = .ok (.aload_n 1, 1) := by decide +kernel
theorem dX6_isSought_1 : decode cX6_isSought 1 = .ok (.getfield 167, 3) := by decide +kernel
theorem dX6_isSought_4 : decode cX6_isSought 4 = .ok (.aload_n 0, 1) := by decide +kernel
theorem dX6_isSought_5 : decode cX6_isSought 5 = .ok (.getfield 177, 3) := by decide +kernel
theorem dX6_isSought_8 : decode cX6_isSought 8 = .ok (.if_icmp .eq 5, 3) := by decide +kernel
theorem dX6_isSought_11 : decode cX6_isSought 11 = .ok (.iconst 0, 1) := by decide +kernel
theorem dX6_isSought_12 : decode cX6_isSought 12 = .ok (.ireturn, 1) := by decide +kernel
theorem dX6_isSought_13 : decode cX6_isSought 13 = .ok (.iconst 0, 1) := by decide +kernel
theorem dX6_isSought_14 : decode cX6_isSought 14 = .ok (.istore_n 2, 1) := by decide +kernel
theorem dX6_isSought_15 : decode cX6_isSought 15 = .ok (.iload_n 2, 1) := by decide +kernel
theorem dX6_isSought_16 : decode cX6_isSought 16 = .ok (.aload_n 0, 1) := by decide +kernel
theorem dX6_isSought_17 : decode cX6_isSought 17 = .ok (.getfield 177, 3) := by decide +kernel
theorem dX6_isSought_20 : decode cX6_isSought 20 = .ok (.if_icmp .ge 26, 3) := by decide +kernel
theorem dX6_isSought_23 : decode cX6_isSought 23 = .ok (.aload_n 1, 1) := by decide +kernel
theorem dX6_isSought_24 : decode cX6_isSought 24 = .ok (.getfield 170, 3) := by decide +kernel
theorem dX6_isSought_27 : decode cX6_isSought 27 = .ok (.iload_n 2, 1) := by decide +kernel
theorem dX6_isSought_28 : decode cX6_isSought 28 = .ok (.iaload, 1) := by decide +kernel
theorem dX6_isSought_29 : decode cX6_isSought 29 = .ok (.aload_n 0, 1) := by decide +kernel
theorem dX6_isSought_30 : decode cX6_isSought 30 = .ok (.getfield 42, 3) := by decide +kernel
theorem dX6_isSought_33 : decode cX6_isSought 33 = .ok (.iload_n 2, 1) := by decide +kernel
theorem dX6_isSought_34 : decode cX6_isSought 34 = .ok (.iaload, 1) := by decide +kernel
theorem dX6_isSought_35 : decode cX6_isSought 35 = .ok (.if_icmp .eq 5, 3) := by decide +kernel
theorem dX6_isSought_38 : decode cX6_isSought 38 = .ok (.iconst 0, 1) := by decide +kernel
theorem dX6_isSought_39 : decode cX6_isSought 39 = .ok (.ireturn, 1) := by decide +kernel
theorem dX6_isSought_40 : decode cX6_isSought 40 = .ok (.iinc 2 1, 3) := by decide +kernel
theorem dX6_isSought_43 : decode cX6_isSought 43 = .ok (.goto (-28), 3) := by decide +kernel
theorem dX6_isSought_46 : decode cX6_isSought 46 = .ok (.iconst 1, 1) := by decide +kernel
theorem dX6_isSought_47 : decode cX6_isSought 47 = .ok (.ireturn, 1) := by decide +kernel
theorem vc_X6_isSought_0 {G : zG} {d : Nat} {Q : Option zV → zHp → Prop} (p1 : Nat) (hT_p1 : zT 369 p1 = (103, 8)) (h : zHp) (hS : zSh h) (hd : 0 ≤ d) (I_15 : Nat → Int → zHp → Prop) (hI_15 : ∀ (y1 : Nat) (y2 : Int) (h' : zHp), I_15 y1 y2 h' → wpN G d M_X6_isSought 15 [(0, vR 215), (1, vR y1), (2, vI y2)] [] h' Q) 
    (hv : (((gI h p1 6) = (gI h 215 13) → (zSh h → I_15 p1 0 h)) ∧ ((gI h p1 6) ≠ (gI h 215 13) → Q (some (vI 0)) h))) : wpN G d M_X6_isSought 0 [(0, vR 215), (1, vR p1)] [] h Q := by
  refine wq_aload_n 1 rfl rfl dX6_isSought_0 ?_
  refine wq_getI fk_X6_167 hT_p1 (fun _ _ _ => rfl) dX6_isSought_1 ?_
  refine wq_aload_n 0 rfl rfl dX6_isSought_4 ?_
  refine wq_getI fk_X6_177 tT_215 (fun _ _ _ => rfl) dX6_isSought_5 ?_
  refine wq_icmp_eq 13 rfl dX6_isSought_8 (fun c1 => ?_) (fun c1 => ?_)
  · refine wq_iconst (z := 0) (zlit rfl) dX6_isSought_13 ?_
    refine wq_istore_n (ls' := [(0, vR 215), (1, vR p1), (2, vI 0)]) rfl (by decide) rfl dX6_isSought_14 ?_
    exact wq_pick [0, 1, 2] rfl (hI_15 p1 0 h ((hv.1 c1) hS))
  · refine wq_iconst (z := 0) (zlit rfl) dX6_isSought_11 ?_
    exact wp_zret (Or.inl rfl) rfl dX6_isSought_12 (hv.2 c1)
theorem vc_X6_isSought_15 {G : zG} {d : Nat} {Q : Option zV → zHp → Prop} (y1 : Nat) (hT_y1 : zT 369 y1 = (103, 8)) (y2 : Int) (h : zHp) (hS : zSh h) (hd : 0 ≤ d) (I_15 : Nat → Int → zHp → Prop) (hI_15 : ∀ (y1 : Nat) (y2 : Int) (h' : zHp), I_15 y1 y2 h' → wpN G d M_X6_isSought 15 [(0, vR 215), (1, vR y1), (2, vI y2)] [] h' Q) 
    (hv : (((gI h 215 13) ≤ y2 → Q (some (vI 1)) h) ∧ (y2 < (gI h 215 13) → (((0 : Int) ≤ y2 ∧ y2 < ((4 : Nat) : Int)) ∧ (((0 : Int) ≤ y2 ∧ y2 < ((4 : Nat) : Int)) ∧ (((gI h (y1 + 1) y2.toNat) = (gI h 341 y2.toNat) → ((-2147483648 ≤ y2 + 1 ∧ y2 + 1 ≤ 2147483647) ∧ ∀ x3 : Int, x3 = y2 + 1 → (zSh h → I_15 y1 x3 h))) ∧ ((gI h (y1 + 1) y2.toNat) ≠ (gI h 341 y2.toNat) → Q (some (vI 0)) h))))))) : wpN G d M_X6_isSought 15 [(0, vR 215), (1, vR y1), (2, vI y2)] [] h Q := by
  refine wq_iload_n 2 rfl rfl dX6_isSought_15 ?_
  refine wq_aload_n 0 rfl rfl dX6_isSought_16 ?_
  refine wq_getI fk_X6_177 tT_215 (fun _ _ _ => rfl) dX6_isSought_17 ?_
  refine wq_icmp_ge 46 rfl dX6_isSought_20 (fun c1 => ?_) (fun c1 => ?_)
  · refine wq_iconst (z := 1) (zlit rfl) dX6_isSought_46 ?_
    exact wp_zret (Or.inr rfl) rfl dX6_isSought_47 (hv.1 c1)
  · refine wq_aload_n 1 rfl rfl dX6_isSought_23 ?_
    refine wq_getR (r := (y1 + 1)) fk_X6_170 hT_y1 (fun _ _ _ => rfl) (sh_3_7 hS hT_y1) (by omega) dX6_isSought_24 ?_
    refine wq_iload_n 2 rfl rfl dX6_isSought_27 ?_
    refine wq_iald (zfld7 hT_y1) (hv.2 c1).1.1 (hv.2 c1).1.2 dX6_isSought_28 ?_
    refine wq_aload_n 0 rfl rfl dX6_isSought_29 ?_
    refine wq_getR fk_X6_42 tT_215 (fun _ _ _ => rfl) (sh_6_12 hS) (by decide) dX6_isSought_30 ?_
    refine wq_iload_n 2 rfl rfl dX6_isSought_33 ?_
    refine wq_iald tT_341 (hv.2 c1).2.1.1 (hv.2 c1).2.1.2 dX6_isSought_34 ?_
    refine wq_icmp_eq 40 rfl dX6_isSought_35 (fun c2 => ?_) (fun c2 => ?_)
    · refine z_nm (y2 + 1) (fun x3 e4 => ?_)
      refine wq_iinc (y := x3) (ls' := [(0, vR 215), (1, vR y1), (2, vI x3)]) 2 rfl e4.symm (by rw [e4]; exact ((hv.2 c1).2.2.1 c2).1) (by decide) rfl dX6_isSought_40 ?_
      refine wq_goto 15 rfl dX6_isSought_43 ?_
      exact wq_pick [0, 1, 2] rfl (hI_15 y1 x3 h ((((hv.2 c1).2.2.1 c2).2 x3 e4) hS))
    · refine wq_iconst (z := 0) (zlit rfl) dX6_isSought_38 ?_
      exact wp_zret (Or.inl rfl) rfl dX6_isSought_39 ((hv.2 c1).2.2.2 c2)
