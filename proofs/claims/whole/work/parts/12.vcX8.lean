theorem dX8_append_0 : decode cX8_append 0 = .ok (.aload_n 0, 1) := by decide +kernel
theorem dX8_append_1 : decode cX8_append 1 = .ok (.getfield 16, 3) := by decide +kernel
theorem dX8_append_4 : decode cX8_append 4 = .ok (.bipush 24, 2) := by decide +kernel
theorem dX8_append_6 : decode cX8_append 6 = .ok (.if_icmp .lt 5, 3) := by decide +kernel
theorem dX8_append_9 : decode cX8_append 9 = .ok (.iconst (-1), 1) := by decide +kernel
theorem dX8_append_10 : decode cX8_append 10 = .ok (.ireturn, 1) := by decide +kernel
theorem dX8_append_11 : decode cX8_append 11 = .ok (.aload_n 0, 1) := by decide +kernel
theorem dX8_append_12 : decode cX8_append 12 = .ok (.getfield 11, 3) := by decide +kernel
theorem dX8_append_15 : decode cX8_append 15 = .ok (.aload_n 0, 1) := by decide +kernel
theorem dX8_append_16 : decode cX8_append 16 = .ok (.getfield 16, 3) := by decide +kernel
theorem dX8_append_19 : decode cX8_append 19 = .ok (.aaload, 1) := by decide +kernel
theorem dX8_append_20 : decode cX8_append 20 = .ok (.iload_n 1, 1) := by decide +kernel
theorem dX8_append_21 : decode cX8_append 21 = .ok (.invokevirtual 20, 3) := by decide +kernel
theorem dX8_append_24 : decode cX8_append 24 = .ok (.aload_n 0, 1) := by decide +kernel
theorem dX8_append_25 : decode cX8_append 25 = .ok (.dup, 1) := by decide +kernel
theorem dX8_append_26 : decode cX8_append 26 = .ok (.getfield 16, 3) := by decide +kernel
theorem dX8_append_29 : decode cX8_append 29 = .ok (.iconst 1, 1) := by decide +kernel
theorem dX8_append_30 : decode cX8_append 30 = .ok (.iadd, 1) := by decide +kernel
theorem dX8_append_31 : decode cX8_append 31 = .ok (.putfield 16, 3) := by decide +kernel
theorem dX8_append_34 : decode cX8_append 34 = .ok (.aload_n 0, 1) := by decide +kernel
theorem dX8_append_35 : decode cX8_append 35 = .ok (.getfield 11, 3) := by decide +kernel
theorem dX8_append_38 : decode cX8_append 38 = .ok (.aload_n 0, 1) := by decide +kernel
theorem dX8_append_39 : decode cX8_append 39 = .ok (.getfield 16, 3) := by decide +kernel
theorem dX8_append_42 : decode cX8_append 42 = .ok (.iconst 1, 1) := by decide +kernel
theorem dX8_append_43 : decode cX8_append 43 = .ok (.isub, 1) := by decide +kernel
theorem dX8_append_44 : decode cX8_append 44 = .ok (.aaload, 1) := by decide +kernel
theorem dX8_append_45 : decode cX8_append 45 = .ok (.aload_n 0, 1) := by decide +kernel
theorem dX8_append_46 : decode cX8_append 46 = .ok (.getfield 16, 3) := by decide +kernel
theorem dX8_append_49 : decode cX8_append 49 = .ok (.putfield 24, 3) := by decide +kernel
theorem dX8_append_52 : decode cX8_append 52 = .ok (.aload_n 0, 1) := by decide +kernel
theorem dX8_append_53 : decode cX8_append 53 = .ok (.getfield 16, 3) := by decide +kernel
theorem dX8_append_56 : decode cX8_append 56 = .ok (.iconst 1, 1) := by decide +kernel
theorem dX8_append_57 : decode cX8_append 57 = .ok (.isub, 1) := by decide +kernel
theorem dX8_append_58 : decode cX8_append 58 = .ok (.ireturn, 1) := by decide +kernel
theorem vc_X8_append_0 {G : zG} {d : Nat} {Q : Option zV → zHp → Prop} (a : Nat) (hT_a : zT 369 a = (108, 2)) (p1 : Int) (h : zHp) (hS : zSh h) (hd : 1 ≤ d)  
    (hv : (((gI h a 1) < 24 → (((0 : Int) ≤ (gI h a 1) ∧ (gI h a 1) < ((24 : Nat) : Int)) ∧ (wpN G (d - 1) M_X5_reset 0 (zar 0 [vR (a + 2 + (gI h a 1).toNat), vI p1]) [] h (qV (fun h3 => zSh h3 ∧ ((-2147483648 ≤ (gI h3 a 1) + 1 ∧ (gI h3 a 1) + 1 ≤ 2147483647) ∧ (∀ h6 : zHp, h6 = sI h3 a 1 ((gI h3 a 1) + 1) → ((-2147483648 ≤ (gI h6 a 1) - 1 ∧ (gI h6 a 1) - 1 ≤ 2147483647) ∧ (((0 : Int) ≤ ((gI h6 a 1) - 1) ∧ ((gI h6 a 1) - 1) < ((24 : Nat) : Int)) ∧ (∀ h8 : zHp, h8 = sI h6 (a + 2 + ((gI h6 a 1) - 1).toNat) 5 (gI h6 a 1) → ((-2147483648 ≤ (gI h8 a 1) - 1 ∧ (gI h8 a 1) - 1 ≤ 2147483647) ∧ Q (some (vI ((gI h8 a 1) - 1))) h8))))))))))) ∧ (24 ≤ (gI h a 1) → Q (some (vI (-1))) h))) : wpN G d M_X8_append 0 [(0, vR a), (1, vI p1)] [] h Q := by
  refine wq_aload_n 0 rfl rfl dX8_append_0 ?_
  refine wq_getI fk_X8_16 hT_a (fun _ _ _ => rfl) dX8_append_1 ?_
  refine wq_bipush (z := 24) (zlit rfl) rfl dX8_append_4 ?_
  refine wq_icmp_lt 11 rfl dX8_append_6 (fun c1 => ?_) (fun c1 => ?_)
  · refine wq_aload_n 0 rfl rfl dX8_append_11 ?_
    refine wq_getR (r := (a + 1)) fk_X8_11 hT_a (fun _ _ _ => rfl) (sh_8_0 hS hT_a) (by omega) dX8_append_12 ?_
    refine wq_aload_n 0 rfl rfl dX8_append_15 ?_
    refine wq_getI fk_X8_16 hT_a (fun _ _ _ => rfl) dX8_append_16 ?_
    refine wq_aald (r := (a + 2 + (gI h a 1).toNat)) (ztm0 hT_a) (by decide) (by decide) rfl (hv.1 c1).1.1 (hv.1 c1).1.2 (sh_itm hS hT_a (zlt_n (hv.1 c1).1.1 (hv.1 c1).1.2)) (by omega) dX8_append_19 ?_
    refine wq_iload_n 1 rfl rfl dX8_append_20 ?_
    refine wN_V (As := [vI p1]) vm_X5_reset lk_X8_20 (zitm hT_a (zlt_n (hv.1 c1).1.1 (hv.1 c1).1.2)) rfl rfl (Nat.le_of_ble_eq_true rfl) (Nat.le_of_ble_eq_true rfl) (d' := d - 1) (by omega) dX8_append_21 (hv.1 c1).2 (fun v9 h3 q4 => ?_)
    obtain ⟨rfl, hS5, q4⟩ := q4
    refine wq_st (st' := []) rfl ?_
    refine wq_aload_n 0 rfl rfl dX8_append_24 ?_
    refine wq_dup rfl dX8_append_25 ?_
    refine wq_getI fk_X8_16 hT_a (fun _ _ _ => rfl) dX8_append_26 ?_
    refine wq_iconst (z := 1) (zlit rfl) dX8_append_29 ?_
    refine wq_iadd q4.1 dX8_append_30 ?_
    refine wq_putI fk_X8_16 hT_a rfl rfl dX8_append_31 ?_
    refine wq_toph (fun h6 e7 => ?_)
    have sh6 : zSh h6 := zSh_of e7 hS5
    refine wq_aload_n 0 rfl rfl dX8_append_34 ?_
    refine wq_getR (r := (a + 1)) fk_X8_11 hT_a (fun _ _ _ => rfl) (sh_8_0 sh6 hT_a) (by omega) dX8_append_35 ?_
    refine wq_aload_n 0 rfl rfl dX8_append_38 ?_
    refine wq_getI fk_X8_16 hT_a (fun _ _ _ => rfl) dX8_append_39 ?_
    refine wq_iconst (z := 1) (zlit rfl) dX8_append_42 ?_
    refine wq_isub (q4.2 h6 e7).1 dX8_append_43 ?_
    refine wq_aald (r := (a + 2 + ((gI h6 a 1) - 1).toNat)) (ztm0 hT_a) (by decide) (by decide) rfl (q4.2 h6 e7).2.1.1 (q4.2 h6 e7).2.1.2 (sh_itm sh6 hT_a (zlt_n (q4.2 h6 e7).2.1.1 (q4.2 h6 e7).2.1.2)) (by omega) dX8_append_44 ?_
    refine wq_aload_n 0 rfl rfl dX8_append_45 ?_
    refine wq_getI fk_X8_16 hT_a (fun _ _ _ => rfl) dX8_append_46 ?_
    refine wq_putI fk_X8_24 (zitm hT_a (zlt_n (q4.2 h6 e7).2.1.1 (q4.2 h6 e7).2.1.2)) rfl rfl dX8_append_49 ?_
    refine wq_toph (fun h8 e9 => ?_)
    have sh8 : zSh h8 := zSh_of e9 sh6
    refine wq_aload_n 0 rfl rfl dX8_append_52 ?_
    refine wq_getI fk_X8_16 hT_a (fun _ _ _ => rfl) dX8_append_53 ?_
    refine wq_iconst (z := 1) (zlit rfl) dX8_append_56 ?_
    refine wq_isub ((q4.2 h6 e7).2.2 h8 e9).1 dX8_append_57 ?_
    exact wp_iret rfl dX8_append_58 ((q4.2 h6 e7).2.2 h8 e9).2
  · refine wq_iconst (z := -1) (zlit rfl) dX8_append_9 ?_
    exact wp_iret rfl dX8_append_10 (hv.2 c1)
theorem dX8_sibling_0 : decode cX8_sibling 0 = .ok (.iload_n 1, 1) := by decide +kernel
theorem dX8_sibling_1 : decode cX8_sibling 1 = .ok (.ifCond .lt 11, 3) := by decide +kernel
theorem dX8_sibling_4 : decode cX8_sibling 4 = .ok (.iload_n 1, 1) := by decide +kernel
theorem dX8_sibling_5 : decode cX8_sibling 5 = .ok (.aload_n 0, 1) := by decide +kernel
theorem dX8_sibling_6 : decode cX8_sibling 6 = .ok (.getfield 16, 3) := by decide +kernel
theorem dX8_sibling_9 : decode cX8_sibling 9 = .ok (.if_icmp .lt 5, 3) := by decide +kernel
theorem dX8_sibling_12 : decode cX8_sibling 12 = .ok (.iconst (-1), 1) := by decide +kernel
theorem dX8_sibling_13 : decode cX8_sibling 13 = .ok (.ireturn, 1) := by decide +kernel
theorem dX8_sibling_14 : decode cX8_sibling 14 = .ok (.iload_n 1, 1) := by decide +kernel
theorem dX8_sibling_15 : decode cX8_sibling 15 = .ok (.iconst 1, 1) := by decide +kernel
theorem dX8_sibling_16 : decode cX8_sibling 16 = .ok (.isub, 1) := by decide +kernel
theorem dX8_sibling_17 : decode cX8_sibling 17 = .ok (.istore_n 3, 1) := by decide +kernel
theorem dX8_sibling_18 : decode cX8_sibling 18 = .ok (.iload_n 3, 1) := by decide +kernel
theorem dX8_sibling_19 : decode cX8_sibling 19 = .ok (.ifCond .lt 45, 3) := by decide +kernel
theorem dX8_sibling_22 : decode cX8_sibling 22 = .ok (.aload_n 0, 1) := by decide +kernel
theorem dX8_sibling_23 : decode cX8_sibling 23 = .ok (.getfield 11, 3) := by decide +kernel
theorem dX8_sibling_26 : decode cX8_sibling 26 = .ok (.iload_n 3, 1) := by decide +kernel
theorem dX8_sibling_27 : decode cX8_sibling 27 = .ok (.aaload, 1) := by decide +kernel
theorem dX8_sibling_28 : decode cX8_sibling 28 = .ok (.getfield 27, 3) := by decide +kernel
theorem dX8_sibling_31 : decode cX8_sibling 31 = .ok (.aload_n 0, 1) := by decide +kernel
theorem dX8_sibling_32 : decode cX8_sibling 32 = .ok (.getfield 11, 3) := by decide +kernel
theorem dX8_sibling_35 : decode cX8_sibling 35 = .ok (.iload_n 1, 1) := by decide +kernel
theorem dX8_sibling_36 : decode cX8_sibling 36 = .ok (.aaload, 1) := by decide +kernel
theorem dX8_sibling_37 : decode cX8_sibling 37 = .ok (.getfield 27, 3) := by decide +kernel
theorem dX8_sibling_40 : decode cX8_sibling 40 = .ok (.if_icmp .ne 18, 3) := by decide +kernel
theorem dX8_sibling_43 : decode cX8_sibling 43 = .ok (.aload_n 0, 1) := by decide +kernel
theorem dX8_sibling_44 : decode cX8_sibling 44 = .ok (.getfield 11, 3) := by decide +kernel
theorem dX8_sibling_47 : decode cX8_sibling 47 = .ok (.iload_n 3, 1) := by decide +kernel
theorem dX8_sibling_48 : decode cX8_sibling 48 = .ok (.aaload, 1) := by decide +kernel
theorem dX8_sibling_49 : decode cX8_sibling 49 = .ok (.getfield 30, 3) := by decide +kernel
theorem dX8_sibling_52 : decode cX8_sibling 52 = .ok (.iload_n 2, 1) := by decide +kernel
theorem dX8_sibling_53 : decode cX8_sibling 53 = .ok (.if_icmp .ne 5, 3) := by decide +kernel
theorem dX8_sibling_56 : decode cX8_sibling 56 = .ok (.iload_n 3, 1) := by decide +kernel
theorem dX8_sibling_57 : decode cX8_sibling 57 = .ok (.ireturn, 1) := by decide +kernel
theorem dX8_sibling_58 : decode cX8_sibling 58 = .ok (.iinc 3 (-1), 3) := by decide +kernel
theorem dX8_sibling_61 : decode cX8_sibling 61 = .ok (.goto (-43), 3) := by decide +kernel
theorem dX8_sibling_64 : decode cX8_sibling 64 = .ok (.iconst (-1), 1) := by decide +kernel
theorem dX8_sibling_65 : decode cX8_sibling 65 = .ok (.ireturn, 1) := by decide +kernel
theorem vc_X8_sibling_0 {G : zG} {d : Nat} {Q : Option zV → zHp → Prop} (a : Nat) (hT_a : zT 369 a = (108, 2)) (p1 : Int) (p2 : Int) (h : zHp) (hS : zSh h) (hd : 0 ≤ d) (I_18 : Nat → Int → Int → Int → zHp → Prop) (hI_18 : ∀ (y0 : Nat) (y1 : Int) (y2 : Int) (y3 : Int) (h' : zHp), I_18 y0 y1 y2 y3 h' → wpN G d M_X8_sibling 18 [(0, vR y0), (1, vI y1), (2, vI y2), (3, vI y3)] [] h' Q) 
    (hv : ((p1 < 0 → Q (some (vI (-1))) h) ∧ (0 ≤ p1 → ((p1 < (gI h a 1) → ((-2147483648 ≤ p1 - 1 ∧ p1 - 1 ≤ 2147483647) ∧ (∀ x3 : Int, x3 = (p1 - 1) → (zSh h → I_18 a p1 p2 x3 h)))) ∧ ((gI h a 1) ≤ p1 → Q (some (vI (-1))) h))))) : wpN G d M_X8_sibling 0 [(0, vR a), (1, vI p1), (2, vI p2)] [] h Q := by
  refine wq_iload_n 1 rfl rfl dX8_sibling_0 ?_
  refine wq_if_lt 12 rfl dX8_sibling_1 (fun c1 => ?_) (fun c1 => ?_)
  · refine wq_iconst (z := -1) (zlit rfl) dX8_sibling_12 ?_
    exact wp_iret rfl dX8_sibling_13 (hv.1 c1)
  · refine wq_iload_n 1 rfl rfl dX8_sibling_4 ?_
    refine wq_aload_n 0 rfl rfl dX8_sibling_5 ?_
    refine wq_getI fk_X8_16 hT_a (fun _ _ _ => rfl) dX8_sibling_6 ?_
    refine wq_icmp_lt 14 rfl dX8_sibling_9 (fun c2 => ?_) (fun c2 => ?_)
    · refine wq_iload_n 1 rfl rfl dX8_sibling_14 ?_
      refine wq_iconst (z := 1) (zlit rfl) dX8_sibling_15 ?_
      refine wq_isub ((hv.2 c1).1 c2).1 dX8_sibling_16 ?_
      refine wq_topI (fun x3 e4 => ?_)
      refine wq_istore_n (ls' := [(0, vR a), (1, vI p1), (2, vI p2), (3, vI x3)]) rfl (by decide) rfl dX8_sibling_17 ?_
      exact wq_pick [0, 1, 2, 3] rfl (hI_18 a p1 p2 x3 h ((((hv.2 c1).1 c2).2 x3 e4) hS))
    · refine wq_iconst (z := -1) (zlit rfl) dX8_sibling_12 ?_
      exact wp_iret rfl dX8_sibling_13 ((hv.2 c1).2 c2)
theorem vc_X8_sibling_18 {G : zG} {d : Nat} {Q : Option zV → zHp → Prop} (y0 : Nat) (hT_y0 : zT 369 y0 = (108, 2)) (y1 : Int) (y2 : Int) (y3 : Int) (h : zHp) (hS : zSh h) (hd : 0 ≤ d) (I_18 : Nat → Int → Int → Int → zHp → Prop) (hI_18 : ∀ (y0 : Nat) (y1 : Int) (y2 : Int) (y3 : Int) (h' : zHp), I_18 y0 y1 y2 y3 h' → wpN G d M_X8_sibling 18 [(0, vR y0), (1, vI y1), (2, vI y2), (3, vI y3)] [] h' Q) 
    (hv : ((y3 < 0 → Q (some (vI (-1))) h) ∧ (0 ≤ y3 → (((0 : Int) ≤ y3 ∧ y3 < ((24 : Nat) : Int)) ∧ (((0 : Int) ≤ y1 ∧ y1 < ((24 : Nat) : Int)) ∧ (((gI h (y0 + 2 + y3.toNat) 4) ≠ (gI h (y0 + 2 + y1.toNat) 4) → ((-2147483648 ≤ y3 + (-1) ∧ y3 + (-1) ≤ 2147483647) ∧ ∀ x3 : Int, x3 = y3 + (-1) → (zSh h → I_18 y0 y1 y2 x3 h))) ∧ ((gI h (y0 + 2 + y3.toNat) 4) = (gI h (y0 + 2 + y1.toNat) 4) → (((0 : Int) ≤ y3 ∧ y3 < ((24 : Nat) : Int)) ∧ (((gI h (y0 + 2 + y3.toNat) 1) ≠ y2 → ((-2147483648 ≤ y3 + (-1) ∧ y3 + (-1) ≤ 2147483647) ∧ ∀ x6 : Int, x6 = y3 + (-1) → (zSh h → I_18 y0 y1 y2 x6 h))) ∧ ((gI h (y0 + 2 + y3.toNat) 1) = y2 → Q (some (vI y3)) h)))))))))) : wpN G d M_X8_sibling 18 [(0, vR y0), (1, vI y1), (2, vI y2), (3, vI y3)] [] h Q := by
  refine wq_iload_n 3 rfl rfl dX8_sibling_18 ?_
  refine wq_if_lt 64 rfl dX8_sibling_19 (fun c1 => ?_) (fun c1 => ?_)
  · refine wq_iconst (z := -1) (zlit rfl) dX8_sibling_64 ?_
    exact wp_iret rfl dX8_sibling_65 (hv.1 c1)
  · refine wq_aload_n 0 rfl rfl dX8_sibling_22 ?_
    refine wq_getR (r := (y0 + 1)) fk_X8_11 hT_y0 (fun _ _ _ => rfl) (sh_8_0 hS hT_y0) (by omega) dX8_sibling_23 ?_
    refine wq_iload_n 3 rfl rfl dX8_sibling_26 ?_
    refine wq_aald (r := (y0 + 2 + y3.toNat)) (ztm0 hT_y0) (by decide) (by decide) rfl (hv.2 c1).1.1 (hv.2 c1).1.2 (sh_itm hS hT_y0 (zlt_n (hv.2 c1).1.1 (hv.2 c1).1.2)) (by omega) dX8_sibling_27 ?_
    refine wq_getI fk_X8_27 (zitm hT_y0 (zlt_n (hv.2 c1).1.1 (hv.2 c1).1.2)) (fun _ _ _ => rfl) dX8_sibling_28 ?_
    refine wq_aload_n 0 rfl rfl dX8_sibling_31 ?_
    refine wq_getR (r := (y0 + 1)) fk_X8_11 hT_y0 (fun _ _ _ => rfl) (sh_8_0 hS hT_y0) (by omega) dX8_sibling_32 ?_
    refine wq_iload_n 1 rfl rfl dX8_sibling_35 ?_
    refine wq_aald (r := (y0 + 2 + y1.toNat)) (ztm0 hT_y0) (by decide) (by decide) rfl (hv.2 c1).2.1.1 (hv.2 c1).2.1.2 (sh_itm hS hT_y0 (zlt_n (hv.2 c1).2.1.1 (hv.2 c1).2.1.2)) (by omega) dX8_sibling_36 ?_
    refine wq_getI fk_X8_27 (zitm hT_y0 (zlt_n (hv.2 c1).2.1.1 (hv.2 c1).2.1.2)) (fun _ _ _ => rfl) dX8_sibling_37 ?_
    refine wq_icmp_ne 58 rfl dX8_sibling_40 (fun c2 => ?_) (fun c2 => ?_)
    · refine z_nm (y3 + (-1)) (fun x3 e4 => ?_)
      refine wq_iinc (y := x3) (ls' := [(0, vR y0), (1, vI y1), (2, vI y2), (3, vI x3)]) 3 rfl e4.symm (by rw [e4]; exact ((hv.2 c1).2.2.1 c2).1) (by decide) rfl dX8_sibling_58 ?_
      refine wq_goto 18 rfl dX8_sibling_61 ?_
      exact wq_pick [0, 1, 2, 3] rfl (hI_18 y0 y1 y2 x3 h ((((hv.2 c1).2.2.1 c2).2 x3 e4) hS))
    · refine wq_aload_n 0 rfl rfl dX8_sibling_43 ?_
      refine wq_getR (r := (y0 + 1)) fk_X8_11 hT_y0 (fun _ _ _ => rfl) (sh_8_0 hS hT_y0) (by omega) dX8_sibling_44 ?_
      refine wq_iload_n 3 rfl rfl dX8_sibling_47 ?_
      refine wq_aald (r := (y0 + 2 + y3.toNat)) (ztm0 hT_y0) (by decide) (by decide) rfl ((hv.2 c1).2.2.2 c2).1.1 ((hv.2 c1).2.2.2 c2).1.2 (sh_itm hS hT_y0 (zlt_n ((hv.2 c1).2.2.2 c2).1.1 ((hv.2 c1).2.2.2 c2).1.2)) (by omega) dX8_sibling_48 ?_
      refine wq_getI fk_X8_30 (zitm hT_y0 (zlt_n ((hv.2 c1).2.2.2 c2).1.1 ((hv.2 c1).2.2.2 c2).1.2)) (fun _ _ _ => rfl) dX8_sibling_49 ?_
      refine wq_iload_n 2 rfl rfl dX8_sibling_52 ?_
      refine wq_icmp_ne 58 rfl dX8_sibling_53 (fun c5 => ?_) (fun c5 => ?_)
      · refine z_nm (y3 + (-1)) (fun x6 e7 => ?_)
        refine wq_iinc (y := x6) (ls' := [(0, vR y0), (1, vI y1), (2, vI y2), (3, vI x6)]) 3 rfl e7.symm (by rw [e7]; exact (((hv.2 c1).2.2.2 c2).2.1 c5).1) (by decide) rfl dX8_sibling_58 ?_
        refine wq_goto 18 rfl dX8_sibling_61 ?_
        exact wq_pick [0, 1, 2, 3] rfl (hI_18 y0 y1 y2 x6 h (((((hv.2 c1).2.2.2 c2).2.1 c5).2 x6 e7) hS))
      · refine wq_iload_n 3 rfl rfl dX8_sibling_56 ?_
        exact wp_iret rfl dX8_sibling_57 (((hv.2 c1).2.2.2 c2).2.2 c5)
theorem dX8_lookUp_0 : decode cX8_lookUp 0 = .ok (.iload_n 1, 1) := by decide +kernel
theorem dX8_lookUp_1 : decode cX8_lookUp 1 = .ok (.ifCond .lt 11, 3) := by decide +kernel
theorem dX8_lookUp_4 : decode cX8_lookUp 4 = .ok (.iload_n 1, 1) := by decide +kernel
theorem dX8_lookUp_5 : decode cX8_lookUp 5 = .ok (.aload_n 0, 1) := by decide +kernel
theorem dX8_lookUp_6 : decode cX8_lookUp 6 = .ok (.getfield 16, 3) := by decide +kernel
theorem dX8_lookUp_9 : decode cX8_lookUp 9 = .ok (.if_icmp .lt 5, 3) := by decide +kernel
theorem dX8_lookUp_12 : decode cX8_lookUp 12 = .ok (.iconst (-1), 1) := by decide +kernel
theorem dX8_lookUp_13 : decode cX8_lookUp 13 = .ok (.ireturn, 1) := by decide +kernel
theorem dX8_lookUp_14 : decode cX8_lookUp 14 = .ok (.aload_n 0, 1) := by decide +kernel
theorem dX8_lookUp_15 : decode cX8_lookUp 15 = .ok (.getfield 11, 3) := by decide +kernel
theorem dX8_lookUp_18 : decode cX8_lookUp 18 = .ok (.iload_n 1, 1) := by decide +kernel
theorem dX8_lookUp_19 : decode cX8_lookUp 19 = .ok (.aaload, 1) := by decide +kernel
theorem dX8_lookUp_20 : decode cX8_lookUp 20 = .ok (.getfield 27, 3) := by decide +kernel
theorem dX8_lookUp_23 : decode cX8_lookUp 23 = .ok (.istore_n 3, 1) := by decide +kernel
theorem dX8_lookUp_24 : decode cX8_lookUp 24 = .ok (.iload_n 1, 1) := by decide +kernel
theorem dX8_lookUp_25 : decode cX8_lookUp 25 = .ok (.iconst 1, 1) := by decide +kernel
theorem dX8_lookUp_26 : decode cX8_lookUp 26 = .ok (.isub, 1) := by decide +kernel
theorem dX8_lookUp_27 : decode cX8_lookUp 27 = .ok (.istore 4, 2) := by decide +kernel
theorem dX8_lookUp_29 : decode cX8_lookUp 29 = .ok (.iload 4, 2) := by decide +kernel
theorem dX8_lookUp_31 : decode cX8_lookUp 31 = .ok (.ifCond .lt 60, 3) := by decide +kernel
theorem dX8_lookUp_34 : decode cX8_lookUp 34 = .ok (.iload 4, 2) := by decide +kernel
theorem dX8_lookUp_36 : decode cX8_lookUp 36 = .ok (.iload_n 3, 1) := by decide +kernel
theorem dX8_lookUp_37 : decode cX8_lookUp 37 = .ok (.if_icmp .ne 17, 3) := by decide +kernel
theorem dX8_lookUp_40 : decode cX8_lookUp 40 = .ok (.aload_n 0, 1) := by decide +kernel
theorem dX8_lookUp_41 : decode cX8_lookUp 41 = .ok (.getfield 11, 3) := by decide +kernel
theorem dX8_lookUp_44 : decode cX8_lookUp 44 = .ok (.iload 4, 2) := by decide +kernel
theorem dX8_lookUp_46 : decode cX8_lookUp 46 = .ok (.aaload, 1) := by decide +kernel
theorem dX8_lookUp_47 : decode cX8_lookUp 47 = .ok (.getfield 27, 3) := by decide +kernel
theorem dX8_lookUp_50 : decode cX8_lookUp 50 = .ok (.istore_n 3, 1) := by decide +kernel
theorem dX8_lookUp_51 : decode cX8_lookUp 51 = .ok (.goto 34, 3) := by decide +kernel
theorem dX8_lookUp_54 : decode cX8_lookUp 54 = .ok (.aload_n 0, 1) := by decide +kernel
theorem dX8_lookUp_55 : decode cX8_lookUp 55 = .ok (.getfield 11, 3) := by decide +kernel
theorem dX8_lookUp_58 : decode cX8_lookUp 58 = .ok (.iload 4, 2) := by decide +kernel
theorem dX8_lookUp_60 : decode cX8_lookUp 60 = .ok (.aaload, 1) := by decide +kernel
theorem dX8_lookUp_61 : decode cX8_lookUp 61 = .ok (.getfield 27, 3) := by decide +kernel
theorem dX8_lookUp_64 : decode cX8_lookUp 64 = .ok (.iload_n 3, 1) := by decide +kernel
theorem dX8_lookUp_65 : decode cX8_lookUp 65 = .ok (.if_icmp .ne 20, 3) := by decide +kernel
theorem dX8_lookUp_68 : decode cX8_lookUp 68 = .ok (.aload_n 0, 1) := by decide +kernel
theorem dX8_lookUp_69 : decode cX8_lookUp 69 = .ok (.getfield 11, 3) := by decide +kernel
theorem dX8_lookUp_72 : decode cX8_lookUp 72 = .ok (.iload 4, 2) := by decide +kernel
theorem dX8_lookUp_74 : decode cX8_lookUp 74 = .ok (.aaload, 1) := by decide +kernel
theorem dX8_lookUp_75 : decode cX8_lookUp 75 = .ok (.getfield 30, 3) := by decide +kernel
theorem dX8_lookUp_78 : decode cX8_lookUp 78 = .ok (.iload_n 2, 1) := by decide +kernel
theorem dX8_lookUp_79 : decode cX8_lookUp 79 = .ok (.if_icmp .ne 6, 3) := by decide +kernel
theorem dX8_lookUp_82 : decode cX8_lookUp 82 = .ok (.iload 4, 2) := by decide +kernel
theorem dX8_lookUp_84 : decode cX8_lookUp 84 = .ok (.ireturn, 1) := by decide +kernel
theorem dX8_lookUp_85 : decode cX8_lookUp 85 = .ok (.iinc 4 (-1), 3) := by decide +kernel
theorem dX8_lookUp_88 : decode cX8_lookUp 88 = .ok (.goto (-59), 3) := by decide +kernel
theorem dX8_lookUp_91 : decode cX8_lookUp 91 = .ok (.iconst (-1), 1) := by decide +kernel
theorem dX8_lookUp_92 : decode cX8_lookUp 92 = .ok (.ireturn, 1) := by decide +kernel
theorem vc_X8_lookUp_0 {G : zG} {d : Nat} {Q : Option zV → zHp → Prop} (a : Nat) (hT_a : zT 369 a = (108, 2)) (p1 : Int) (p2 : Int) (h : zHp) (hS : zSh h) (hd : 0 ≤ d) (I_29 : Nat → Int → Int → Int → Int → zHp → Prop) (hI_29 : ∀ (y0 : Nat) (y1 : Int) (y2 : Int) (y3 : Int) (y4 : Int) (h' : zHp), I_29 y0 y1 y2 y3 y4 h' → wpN G d M_X8_lookUp 29 [(0, vR y0), (1, vI y1), (2, vI y2), (3, vI y3), (4, vI y4)] [] h' Q) 
    (hv : ((p1 < 0 → Q (some (vI (-1))) h) ∧ (0 ≤ p1 → ((p1 < (gI h a 1) → (((0 : Int) ≤ p1 ∧ p1 < ((24 : Nat) : Int)) ∧ (∀ x3 : Int, x3 = (gI h (a + 2 + p1.toNat) 4) → ((-2147483648 ≤ p1 - 1 ∧ p1 - 1 ≤ 2147483647) ∧ (∀ x5 : Int, x5 = (p1 - 1) → (zSh h → I_29 a p1 p2 x3 x5 h)))))) ∧ ((gI h a 1) ≤ p1 → Q (some (vI (-1))) h))))) : wpN G d M_X8_lookUp 0 [(0, vR a), (1, vI p1), (2, vI p2)] [] h Q := by
  refine wq_iload_n 1 rfl rfl dX8_lookUp_0 ?_
  refine wq_if_lt 12 rfl dX8_lookUp_1 (fun c1 => ?_) (fun c1 => ?_)
  · refine wq_iconst (z := -1) (zlit rfl) dX8_lookUp_12 ?_
    exact wp_iret rfl dX8_lookUp_13 (hv.1 c1)
  · refine wq_iload_n 1 rfl rfl dX8_lookUp_4 ?_
    refine wq_aload_n 0 rfl rfl dX8_lookUp_5 ?_
    refine wq_getI fk_X8_16 hT_a (fun _ _ _ => rfl) dX8_lookUp_6 ?_
    refine wq_icmp_lt 14 rfl dX8_lookUp_9 (fun c2 => ?_) (fun c2 => ?_)
    · refine wq_aload_n 0 rfl rfl dX8_lookUp_14 ?_
      refine wq_getR (r := (a + 1)) fk_X8_11 hT_a (fun _ _ _ => rfl) (sh_8_0 hS hT_a) (by omega) dX8_lookUp_15 ?_
      refine wq_iload_n 1 rfl rfl dX8_lookUp_18 ?_
      refine wq_aald (r := (a + 2 + p1.toNat)) (ztm0 hT_a) (by decide) (by decide) rfl ((hv.2 c1).1 c2).1.1 ((hv.2 c1).1 c2).1.2 (sh_itm hS hT_a (zlt_n ((hv.2 c1).1 c2).1.1 ((hv.2 c1).1 c2).1.2)) (by omega) dX8_lookUp_19 ?_
      refine wq_getI fk_X8_27 (zitm hT_a (zlt_n ((hv.2 c1).1 c2).1.1 ((hv.2 c1).1 c2).1.2)) (fun _ _ _ => rfl) dX8_lookUp_20 ?_
      refine wq_topI (fun x3 e4 => ?_)
      refine wq_istore_n (ls' := [(0, vR a), (1, vI p1), (2, vI p2), (3, vI x3)]) rfl (by decide) rfl dX8_lookUp_23 ?_
      refine wq_iload_n 1 rfl rfl dX8_lookUp_24 ?_
      refine wq_iconst (z := 1) (zlit rfl) dX8_lookUp_25 ?_
      refine wq_isub (((hv.2 c1).1 c2).2 x3 e4).1 dX8_lookUp_26 ?_
      refine wq_topI (fun x5 e6 => ?_)
      refine wq_istore (ls' := [(0, vR a), (1, vI p1), (2, vI p2), (3, vI x3), (4, vI x5)]) (by decide) rfl dX8_lookUp_27 ?_
      exact wq_pick [0, 1, 2, 3, 4] rfl (hI_29 a p1 p2 x3 x5 h (((((hv.2 c1).1 c2).2 x3 e4).2 x5 e6) hS))
    · refine wq_iconst (z := -1) (zlit rfl) dX8_lookUp_12 ?_
      exact wp_iret rfl dX8_lookUp_13 ((hv.2 c1).2 c2)
theorem vc_X8_lookUp_29 {G : zG} {d : Nat} {Q : Option zV → zHp → Prop} (y0 : Nat) (hT_y0 : zT 369 y0 = (108, 2)) (y1 : Int) (y2 : Int) (y3 : Int) (y4 : Int) (h : zHp) (hS : zSh h) (hd : 0 ≤ d) (I_29 : Nat → Int → Int → Int → Int → zHp → Prop) (hI_29 : ∀ (y0 : Nat) (y1 : Int) (y2 : Int) (y3 : Int) (y4 : Int) (h' : zHp), I_29 y0 y1 y2 y3 y4 h' → wpN G d M_X8_lookUp 29 [(0, vR y0), (1, vI y1), (2, vI y2), (3, vI y3), (4, vI y4)] [] h' Q) 
    (hv : ((y4 < 0 → Q (some (vI (-1))) h) ∧ (0 ≤ y4 → ((y4 ≠ y3 → (((0 : Int) ≤ y4 ∧ y4 < ((24 : Nat) : Int)) ∧ (((gI h (y0 + 2 + y4.toNat) 4) ≠ y3 → ((-2147483648 ≤ y4 + (-1) ∧ y4 + (-1) ≤ 2147483647) ∧ ∀ x4 : Int, x4 = y4 + (-1) → (zSh h → I_29 y0 y1 y2 y3 x4 h))) ∧ ((gI h (y0 + 2 + y4.toNat) 4) = y3 → (((0 : Int) ≤ y4 ∧ y4 < ((24 : Nat) : Int)) ∧ (((gI h (y0 + 2 + y4.toNat) 1) ≠ y2 → ((-2147483648 ≤ y4 + (-1) ∧ y4 + (-1) ≤ 2147483647) ∧ ∀ x7 : Int, x7 = y4 + (-1) → (zSh h → I_29 y0 y1 y2 y3 x7 h))) ∧ ((gI h (y0 + 2 + y4.toNat) 1) = y2 → Q (some (vI y4)) h))))))) ∧ (y4 = y3 → (((0 : Int) ≤ y4 ∧ y4 < ((24 : Nat) : Int)) ∧ (∀ x9 : Int, x9 = (gI h (y0 + 2 + y4.toNat) 4) → ((-2147483648 ≤ y4 + (-1) ∧ y4 + (-1) ≤ 2147483647) ∧ ∀ x11 : Int, x11 = y4 + (-1) → (zSh h → I_29 y0 y1 y2 x9 x11 h))))))))) : wpN G d M_X8_lookUp 29 [(0, vR y0), (1, vI y1), (2, vI y2), (3, vI y3), (4, vI y4)] [] h Q := by
  refine wq_iload 4 rfl dX8_lookUp_29 ?_
  refine wq_if_lt 91 rfl dX8_lookUp_31 (fun c1 => ?_) (fun c1 => ?_)
  · refine wq_iconst (z := -1) (zlit rfl) dX8_lookUp_91 ?_
    exact wp_iret rfl dX8_lookUp_92 (hv.1 c1)
  · refine wq_iload 4 rfl dX8_lookUp_34 ?_
    refine wq_iload_n 3 rfl rfl dX8_lookUp_36 ?_
    refine wq_icmp_ne 54 rfl dX8_lookUp_37 (fun c2 => ?_) (fun c2 => ?_)
    · refine wq_aload_n 0 rfl rfl dX8_lookUp_54 ?_
      refine wq_getR (r := (y0 + 1)) fk_X8_11 hT_y0 (fun _ _ _ => rfl) (sh_8_0 hS hT_y0) (by omega) dX8_lookUp_55 ?_
      refine wq_iload 4 rfl dX8_lookUp_58 ?_
      refine wq_aald (r := (y0 + 2 + y4.toNat)) (ztm0 hT_y0) (by decide) (by decide) rfl ((hv.2 c1).1 c2).1.1 ((hv.2 c1).1 c2).1.2 (sh_itm hS hT_y0 (zlt_n ((hv.2 c1).1 c2).1.1 ((hv.2 c1).1 c2).1.2)) (by omega) dX8_lookUp_60 ?_
      refine wq_getI fk_X8_27 (zitm hT_y0 (zlt_n ((hv.2 c1).1 c2).1.1 ((hv.2 c1).1 c2).1.2)) (fun _ _ _ => rfl) dX8_lookUp_61 ?_
      refine wq_iload_n 3 rfl rfl dX8_lookUp_64 ?_
      refine wq_icmp_ne 85 rfl dX8_lookUp_65 (fun c3 => ?_) (fun c3 => ?_)
      · refine z_nm (y4 + (-1)) (fun x4 e5 => ?_)
        refine wq_iinc (y := x4) (ls' := [(0, vR y0), (1, vI y1), (2, vI y2), (3, vI y3), (4, vI x4)]) 4 rfl e5.symm (by rw [e5]; exact (((hv.2 c1).1 c2).2.1 c3).1) (by decide) rfl dX8_lookUp_85 ?_
        refine wq_goto 29 rfl dX8_lookUp_88 ?_
        exact wq_pick [0, 1, 2, 3, 4] rfl (hI_29 y0 y1 y2 y3 x4 h (((((hv.2 c1).1 c2).2.1 c3).2 x4 e5) hS))
      · refine wq_aload_n 0 rfl rfl dX8_lookUp_68 ?_
        refine wq_getR (r := (y0 + 1)) fk_X8_11 hT_y0 (fun _ _ _ => rfl) (sh_8_0 hS hT_y0) (by omega) dX8_lookUp_69 ?_
        refine wq_iload 4 rfl dX8_lookUp_72 ?_
        refine wq_aald (r := (y0 + 2 + y4.toNat)) (ztm0 hT_y0) (by decide) (by decide) rfl (((hv.2 c1).1 c2).2.2 c3).1.1 (((hv.2 c1).1 c2).2.2 c3).1.2 (sh_itm hS hT_y0 (zlt_n (((hv.2 c1).1 c2).2.2 c3).1.1 (((hv.2 c1).1 c2).2.2 c3).1.2)) (by omega) dX8_lookUp_74 ?_
        refine wq_getI fk_X8_30 (zitm hT_y0 (zlt_n (((hv.2 c1).1 c2).2.2 c3).1.1 (((hv.2 c1).1 c2).2.2 c3).1.2)) (fun _ _ _ => rfl) dX8_lookUp_75 ?_
        refine wq_iload_n 2 rfl rfl dX8_lookUp_78 ?_
        refine wq_icmp_ne 85 rfl dX8_lookUp_79 (fun c6 => ?_) (fun c6 => ?_)
        · refine z_nm (y4 + (-1)) (fun x7 e8 => ?_)
          refine wq_iinc (y := x7) (ls' := [(0, vR y0), (1, vI y1), (2, vI y2), (3, vI y3), (4, vI x7)]) 4 rfl e8.symm (by rw [e8]; exact ((((hv.2 c1).1 c2).2.2 c3).2.1 c6).1) (by decide) rfl dX8_lookUp_85 ?_
          refine wq_goto 29 rfl dX8_lookUp_88 ?_
          exact wq_pick [0, 1, 2, 3, 4] rfl (hI_29 y0 y1 y2 y3 x7 h ((((((hv.2 c1).1 c2).2.2 c3).2.1 c6).2 x7 e8) hS))
        · refine wq_iload 4 rfl dX8_lookUp_82 ?_
          exact wp_iret rfl dX8_lookUp_84 ((((hv.2 c1).1 c2).2.2 c3).2.2 c6)
    · refine wq_aload_n 0 rfl rfl dX8_lookUp_40 ?_
      refine wq_getR (r := (y0 + 1)) fk_X8_11 hT_y0 (fun _ _ _ => rfl) (sh_8_0 hS hT_y0) (by omega) dX8_lookUp_41 ?_
      refine wq_iload 4 rfl dX8_lookUp_44 ?_
      refine wq_aald (r := (y0 + 2 + y4.toNat)) (ztm0 hT_y0) (by decide) (by decide) rfl ((hv.2 c1).2 c2).1.1 ((hv.2 c1).2 c2).1.2 (sh_itm hS hT_y0 (zlt_n ((hv.2 c1).2 c2).1.1 ((hv.2 c1).2 c2).1.2)) (by omega) dX8_lookUp_46 ?_
      refine wq_getI fk_X8_27 (zitm hT_y0 (zlt_n ((hv.2 c1).2 c2).1.1 ((hv.2 c1).2 c2).1.2)) (fun _ _ _ => rfl) dX8_lookUp_47 ?_
      refine wq_topI (fun x9 e10 => ?_)
      refine wq_istore_n (ls' := [(0, vR y0), (1, vI y1), (2, vI y2), (3, vI x9), (4, vI y4)]) rfl (by decide) rfl dX8_lookUp_50 ?_
      refine wq_goto 85 rfl dX8_lookUp_51 ?_
      refine z_nm (y4 + (-1)) (fun x11 e12 => ?_)
      refine wq_iinc (y := x11) (ls' := [(0, vR y0), (1, vI y1), (2, vI y2), (3, vI x9), (4, vI x11)]) 4 rfl e12.symm (by rw [e12]; exact (((hv.2 c1).2 c2).2 x9 e10).1) (by decide) rfl dX8_lookUp_85 ?_
      refine wq_goto 29 rfl dX8_lookUp_88 ?_
      exact wq_pick [0, 1, 2, 3, 4] rfl (hI_29 y0 y1 y2 x9 x11 h (((((hv.2 c1).2 c2).2 x9 e10).2 x11 e12) hS))
