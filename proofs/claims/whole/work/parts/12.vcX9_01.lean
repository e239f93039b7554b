theorem dX9_parseCheck_0 : decode cX9_parseCheck 0 = .ok (.aload_n 0, 1) := by decide +kernel
theorem dX9_parseCheck_1 : decode cX9_parseCheck 1 = .ok (.getfield 15, 3) := by decide +kernel
theorem dX9_parseCheck_4 : decode cX9_parseCheck 4 = .ok (.getfield 73, 3) := by decide +kernel
theorem dX9_parseCheck_7 : decode cX9_parseCheck 7 = .ok (.iload_n 1, 1) := by decide +kernel
theorem dX9_parseCheck_8 : decode cX9_parseCheck 8 = .ok (.aaload, 1) := by decide +kernel
theorem dX9_parseCheck_9 : decode cX9_parseCheck 9 = .ok (.astore 4, 2) := by decide +kernel
theorem dX9_parseCheck_11 : decode cX9_parseCheck 11 = .ok (.aload 4, 2) := by decide +kernel
theorem dX9_parseCheck_13 : decode cX9_parseCheck 13 = .ok (.iload_n 2, 1) := by decide +kernel
theorem dX9_parseCheck_14 : decode cX9_parseCheck 14 = .ok (.putfield 106, 3) := by decide +kernel
theorem dX9_parseCheck_17 : decode cX9_parseCheck 17 = .ok (.aload 4, 2) := by decide +kernel
theorem dX9_parseCheck_19 : decode cX9_parseCheck 19 = .ok (.iload_n 3, 1) := by decide +kernel
theorem dX9_parseCheck_20 : decode cX9_parseCheck 20 = .ok (.putfield 134, 3) := by decide +kernel
theorem dX9_parseCheck_23 : decode cX9_parseCheck 23 = .ok (.aload_n 0, 1) := by decide +kernel
theorem dX9_parseCheck_24 : decode cX9_parseCheck 24 = .ok (.aload_n 0, 1) := by decide +kernel
theorem dX9_parseCheck_25 : decode cX9_parseCheck 25 = .ok (.getfield 19, 3) := by decide +kernel
theorem dX9_parseCheck_28 : decode cX9_parseCheck 28 = .ok (.iconst 1, 1) := by decide +kernel
theorem dX9_parseCheck_29 : decode cX9_parseCheck 29 = .ok (.iadd, 1) := by decide +kernel
theorem dX9_parseCheck_30 : decode cX9_parseCheck 30 = .ok (.invokevirtual 36, 3) := by decide +kernel
theorem dX9_parseCheck_33 : decode cX9_parseCheck 33 = .ok (.aload_n 0, 1) := by decide +kernel
theorem dX9_parseCheck_34 : decode cX9_parseCheck 34 = .ok (.bipush 40, 2) := by decide +kernel
theorem dX9_parseCheck_36 : decode cX9_parseCheck 36 = .ok (.invokevirtual 87, 3) := by decide +kernel
theorem dX9_parseCheck_39 : decode cX9_parseCheck 39 = .ok (.ifCond .ne 5, 3) := by decide +kernel
theorem dX9_parseCheck_42 : decode cX9_parseCheck 42 = .ok (.iconst 0, 1) := by decide +kernel
theorem dX9_parseCheck_43 : decode cX9_parseCheck 43 = .ok (.ireturn, 1) := by decide +kernel
theorem dX9_parseCheck_44 : decode cX9_parseCheck 44 = .ok (.aload 4, 2) := by decide +kernel
theorem dX9_parseCheck_46 : decode cX9_parseCheck 46 = .ok (.aload_n 0, 1) := by decide +kernel
theorem dX9_parseCheck_47 : decode cX9_parseCheck 47 = .ok (.iload_n 1, 1) := by decide +kernel
theorem dX9_parseCheck_48 : decode cX9_parseCheck 48 = .ok (.iconst 0, 1) := by decide +kernel
theorem dX9_parseCheck_49 : decode cX9_parseCheck 49 = .ok (.invokevirtual 139, 3) := by decide +kernel
theorem dX9_parseCheck_52 : decode cX9_parseCheck 52 = .ok (.putfield 142, 3) := by decide +kernel
theorem dX9_parseCheck_55 : decode cX9_parseCheck 55 = .ok (.aload 4, 2) := by decide +kernel
theorem dX9_parseCheck_57 : decode cX9_parseCheck 57 = .ok (.getfield 142, 3) := by decide +kernel
theorem dX9_parseCheck_60 : decode cX9_parseCheck 60 = .ok (.iconst (-1), 1) := by decide +kernel
theorem dX9_parseCheck_61 : decode cX9_parseCheck 61 = .ok (.if_icmp .eq 12, 3) := by decide +kernel
theorem dX9_parseCheck_64 : decode cX9_parseCheck 64 = .ok (.aload_n 0, 1) := by decide +kernel
theorem dX9_parseCheck_65 : decode cX9_parseCheck 65 = .ok (.bipush 44, 2) := by decide +kernel
theorem dX9_parseCheck_67 : decode cX9_parseCheck 67 = .ok (.invokevirtual 87, 3) := by decide +kernel
theorem dX9_parseCheck_70 : decode cX9_parseCheck 70 = .ok (.ifCond .ne 5, 3) := by decide +kernel
theorem dX9_parseCheck_73 : decode cX9_parseCheck 73 = .ok (.iconst 0, 1) := by decide +kernel
theorem dX9_parseCheck_74 : decode cX9_parseCheck 74 = .ok (.ireturn, 1) := by decide +kernel
theorem dX9_parseCheck_75 : decode cX9_parseCheck 75 = .ok (.aload 4, 2) := by decide +kernel
theorem dX9_parseCheck_77 : decode cX9_parseCheck 77 = .ok (.aload_n 0, 1) := by decide +kernel
theorem dX9_parseCheck_78 : decode cX9_parseCheck 78 = .ok (.iload_n 1, 1) := by decide +kernel
theorem dX9_parseCheck_79 : decode cX9_parseCheck 79 = .ok (.aload 4, 2) := by decide +kernel
theorem dX9_parseCheck_81 : decode cX9_parseCheck 81 = .ok (.getfield 142, 3) := by decide +kernel
theorem dX9_parseCheck_84 : decode cX9_parseCheck 84 = .ok (.invokevirtual 139, 3) := by decide +kernel
theorem dX9_parseCheck_87 : decode cX9_parseCheck 87 = .ok (.putfield 145, 3) := by decide +kernel
theorem dX9_parseCheck_90 : decode cX9_parseCheck 90 = .ok (.aload 4, 2) := by decide +kernel
theorem dX9_parseCheck_92 : decode cX9_parseCheck 92 = .ok (.getfield 145, 3) := by decide +kernel
theorem dX9_parseCheck_95 : decode cX9_parseCheck 95 = .ok (.iconst (-1), 1) := by decide +kernel
theorem dX9_parseCheck_96 : decode cX9_parseCheck 96 = .ok (.if_icmp .eq 16, 3) := by decide +kernel
theorem dX9_parseCheck_99 : decode cX9_parseCheck 99 = .ok (.aload_n 0, 1) := by decide +kernel
theorem dX9_parseCheck_100 : decode cX9_parseCheck 100 = .ok (.bipush 41, 2) := by decide +kernel
theorem dX9_parseCheck_102 : decode cX9_parseCheck 102 = .ok (.invokevirtual 87, 3) := by decide +kernel
theorem dX9_parseCheck_105 : decode cX9_parseCheck 105 = .ok (.ifCond .eq 7, 3) := by decide +kernel
theorem dX9_parseCheck_108 : decode cX9_parseCheck 108 = .ok (.iconst 1, 1) := by decide +kernel
theorem dX9_parseCheck_109 : decode cX9_parseCheck 109 = .ok (.goto 4, 3) := by decide +kernel
theorem dX9_parseCheck_112 : decode cX9_parseCheck 112 = .ok (.iconst 0, 1) := by decide +kernel
theorem dX9_parseCheck_113 : decode cX9_parseCheck 113 = .ok (.ireturn, 1) := by decide +kernel
theorem vc_X9_parseCheck_0 {G : zG} {d : Nat} {Q : Option zV → zHp → Prop} (p1 : Int) (p2 : Int) (p3 : Int) (h : zHp) (hS : zSh h) (hd : 3 ≤ d)  
    (hv : (zT 369 (gR h 211 1) = (108, 2) ∧ (((0 : Int) ≤ p1 ∧ p1 < ((24 : Nat) : Int)) ∧ (∀ h1 : zHp, h1 = sI h ((gR h 211 1) + 2 + p1.toNat) 0 p2 → (∀ h3 : zHp, h3 = sI h1 ((gR h 211 1) + 2 + p1.toNat) 2 p3 → ((-2147483648 ≤ (gI h3 211 2) + 1 ∧ (gI h3 211 2) + 1 ≤ 2147483647) ∧ (wpN G (d - 1) M_X9_moveTo 0 (zar 0 [vR 211, vI ((gI h3 211 2) + 1)]) [] h3 (qV (fun h6 => zSh h6 ∧ (wpN G (d - 1) M_X9_parseSign 0 (zar 0 [vR 211, vI 40]) [] h6 (qI (fun z9 h10 => zSh h10 ∧ ((z9 ≠ 0 → (wpN G (d - 1) M_X9_parseSibling 0 (zar 0 [vR 211, vI p1, vI 0]) [] h10 (qI (fun z14 h15 => zSh h15 ∧ (∀ h18 : zHp, h18 = sI h15 ((gR h 211 1) + 2 + p1.toNat) 11 z14 → (((gI h18 ((gR h 211 1) + 2 + p1.toNat) 11) = (-1) → Q (some (vI 0)) h18) ∧ ((gI h18 ((gR h 211 1) + 2 + p1.toNat) 11) ≠ (-1) → (wpN G (d - 1) M_X9_parseSign 0 (zar 0 [vR 211, vI 44]) [] h18 (qI (fun z21 h22 => zSh h22 ∧ ((z21 ≠ 0 → (wpN G (d - 1) M_X9_parseSibling 0 (zar 0 [vR 211, vI p1, vI (gI h22 ((gR h 211 1) + 2 + p1.toNat) 11)]) [] h22 (qI (fun z26 h27 => zSh h27 ∧ (∀ h30 : zHp, h30 = sI h27 ((gR h 211 1) + 2 + p1.toNat) 12 z26 → (((gI h30 ((gR h 211 1) + 2 + p1.toNat) 12) = (-1) → Q (some (vI 0)) h30) ∧ ((gI h30 ((gR h 211 1) + 2 + p1.toNat) 12) ≠ (-1) → (wpN G (d - 1) M_X9_parseSign 0 (zar 0 [vR 211, vI 41]) [] h30 (qI (fun z33 h34 => zSh h34 ∧ ((z33 = 0 → Q (some (vI 0)) h34) ∧ (z33 ≠ 0 → Q (some (vI 1)) h34)))))))))))) ∧ (z21 = 0 → Q (some (vI 0)) h22)))))))))))) ∧ (z9 = 0 → Q (some (vI 0)) h10)))))))))))))) : wpN G d M_X9_parseCheck 0 [(0, vR 211), (1, vI p1), (2, vI p2), (3, vI p3)] [] h Q := by
  refine wq_aload_n 0 rfl rfl dX9_parseCheck_0 ?_
  refine wq_getR fk_X9_15 tT_211 (fun _ _ _ => rfl) rfl (zT_nz hv.1 (by decide)) dX9_parseCheck_1 ?_
  refine wq_getR (r := ((gR h 211 1) + 1)) fk_X9_73 hv.1 (fun _ _ _ => rfl) (sh_8_0 hS hv.1) (by omega) dX9_parseCheck_4 ?_
  refine wq_iload_n 1 rfl rfl dX9_parseCheck_7 ?_
  refine wq_aald (r := ((gR h 211 1) + 2 + p1.toNat)) (ztm0 hv.1) (by decide) (by decide) rfl hv.2.1.1 hv.2.1.2 (sh_itm hS hv.1 (zlt_n hv.2.1.1 hv.2.1.2)) (by omega) dX9_parseCheck_8 ?_
  refine wq_astore (ls' := [(0, vR 211), (1, vI p1), (2, vI p2), (3, vI p3), (4, vR ((gR h 211 1) + 2 + p1.toNat))]) (by decide) rfl dX9_parseCheck_9 ?_
  refine wq_aload 4 rfl dX9_parseCheck_11 ?_
  refine wq_iload_n 2 rfl rfl dX9_parseCheck_13 ?_
  refine wq_putI fk_X9_106 (zitm hv.1 (zlt_n hv.2.1.1 hv.2.1.2)) rfl rfl dX9_parseCheck_14 ?_
  refine wq_toph (fun h1 e2 => ?_)
  have sh1 : zSh h1 := zSh_of e2 hS
  refine wq_aload 4 rfl dX9_parseCheck_17 ?_
  refine wq_iload_n 3 rfl rfl dX9_parseCheck_19 ?_
  refine wq_putI fk_X9_134 (zitm hv.1 (zlt_n hv.2.1.1 hv.2.1.2)) rfl rfl dX9_parseCheck_20 ?_
  refine wq_toph (fun h3 e4 => ?_)
  have sh3 : zSh h3 := zSh_of e4 sh1
  refine wq_aload_n 0 rfl rfl dX9_parseCheck_23 ?_
  refine wq_aload_n 0 rfl rfl dX9_parseCheck_24 ?_
  refine wq_getI fk_X9_19 tT_211 (fun _ _ _ => rfl) dX9_parseCheck_25 ?_
  refine wq_iconst (z := 1) (zlit rfl) dX9_parseCheck_28 ?_
  refine wq_iadd ((hv.2.2 h1 e2) h3 e4).1 dX9_parseCheck_29 ?_
  refine wN_V (As := [vI ((gI h3 211 2) + 1)]) vm_X9_moveTo lk_X9_36 tT_211 rfl rfl (Nat.le_of_ble_eq_true rfl) (Nat.le_of_ble_eq_true rfl) (d' := d - 1) (by omega) dX9_parseCheck_30 ((hv.2.2 h1 e2) h3 e4).2 (fun v9 h6 q7 => ?_)
  obtain ⟨rfl, hS8, q7⟩ := q7
  refine wq_st (st' := []) rfl ?_
  refine wq_aload_n 0 rfl rfl dX9_parseCheck_33 ?_
  refine wq_bipush (z := 40) (zlit rfl) rfl dX9_parseCheck_34 ?_
  refine wN_V (As := [vI 40]) vm_X9_parseSign lk_X9_87 tT_211 rfl rfl (Nat.le_of_ble_eq_true rfl) (Nat.le_of_ble_eq_true rfl) (d' := d - 1) (by omega) dX9_parseCheck_36 q7 (fun v9 h10 q11 => ?_)
  obtain ⟨z9, rfl, hS12, q11⟩ := q11
  refine wq_st (st' := [vI z9]) rfl ?_
  refine wq_if_ne 44 rfl dX9_parseCheck_39 (fun c13 => ?_) (fun c13 => ?_)
  · refine wq_aload 4 rfl dX9_parseCheck_44 ?_
    refine wq_aload_n 0 rfl rfl dX9_parseCheck_46 ?_
    refine wq_iload_n 1 rfl rfl dX9_parseCheck_47 ?_
    refine wq_iconst (z := 0) (zlit rfl) dX9_parseCheck_48 ?_
    refine wN_V (As := [vI p1, vI 0]) vm_X9_parseSibling lk_X9_139 tT_211 rfl rfl (Nat.le_of_ble_eq_true rfl) (Nat.le_of_ble_eq_true rfl) (d' := d - 1) (by omega) dX9_parseCheck_49 (q11.1 c13) (fun v9 h15 q16 => ?_)
    obtain ⟨z14, rfl, hS17, q16⟩ := q16
    refine wq_st (st' := [vI z14, vR ((gR h 211 1) + 2 + p1.toNat)]) rfl ?_
    refine wq_putI fk_X9_142 (zitm hv.1 (zlt_n hv.2.1.1 hv.2.1.2)) rfl rfl dX9_parseCheck_52 ?_
    refine wq_toph (fun h18 e19 => ?_)
    have sh18 : zSh h18 := zSh_of e19 hS17
    refine wq_aload 4 rfl dX9_parseCheck_55 ?_
    refine wq_getI fk_X9_142 (zitm hv.1 (zlt_n hv.2.1.1 hv.2.1.2)) (fun _ _ _ => rfl) dX9_parseCheck_57 ?_
    refine wq_iconst (z := -1) (zlit rfl) dX9_parseCheck_60 ?_
    refine wq_icmp_eq 73 rfl dX9_parseCheck_61 (fun c20 => ?_) (fun c20 => ?_)
    · refine wq_iconst (z := 0) (zlit rfl) dX9_parseCheck_73 ?_
      exact wp_zret (Or.inl rfl) rfl dX9_parseCheck_74 ((q16 h18 e19).1 c20)
    · refine wq_aload_n 0 rfl rfl dX9_parseCheck_64 ?_
      refine wq_bipush (z := 44) (zlit rfl) rfl dX9_parseCheck_65 ?_
      refine wN_V (As := [vI 44]) vm_X9_parseSign lk_X9_87 tT_211 rfl rfl (Nat.le_of_ble_eq_true rfl) (Nat.le_of_ble_eq_true rfl) (d' := d - 1) (by omega) dX9_parseCheck_67 ((q16 h18 e19).2 c20) (fun v9 h22 q23 => ?_)
      obtain ⟨z21, rfl, hS24, q23⟩ := q23
      refine wq_st (st' := [vI z21]) rfl ?_
      refine wq_if_ne 75 rfl dX9_parseCheck_70 (fun c25 => ?_) (fun c25 => ?_)
      · refine wq_aload 4 rfl dX9_parseCheck_75 ?_
        refine wq_aload_n 0 rfl rfl dX9_parseCheck_77 ?_
        refine wq_iload_n 1 rfl rfl dX9_parseCheck_78 ?_
        refine wq_aload 4 rfl dX9_parseCheck_79 ?_
        refine wq_getI fk_X9_142 (zitm hv.1 (zlt_n hv.2.1.1 hv.2.1.2)) (fun _ _ _ => rfl) dX9_parseCheck_81 ?_
        refine wN_V (As := [vI p1, vI (gI h22 ((gR h 211 1) + 2 + p1.toNat) 11)]) vm_X9_parseSibling lk_X9_139 tT_211 rfl rfl (Nat.le_of_ble_eq_true rfl) (Nat.le_of_ble_eq_true rfl) (d' := d - 1) (by omega) dX9_parseCheck_84 (q23.1 c25) (fun v9 h27 q28 => ?_)
        obtain ⟨z26, rfl, hS29, q28⟩ := q28
        refine wq_st (st' := [vI z26, vR ((gR h 211 1) + 2 + p1.toNat)]) rfl ?_
        refine wq_putI fk_X9_145 (zitm hv.1 (zlt_n hv.2.1.1 hv.2.1.2)) rfl rfl dX9_parseCheck_87 ?_
        refine wq_toph (fun h30 e31 => ?_)
        have sh30 : zSh h30 := zSh_of e31 hS29
        refine wq_aload 4 rfl dX9_parseCheck_90 ?_
        refine wq_getI fk_X9_145 (zitm hv.1 (zlt_n hv.2.1.1 hv.2.1.2)) (fun _ _ _ => rfl) dX9_parseCheck_92 ?_
        refine wq_iconst (z := -1) (zlit rfl) dX9_parseCheck_95 ?_
        refine wq_icmp_eq 112 rfl dX9_parseCheck_96 (fun c32 => ?_) (fun c32 => ?_)
        · refine wq_iconst (z := 0) (zlit rfl) dX9_parseCheck_112 ?_
          exact wp_zret (Or.inl rfl) rfl dX9_parseCheck_113 ((q28 h30 e31).1 c32)
        · refine wq_aload_n 0 rfl rfl dX9_parseCheck_99 ?_
          refine wq_bipush (z := 41) (zlit rfl) rfl dX9_parseCheck_100 ?_
          refine wN_V (As := [vI 41]) vm_X9_parseSign lk_X9_87 tT_211 rfl rfl (Nat.le_of_ble_eq_true rfl) (Nat.le_of_ble_eq_true rfl) (d' := d - 1) (by omega) dX9_parseCheck_102 ((q28 h30 e31).2 c32) (fun v9 h34 q35 => ?_)
          obtain ⟨z33, rfl, hS36, q35⟩ := q35
          refine wq_st (st' := [vI z33]) rfl ?_
          refine wq_if_eq 112 rfl dX9_parseCheck_105 (fun c37 => ?_) (fun c37 => ?_)
          · refine wq_iconst (z := 0) (zlit rfl) dX9_parseCheck_112 ?_
            exact wp_zret (Or.inl rfl) rfl dX9_parseCheck_113 (q35.1 c37)
          · refine wq_iconst (z := 1) (zlit rfl) dX9_parseCheck_108 ?_
            refine wq_goto 113 rfl dX9_parseCheck_109 ?_
            exact wp_zret (Or.inr rfl) rfl dX9_parseCheck_113 (q35.2 c37)
      · refine wq_iconst (z := 0) (zlit rfl) dX9_parseCheck_73 ?_
        exact wp_zret (Or.inl rfl) rfl dX9_parseCheck_74 (q23.2 c25)
  · refine wq_iconst (z := 0) (zlit rfl) dX9_parseCheck_42 ?_
    exact wp_zret (Or.inl rfl) rfl dX9_parseCheck_43 (q11.2 c13)
theorem dX9_parseSibling_0 : decode cX9_parseSibling 0 = .ok (.aload_n 0, 1) := by decide +kernel
theorem dX9_parseSibling_1 : decode cX9_parseSibling 1 = .ok (.getfield 25, 3) := by decide +kernel
theorem dX9_parseSibling_4 : decode cX9_parseSibling 4 = .ok (.invokestatic 112, 3) := by decide +kernel
theorem dX9_parseSibling_7 : decode cX9_parseSibling 7 = .ok (.ifCond .eq 18, 3) := by decide +kernel
theorem dX9_parseSibling_10 : decode cX9_parseSibling 10 = .ok (.aload_n 0, 1) := by decide +kernel
theorem dX9_parseSibling_11 : decode cX9_parseSibling 11 = .ok (.getfield 15, 3) := by decide +kernel
theorem dX9_parseSibling_14 : decode cX9_parseSibling 14 = .ok (.iload_n 1, 1) := by decide +kernel
theorem dX9_parseSibling_15 : decode cX9_parseSibling 15 = .ok (.aload_n 0, 1) := by decide +kernel
theorem dX9_parseSibling_16 : decode cX9_parseSibling 16 = .ok (.getfield 25, 3) := by decide +kernel
theorem dX9_parseSibling_19 : decode cX9_parseSibling 19 = .ok (.invokevirtual 115, 3) := by decide +kernel
theorem dX9_parseSibling_22 : decode cX9_parseSibling 22 = .ok (.goto 4, 3) := by decide +kernel
theorem dX9_parseSibling_25 : decode cX9_parseSibling 25 = .ok (.iconst (-1), 1) := by decide +kernel
theorem dX9_parseSibling_26 : decode cX9_parseSibling 26 = .ok (.istore_n 3, 1) := by decide +kernel
theorem dX9_parseSibling_27 : decode cX9_parseSibling 27 = .ok (.iload_n 3, 1) := by decide +kernel
theorem dX9_parseSibling_28 : decode cX9_parseSibling 28 = .ok (.iload_n 2, 1) := by decide +kernel
theorem dX9_parseSibling_29 : decode cX9_parseSibling 29 = .ok (.if_icmp .ge 14, 3) := by decide +kernel
theorem dX9_parseSibling_32 : decode cX9_parseSibling 32 = .ok (.aload_n 0, 1) := by decide +kernel
theorem dX9_parseSibling_33 : decode cX9_parseSibling 33 = .ok (.aload_n 0, 1) := by decide +kernel
theorem dX9_parseSibling_34 : decode cX9_parseSibling 34 = .ok (.getfield 19, 3) := by decide +kernel
theorem dX9_parseSibling_37 : decode cX9_parseSibling 37 = .ok (.invokevirtual 59, 3) := by decide +kernel
theorem dX9_parseSibling_40 : decode cX9_parseSibling 40 = .ok (.pop, 1) := by decide +kernel
theorem dX9_parseSibling_41 : decode cX9_parseSibling 41 = .ok (.iconst (-1), 1) := by decide +kernel
theorem dX9_parseSibling_42 : decode cX9_parseSibling 42 = .ok (.ireturn, 1) := by decide +kernel
theorem dX9_parseSibling_43 : decode cX9_parseSibling 43 = .ok (.aload_n 0, 1) := by decide +kernel
theorem dX9_parseSibling_44 : decode cX9_parseSibling 44 = .ok (.aload_n 0, 1) := by decide +kernel
theorem dX9_parseSibling_45 : decode cX9_parseSibling 45 = .ok (.getfield 19, 3) := by decide +kernel
theorem dX9_parseSibling_48 : decode cX9_parseSibling 48 = .ok (.iconst 1, 1) := by decide +kernel
theorem dX9_parseSibling_49 : decode cX9_parseSibling 49 = .ok (.iadd, 1) := by decide +kernel
theorem dX9_parseSibling_50 : decode cX9_parseSibling 50 = .ok (.invokevirtual 36, 3) := by decide +kernel
theorem dX9_parseSibling_53 : decode cX9_parseSibling 53 = .ok (.iload_n 3, 1) := by decide +kernel
theorem dX9_parseSibling_54 : decode cX9_parseSibling 54 = .ok (.ireturn, 1) := by decide +kernel
theorem vc_X9_parseSibling_0 {G : zG} {d : Nat} {Q : Option zV → zHp → Prop} (p1 : Int) (p2 : Int) (h : zHp) (hS : zSh h) (hd : 2 ≤ d)  
    (hv : (wpN G (d - 1) M_X9_isName 0 (zar 0 [vI (gI h 211 3)]) [] h (qI (fun z1 h2 => zSh h2 ∧ ((z1 = 0 → ((p2 ≤ (-1) → ((-2147483648 ≤ (gI h2 211 2) + 1 ∧ (gI h2 211 2) + 1 ≤ 2147483647) ∧ (wpN G (d - 1) M_X9_moveTo 0 (zar 0 [vR 211, vI ((gI h2 211 2) + 1)]) [] h2 (qV (fun h8 => zSh h8 ∧ Q (some (vI (-1))) h8))))) ∧ ((-1) < p2 → (wpN G (d - 1) M_X9_refuse 0 (zar 0 [vR 211, vI (gI h2 211 2)]) [] h2 (qI (fun z11 h12 => zSh h12 ∧ Q (some (vI (-1))) h12)))))) ∧ (z1 ≠ 0 → (zT 369 (gR h2 211 1) = (108, 2) ∧ (wpN G (d - 1) M_X8_sibling 0 (zar 0 [vR (gR h2 211 1), vI p1, vI (gI h2 211 3)]) [] h2 (qI (fun z15 h16 => zSh h16 ∧ ((p2 ≤ z15 → ((-2147483648 ≤ (gI h16 211 2) + 1 ∧ (gI h16 211 2) + 1 ≤ 2147483647) ∧ (wpN G (d - 1) M_X9_moveTo 0 (zar 0 [vR 211, vI ((gI h16 211 2) + 1)]) [] h16 (qV (fun h21 => zSh h21 ∧ Q (some (vI z15)) h21))))) ∧ (z15 < p2 → (wpN G (d - 1) M_X9_refuse 0 (zar 0 [vR 211, vI (gI h16 211 2)]) [] h16 (qI (fun z24 h25 => zSh h25 ∧ Q (some (vI (-1))) h25))))))))))))))) : wpN G d M_X9_parseSibling 0 [(0, vR 211), (1, vI p1), (2, vI p2)] [] h Q := by
  refine wq_aload_n 0 rfl rfl dX9_parseSibling_0 ?_
  refine wq_getI fk_X9_25 tT_211 (fun _ _ _ => rfl) dX9_parseSibling_1 ?_
  refine wN_S (As := [vI (gI h 211 3)]) md_X9_isName ms_X9_isName lk_X9_112 rfl rfl (Nat.le_of_ble_eq_true rfl) (Nat.le_of_ble_eq_true rfl) (d' := d - 1) (by omega) dX9_parseSibling_4 hv (fun v9 h2 q3 => ?_)
  obtain ⟨z1, rfl, hS4, q3⟩ := q3
  refine wq_st (st' := [vI z1]) rfl ?_
  refine wq_if_eq 25 rfl dX9_parseSibling_7 (fun c5 => ?_) (fun c5 => ?_)
  · refine wq_iconst (z := -1) (zlit rfl) dX9_parseSibling_25 ?_
    refine wq_istore_n (ls' := [(0, vR 211), (1, vI p1), (2, vI p2), (3, vI (-1))]) rfl (by decide) rfl dX9_parseSibling_26 ?_
    refine wq_iload_n 3 rfl rfl dX9_parseSibling_27 ?_
    refine wq_iload_n 2 rfl rfl dX9_parseSibling_28 ?_
    refine wq_icmp_ge 43 rfl dX9_parseSibling_29 (fun c6 => ?_) (fun c6 => ?_)
    · refine wq_aload_n 0 rfl rfl dX9_parseSibling_43 ?_
      refine wq_aload_n 0 rfl rfl dX9_parseSibling_44 ?_
      refine wq_getI fk_X9_19 tT_211 (fun _ _ _ => rfl) dX9_parseSibling_45 ?_
      refine wq_iconst (z := 1) (zlit rfl) dX9_parseSibling_48 ?_
      refine wq_iadd ((q3.1 c5).1 c6).1 dX9_parseSibling_49 ?_
      refine wN_V (As := [vI ((gI h2 211 2) + 1)]) vm_X9_moveTo lk_X9_36 tT_211 rfl rfl (Nat.le_of_ble_eq_true rfl) (Nat.le_of_ble_eq_true rfl) (d' := d - 1) (by omega) dX9_parseSibling_50 ((q3.1 c5).1 c6).2 (fun v9 h8 q9 => ?_)
      obtain ⟨rfl, hS10, q9⟩ := q9
      refine wq_st (st' := []) rfl ?_
      refine wq_iload_n 3 rfl rfl dX9_parseSibling_53 ?_
      exact wp_iret rfl dX9_parseSibling_54 q9
    · refine wq_aload_n 0 rfl rfl dX9_parseSibling_32 ?_
      refine wq_aload_n 0 rfl rfl dX9_parseSibling_33 ?_
      refine wq_getI fk_X9_19 tT_211 (fun _ _ _ => rfl) dX9_parseSibling_34 ?_
      refine wN_V (As := [vI (gI h2 211 2)]) vm_X9_refuse lk_X9_59 tT_211 rfl rfl (Nat.le_of_ble_eq_true rfl) (Nat.le_of_ble_eq_true rfl) (d' := d - 1) (by omega) dX9_parseSibling_37 ((q3.1 c5).2 c6) (fun v9 h12 q13 => ?_)
      obtain ⟨z11, rfl, hS14, q13⟩ := q13
      refine wq_st (st' := [vI z11]) rfl ?_
      refine wq_pop rfl dX9_parseSibling_40 ?_
      refine wq_iconst (z := -1) (zlit rfl) dX9_parseSibling_41 ?_
      exact wp_iret rfl dX9_parseSibling_42 q13
  · refine wq_aload_n 0 rfl rfl dX9_parseSibling_10 ?_
    refine wq_getR fk_X9_15 tT_211 (fun _ _ _ => rfl) rfl (zT_nz (q3.2 c5).1 (by decide)) dX9_parseSibling_11 ?_
    refine wq_iload_n 1 rfl rfl dX9_parseSibling_14 ?_
    refine wq_aload_n 0 rfl rfl dX9_parseSibling_15 ?_
    refine wq_getI fk_X9_25 tT_211 (fun _ _ _ => rfl) dX9_parseSibling_16 ?_
    refine wN_V (As := [vI p1, vI (gI h2 211 3)]) vm_X8_sibling lk_X9_115 (q3.2 c5).1 rfl rfl (Nat.le_of_ble_eq_true rfl) (Nat.le_of_ble_eq_true rfl) (d' := d - 1) (by omega) dX9_parseSibling_19 (q3.2 c5).2 (fun v9 h16 q17 => ?_)
    obtain ⟨z15, rfl, hS18, q17⟩ := q17
    refine wq_st (st' := [vI z15]) rfl ?_
    refine wq_goto 26 rfl dX9_parseSibling_22 ?_
    refine wq_istore_n (ls' := [(0, vR 211), (1, vI p1), (2, vI p2), (3, vI z15)]) rfl (by decide) rfl dX9_parseSibling_26 ?_
    refine wq_iload_n 3 rfl rfl dX9_parseSibling_27 ?_
    refine wq_iload_n 2 rfl rfl dX9_parseSibling_28 ?_
    refine wq_icmp_ge 43 rfl dX9_parseSibling_29 (fun c19 => ?_) (fun c19 => ?_)
    · refine wq_aload_n 0 rfl rfl dX9_parseSibling_43 ?_
      refine wq_aload_n 0 rfl rfl dX9_parseSibling_44 ?_
      refine wq_getI fk_X9_19 tT_211 (fun _ _ _ => rfl) dX9_parseSibling_45 ?_
      refine wq_iconst (z := 1) (zlit rfl) dX9_parseSibling_48 ?_
      refine wq_iadd (q17.1 c19).1 dX9_parseSibling_49 ?_
      refine wN_V (As := [vI ((gI h16 211 2) + 1)]) vm_X9_moveTo lk_X9_36 tT_211 rfl rfl (Nat.le_of_ble_eq_true rfl) (Nat.le_of_ble_eq_true rfl) (d' := d - 1) (by omega) dX9_parseSibling_50 (q17.1 c19).2 (fun v9 h21 q22 => ?_)
      obtain ⟨rfl, hS23, q22⟩ := q22
      refine wq_st (st' := []) rfl ?_
      refine wq_iload_n 3 rfl rfl dX9_parseSibling_53 ?_
      exact wp_iret rfl dX9_parseSibling_54 q22
    · refine wq_aload_n 0 rfl rfl dX9_parseSibling_32 ?_
      refine wq_aload_n 0 rfl rfl dX9_parseSibling_33 ?_
      refine wq_getI fk_X9_19 tT_211 (fun _ _ _ => rfl) dX9_parseSibling_34 ?_
      refine wN_V (As := [vI (gI h16 211 2)]) vm_X9_refuse lk_X9_59 tT_211 rfl rfl (Nat.le_of_ble_eq_true rfl) (Nat.le_of_ble_eq_true rfl) (d' := d - 1) (by omega) dX9_parseSibling_37 (q17.2 c19) (fun v9 h25 q26 => ?_)
      obtain ⟨z24, rfl, hS27, q26⟩ := q26
      refine wq_st (st' := [vI z24]) rfl ?_
      refine wq_pop rfl dX9_parseSibling_40 ?_
      refine wq_iconst (z := -1) (zlit rfl) dX9_parseSibling_41 ?_
      exact wp_iret rfl dX9_parseSibling_42 q26
theorem dX9_parseCount_0 : decode cX9_parseCount 0 = .ok (.aload_n 0, 1) := by decide +kernel
theorem dX9_parseCount_1 : decode cX9_parseCount 1 = .ok (.getfield 15, 3) := by decide +kernel
theorem dX9_parseCount_4 : decode cX9_parseCount 4 = .ok (.getfield 73, 3) := by decide +kernel
theorem dX9_parseCount_7 : decode cX9_parseCount 7 = .ok (.iload_n 1, 1) := by decide +kernel
theorem dX9_parseCount_8 : decode cX9_parseCount 8 = .ok (.aaload, 1) := by decide +kernel
theorem dX9_parseCount_9 : decode cX9_parseCount 9 = .ok (.astore_n 2, 1) := by decide +kernel
theorem dX9_parseCount_10 : decode cX9_parseCount 10 = .ok (.aload_n 0, 1) := by decide +kernel
theorem dX9_parseCount_11 : decode cX9_parseCount 11 = .ok (.getfield 25, 3) := by decide +kernel
theorem dX9_parseCount_14 : decode cX9_parseCount 14 = .ok (.bipush 42, 2) := by decide +kernel
theorem dX9_parseCount_16 : decode cX9_parseCount 16 = .ok (.if_icmp .eq 5, 3) := by decide +kernel
theorem dX9_parseCount_19 : decode cX9_parseCount 19 = .ok (.iconst 1, 1) := by decide +kernel
theorem dX9_parseCount_20 : decode cX9_parseCount 20 = .ok (.ireturn, 1) := by decide +kernel
theorem dX9_parseCount_21 : decode cX9_parseCount 21 = .ok (.aload_n 0, 1) := by decide +kernel
theorem dX9_parseCount_22 : decode cX9_parseCount 22 = .ok (.aload_n 0, 1) := by decide +kernel
theorem dX9_parseCount_23 : decode cX9_parseCount 23 = .ok (.getfield 19, 3) := by decide +kernel
theorem dX9_parseCount_26 : decode cX9_parseCount 26 = .ok (.iconst 1, 1) := by decide +kernel
theorem dX9_parseCount_27 : decode cX9_parseCount 27 = .ok (.iadd, 1) := by decide +kernel
theorem dX9_parseCount_28 : decode cX9_parseCount 28 = .ok (.invokevirtual 36, 3) := by decide +kernel
theorem dX9_parseCount_31 : decode cX9_parseCount 31 = .ok (.aload_n 0, 1) := by decide +kernel
theorem dX9_parseCount_32 : decode cX9_parseCount 32 = .ok (.getfield 25, 3) := by decide +kernel
theorem dX9_parseCount_35 : decode cX9_parseCount 35 = .ok (.invokestatic 112, 3) := by decide +kernel
theorem dX9_parseCount_38 : decode cX9_parseCount 38 = .ok (.ifCond .eq 31, 3) := by decide +kernel
theorem dX9_parseCount_41 : decode cX9_parseCount 41 = .ok (.aload_n 2, 1) := by decide +kernel
theorem dX9_parseCount_42 : decode cX9_parseCount 42 = .ok (.aload_n 0, 1) := by decide +kernel
theorem dX9_parseCount_43 : decode cX9_parseCount 43 = .ok (.iload_n 1, 1) := by decide +kernel
theorem dX9_parseCount_44 : decode cX9_parseCount 44 = .ok (.invokevirtual 93, 3) := by decide +kernel
theorem dX9_parseCount_47 : decode cX9_parseCount 47 = .ok (.putfield 148, 3) := by decide +kernel
theorem dX9_parseCount_50 : decode cX9_parseCount 50 = .ok (.aload_n 2, 1) := by decide +kernel
theorem dX9_parseCount_51 : decode cX9_parseCount 51 = .ok (.iconst 1, 1) := by decide +kernel
theorem dX9_parseCount_52 : decode cX9_parseCount 52 = .ok (.putfield 151, 3) := by decide +kernel
theorem dX9_parseCount_55 : decode cX9_parseCount 55 = .ok (.aload_n 2, 1) := by decide +kernel
theorem dX9_parseCount_56 : decode cX9_parseCount 56 = .ok (.getfield 148, 3) := by decide +kernel
theorem dX9_parseCount_59 : decode cX9_parseCount 59 = .ok (.iconst (-1), 1) := by decide +kernel
theorem dX9_parseCount_60 : decode cX9_parseCount 60 = .ok (.if_icmp .eq 7, 3) := by decide +kernel
theorem dX9_parseCount_63 : decode cX9_parseCount 63 = .ok (.iconst 1, 1) := by decide +kernel
theorem dX9_parseCount_64 : decode cX9_parseCount 64 = .ok (.goto 4, 3) := by decide +kernel
theorem dX9_parseCount_67 : decode cX9_parseCount 67 = .ok (.iconst 0, 1) := by decide +kernel
theorem dX9_parseCount_68 : decode cX9_parseCount 68 = .ok (.ireturn, 1) := by decide +kernel
theorem dX9_parseCount_69 : decode cX9_parseCount 69 = .ok (.aload_n 2, 1) := by decide +kernel
theorem dX9_parseCount_70 : decode cX9_parseCount 70 = .ok (.aload_n 0, 1) := by decide +kernel
theorem dX9_parseCount_71 : decode cX9_parseCount 71 = .ok (.invokevirtual 96, 3) := by decide +kernel
theorem dX9_parseCount_74 : decode cX9_parseCount 74 = .ok (.putfield 109, 3) := by decide +kernel
theorem dX9_parseCount_77 : decode cX9_parseCount 77 = .ok (.aload_n 2, 1) := by decide +kernel
theorem dX9_parseCount_78 : decode cX9_parseCount 78 = .ok (.iconst 1, 1) := by decide +kernel
theorem dX9_parseCount_79 : decode cX9_parseCount 79 = .ok (.putfield 151, 3) := by decide +kernel
theorem dX9_parseCount_82 : decode cX9_parseCount 82 = .ok (.aload_n 2, 1) := by decide +kernel
theorem dX9_parseCount_83 : decode cX9_parseCount 83 = .ok (.getfield 109, 3) := by decide +kernel
theorem dX9_parseCount_86 : decode cX9_parseCount 86 = .ok (.iconst (-1), 1) := by decide +kernel
theorem dX9_parseCount_87 : decode cX9_parseCount 87 = .ok (.if_icmp .eq 7, 3) := by decide +kernel
theorem dX9_parseCount_90 : decode cX9_parseCount 90 = .ok (.iconst 1, 1) := by decide +kernel
theorem dX9_parseCount_91 : decode cX9_parseCount 91 = .ok (.goto 4, 3) := by decide +kernel
theorem dX9_parseCount_94 : decode cX9_parseCount 94 = .ok (.iconst 0, 1) := by decide +kernel
theorem dX9_parseCount_95 : decode cX9_parseCount 95 = .ok (.ireturn, 1) := by decide +kernel
theorem vc_X9_parseCount_0 {G : zG} {d : Nat} {Q : Option zV → zHp → Prop} (p1 : Int) (h : zHp) (hS : zSh h) (hd : 3 ≤ d)  
    (hv : (zT 369 (gR h 211 1) = (108, 2) ∧ (((0 : Int) ≤ p1 ∧ p1 < ((24 : Nat) : Int)) ∧ (((gI h 211 3) = 42 → ((-2147483648 ≤ (gI h 211 2) + 1 ∧ (gI h 211 2) + 1 ≤ 2147483647) ∧ (wpN G (d - 1) M_X9_moveTo 0 (zar 0 [vR 211, vI ((gI h 211 2) + 1)]) [] h (qV (fun h3 => zSh h3 ∧ (wpN G (d - 1) M_X9_isName 0 (zar 0 [vI (gI h3 211 3)]) [] h3 (qI (fun z6 h7 => zSh h7 ∧ ((z6 = 0 → (wpN G (d - 1) M_X9_parseNumber 0 (zar 0 [vR 211]) [] h7 (qI (fun z11 h12 => zSh h12 ∧ (∀ h15 : zHp, h15 = sI h12 ((gR h 211 1) + 2 + p1.toNat) 10 z11 → (∀ h17 : zHp, h17 = sI h15 ((gR h 211 1) + 2 + p1.toNat) 8 1 → (((gI h17 ((gR h 211 1) + 2 + p1.toNat) 10) = (-1) → Q (some (vI 0)) h17) ∧ ((gI h17 ((gR h 211 1) + 2 + p1.toNat) 10) ≠ (-1) → Q (some (vI 1)) h17)))))))) ∧ (z6 ≠ 0 → (wpN G (d - 1) M_X9_parseReference 0 (zar 0 [vR 211, vI p1]) [] h7 (qI (fun z20 h21 => zSh h21 ∧ (∀ h24 : zHp, h24 = sI h21 ((gR h 211 1) + 2 + p1.toNat) 9 z20 → (∀ h26 : zHp, h26 = sI h24 ((gR h 211 1) + 2 + p1.toNat) 8 1 → (((gI h26 ((gR h 211 1) + 2 + p1.toNat) 9) = (-1) → Q (some (vI 0)) h26) ∧ ((gI h26 ((gR h 211 1) + 2 + p1.toNat) 9) ≠ (-1) → Q (some (vI 1)) h26))))))))))))))))) ∧ ((gI h 211 3) ≠ 42 → Q (some (vI 1)) h))))) : wpN G d M_X9_parseCount 0 [(0, vR 211), (1, vI p1)] [] h Q := by
  refine wq_aload_n 0 rfl rfl dX9_parseCount_0 ?_
  refine wq_getR fk_X9_15 tT_211 (fun _ _ _ => rfl) rfl (zT_nz hv.1 (by decide)) dX9_parseCount_1 ?_
  refine wq_getR (r := ((gR h 211 1) + 1)) fk_X9_73 hv.1 (fun _ _ _ => rfl) (sh_8_0 hS hv.1) (by omega) dX9_parseCount_4 ?_
  refine wq_iload_n 1 rfl rfl dX9_parseCount_7 ?_
  refine wq_aald (r := ((gR h 211 1) + 2 + p1.toNat)) (ztm0 hv.1) (by decide) (by decide) rfl hv.2.1.1 hv.2.1.2 (sh_itm hS hv.1 (zlt_n hv.2.1.1 hv.2.1.2)) (by omega) dX9_parseCount_8 ?_
  refine wq_astore_n (ls' := [(0, vR 211), (1, vI p1), (2, vR ((gR h 211 1) + 2 + p1.toNat))]) rfl (by decide) rfl dX9_parseCount_9 ?_
  refine wq_aload_n 0 rfl rfl dX9_parseCount_10 ?_
  refine wq_getI fk_X9_25 tT_211 (fun _ _ _ => rfl) dX9_parseCount_11 ?_
  refine wq_bipush (z := 42) (zlit rfl) rfl dX9_parseCount_14 ?_
  refine wq_icmp_eq 21 rfl dX9_parseCount_16 (fun c1 => ?_) (fun c1 => ?_)
  · refine wq_aload_n 0 rfl rfl dX9_parseCount_21 ?_
    refine wq_aload_n 0 rfl rfl dX9_parseCount_22 ?_
    refine wq_getI fk_X9_19 tT_211 (fun _ _ _ => rfl) dX9_parseCount_23 ?_
    refine wq_iconst (z := 1) (zlit rfl) dX9_parseCount_26 ?_
    refine wq_iadd (hv.2.2.1 c1).1 dX9_parseCount_27 ?_
    refine wN_V (As := [vI ((gI h 211 2) + 1)]) vm_X9_moveTo lk_X9_36 tT_211 rfl rfl (Nat.le_of_ble_eq_true rfl) (Nat.le_of_ble_eq_true rfl) (d' := d - 1) (by omega) dX9_parseCount_28 (hv.2.2.1 c1).2 (fun v9 h3 q4 => ?_)
    obtain ⟨rfl, hS5, q4⟩ := q4
    refine wq_st (st' := []) rfl ?_
    refine wq_aload_n 0 rfl rfl dX9_parseCount_31 ?_
    refine wq_getI fk_X9_25 tT_211 (fun _ _ _ => rfl) dX9_parseCount_32 ?_
    refine wN_S (As := [vI (gI h3 211 3)]) md_X9_isName ms_X9_isName lk_X9_112 rfl rfl (Nat.le_of_ble_eq_true rfl) (Nat.le_of_ble_eq_true rfl) (d' := d - 1) (by omega) dX9_parseCount_35 q4 (fun v9 h7 q8 => ?_)
    obtain ⟨z6, rfl, hS9, q8⟩ := q8
    refine wq_st (st' := [vI z6]) rfl ?_
    refine wq_if_eq 69 rfl dX9_parseCount_38 (fun c10 => ?_) (fun c10 => ?_)
    · refine wq_aload_n 2 rfl rfl dX9_parseCount_69 ?_
      refine wq_aload_n 0 rfl rfl dX9_parseCount_70 ?_
      refine wN_V (As := []) vm_X9_parseNumber lk_X9_96 tT_211 rfl rfl (Nat.le_of_ble_eq_true rfl) (Nat.le_of_ble_eq_true rfl) (d' := d - 1) (by omega) dX9_parseCount_71 (q8.1 c10) (fun v9 h12 q13 => ?_)
      obtain ⟨z11, rfl, hS14, q13⟩ := q13
      refine wq_st (st' := [vI z11, vR ((gR h 211 1) + 2 + p1.toNat)]) rfl ?_
      refine wq_putI fk_X9_109 (zitm hv.1 (zlt_n hv.2.1.1 hv.2.1.2)) rfl rfl dX9_parseCount_74 ?_
      refine wq_toph (fun h15 e16 => ?_)
      have sh15 : zSh h15 := zSh_of e16 hS14
      refine wq_aload_n 2 rfl rfl dX9_parseCount_77 ?_
      refine wq_iconst (z := 1) (zlit rfl) dX9_parseCount_78 ?_
      refine wq_putZ (Or.inr rfl) fk_X9_151 (zitm hv.1 (zlt_n hv.2.1.1 hv.2.1.2)) rfl rfl dX9_parseCount_79 ?_
      refine wq_toph (fun h17 e18 => ?_)
      have sh17 : zSh h17 := zSh_of e18 sh15
      refine wq_aload_n 2 rfl rfl dX9_parseCount_82 ?_
      refine wq_getI fk_X9_109 (zitm hv.1 (zlt_n hv.2.1.1 hv.2.1.2)) (fun _ _ _ => rfl) dX9_parseCount_83 ?_
      refine wq_iconst (z := -1) (zlit rfl) dX9_parseCount_86 ?_
      refine wq_icmp_eq 94 rfl dX9_parseCount_87 (fun c19 => ?_) (fun c19 => ?_)
      · refine wq_iconst (z := 0) (zlit rfl) dX9_parseCount_94 ?_
        exact wp_zret (Or.inl rfl) rfl dX9_parseCount_95 (((q13 h15 e16) h17 e18).1 c19)
      · refine wq_iconst (z := 1) (zlit rfl) dX9_parseCount_90 ?_
        refine wq_goto 95 rfl dX9_parseCount_91 ?_
        exact wp_zret (Or.inr rfl) rfl dX9_parseCount_95 (((q13 h15 e16) h17 e18).2 c19)
    · refine wq_aload_n 2 rfl rfl dX9_parseCount_41 ?_
      refine wq_aload_n 0 rfl rfl dX9_parseCount_42 ?_
      refine wq_iload_n 1 rfl rfl dX9_parseCount_43 ?_
      refine wN_V (As := [vI p1]) vm_X9_parseReference lk_X9_93 tT_211 rfl rfl (Nat.le_of_ble_eq_true rfl) (Nat.le_of_ble_eq_true rfl) (d' := d - 1) (by omega) dX9_parseCount_44 (q8.2 c10) (fun v9 h21 q22 => ?_)
      obtain ⟨z20, rfl, hS23, q22⟩ := q22
      refine wq_st (st' := [vI z20, vR ((gR h 211 1) + 2 + p1.toNat)]) rfl ?_
      refine wq_putI fk_X9_148 (zitm hv.1 (zlt_n hv.2.1.1 hv.2.1.2)) rfl rfl dX9_parseCount_47 ?_
      refine wq_toph (fun h24 e25 => ?_)
      have sh24 : zSh h24 := zSh_of e25 hS23
      refine wq_aload_n 2 rfl rfl dX9_parseCount_50 ?_
      refine wq_iconst (z := 1) (zlit rfl) dX9_parseCount_51 ?_
      refine wq_putZ (Or.inr rfl) fk_X9_151 (zitm hv.1 (zlt_n hv.2.1.1 hv.2.1.2)) rfl rfl dX9_parseCount_52 ?_
      refine wq_toph (fun h26 e27 => ?_)
      have sh26 : zSh h26 := zSh_of e27 sh24
      refine wq_aload_n 2 rfl rfl dX9_parseCount_55 ?_
      refine wq_getI fk_X9_148 (zitm hv.1 (zlt_n hv.2.1.1 hv.2.1.2)) (fun _ _ _ => rfl) dX9_parseCount_56 ?_
      refine wq_iconst (z := -1) (zlit rfl) dX9_parseCount_59 ?_
      refine wq_icmp_eq 67 rfl dX9_parseCount_60 (fun c28 => ?_) (fun c28 => ?_)
      · refine wq_iconst (z := 0) (zlit rfl) dX9_parseCount_67 ?_
        exact wp_zret (Or.inl rfl) rfl dX9_parseCount_68 (((q22 h24 e25) h26 e27).1 c28)
      · refine wq_iconst (z := 1) (zlit rfl) dX9_parseCount_63 ?_
        refine wq_goto 68 rfl dX9_parseCount_64 ?_
        exact wp_zret (Or.inr rfl) rfl dX9_parseCount_68 (((q22 h24 e25) h26 e27).2 c28)
  · refine wq_iconst (z := 1) (zlit rfl) dX9_parseCount_19 ?_
    exact wp_zret (Or.inr rfl) rfl dX9_parseCount_20 (hv.2.2.2 c1)
theorem dX9_parseReference_0 : decode cX9_parseReference 0 = .ok (.aload_n 0, 1) := by decide +kernel
theorem dX9_parseReference_1 : decode cX9_parseReference 1 = .ok (.getfield 25, 3) := by decide +kernel
theorem dX9_parseReference_4 : decode cX9_parseReference 4 = .ok (.invokestatic 112, 3) := by decide +kernel
theorem dX9_parseReference_7 : decode cX9_parseReference 7 = .ok (.ifCond .eq 18, 3) := by decide +kernel
theorem dX9_parseReference_10 : decode cX9_parseReference 10 = .ok (.aload_n 0, 1) := by decide +kernel
theorem dX9_parseReference_11 : decode cX9_parseReference 11 = .ok (.getfield 15, 3) := by decide +kernel
theorem dX9_parseReference_14 : decode cX9_parseReference 14 = .ok (.iload_n 1, 1) := by decide +kernel
theorem dX9_parseReference_15 : decode cX9_parseReference 15 = .ok (.aload_n 0, 1) := by decide +kernel
theorem dX9_parseReference_16 : decode cX9_parseReference 16 = .ok (.getfield 25, 3) := by decide +kernel
theorem dX9_parseReference_19 : decode cX9_parseReference 19 = .ok (.invokevirtual 154, 3) := by decide +kernel
theorem dX9_parseReference_22 : decode cX9_parseReference 22 = .ok (.goto 4, 3) := by decide +kernel
theorem dX9_parseReference_25 : decode cX9_parseReference 25 = .ok (.iconst (-1), 1) := by decide +kernel
theorem dX9_parseReference_26 : decode cX9_parseReference 26 = .ok (.istore_n 2, 1) := by decide +kernel
theorem dX9_parseReference_27 : decode cX9_parseReference 27 = .ok (.iload_n 2, 1) := by decide +kernel
theorem dX9_parseReference_28 : decode cX9_parseReference 28 = .ok (.iconst (-1), 1) := by decide +kernel
theorem dX9_parseReference_29 : decode cX9_parseReference 29 = .ok (.if_icmp .eq 18, 3) := by decide +kernel
theorem dX9_parseReference_32 : decode cX9_parseReference 32 = .ok (.aload_n 0, 1) := by decide +kernel
theorem dX9_parseReference_33 : decode cX9_parseReference 33 = .ok (.getfield 15, 3) := by decide +kernel
theorem dX9_parseReference_36 : decode cX9_parseReference 36 = .ok (.getfield 73, 3) := by decide +kernel
theorem dX9_parseReference_39 : decode cX9_parseReference 39 = .ok (.iload_n 2, 1) := by decide +kernel
theorem dX9_parseReference_40 : decode cX9_parseReference 40 = .ok (.aaload, 1) := by decide +kernel
theorem dX9_parseReference_41 : decode cX9_parseReference 41 = .ok (.invokevirtual 157, 3) := by decide +kernel
theorem dX9_parseReference_44 : decode cX9_parseReference 44 = .ok (.ifCond .ne 14, 3) := by decide +kernel
theorem dX9_parseReference_47 : decode cX9_parseReference 47 = .ok (.aload_n 0, 1) := by decide +kernel
theorem dX9_parseReference_48 : decode cX9_parseReference 48 = .ok (.aload_n 0, 1) := by decide +kernel
theorem dX9_parseReference_49 : decode cX9_parseReference 49 = .ok (.getfield 19, 3) := by decide +kernel
theorem dX9_parseReference_52 : decode cX9_parseReference 52 = .ok (.invokevirtual 59, 3) := by decide +kernel
theorem dX9_parseReference_55 : decode cX9_parseReference 55 = .ok (.pop, 1) := by decide +kernel
theorem dX9_parseReference_56 : decode cX9_parseReference 56 = .ok (.iconst (-1), 1) := by decide +kernel
theorem dX9_parseReference_57 : decode cX9_parseReference 57 = .ok (.ireturn, 1) := by decide +kernel
theorem dX9_parseReference_58 : decode cX9_parseReference 58 = .ok (.aload_n 0, 1) := by decide +kernel
theorem dX9_parseReference_59 : decode cX9_parseReference 59 = .ok (.aload_n 0, 1) := by decide +kernel
theorem dX9_parseReference_60 : decode cX9_parseReference 60 = .ok (.getfield 19, 3) := by decide +kernel
theorem dX9_parseReference_63 : decode cX9_parseReference 63 = .ok (.iconst 1, 1) := by decide +kernel
theorem dX9_parseReference_64 : decode cX9_parseReference 64 = .ok (.iadd, 1) := by decide +kernel
theorem dX9_parseReference_65 : decode cX9_parseReference 65 = .ok (.invokevirtual 36, 3) := by decide +kernel
theorem dX9_parseReference_68 : decode cX9_parseReference 68 = .ok (.iload_n 2, 1) := by decide +kernel
theorem dX9_parseReference_69 : decode cX9_parseReference 69 = .ok (.ireturn, 1) := by decide +kernel
theorem vc_X9_parseReference_0 {G : zG} {d : Nat} {Q : Option zV → zHp → Prop} (p1 : Int) (h : zHp) (hS : zSh h) (hd : 2 ≤ d)  
    (hv : (wpN G (d - 1) M_X9_isName 0 (zar 0 [vI (gI h 211 3)]) [] h (qI (fun z1 h2 => zSh h2 ∧ ((z1 = 0 → (wpN G (d - 1) M_X9_refuse 0 (zar 0 [vR 211, vI (gI h2 211 2)]) [] h2 (qI (fun z7 h8 => zSh h8 ∧ Q (some (vI (-1))) h8)))) ∧ (z1 ≠ 0 → (zT 369 (gR h2 211 1) = (108, 2) ∧ (wpN G (d - 1) M_X8_lookUp 0 (zar 0 [vR (gR h2 211 1), vI p1, vI (gI h2 211 3)]) [] h2 (qI (fun z11 h12 => zSh h12 ∧ ((z11 = (-1) → (wpN G (d - 1) M_X9_refuse 0 (zar 0 [vR 211, vI (gI h12 211 2)]) [] h12 (qI (fun z16 h17 => zSh h17 ∧ Q (some (vI (-1))) h17)))) ∧ (z11 ≠ (-1) → (zT 369 (gR h12 211 1) = (108, 2) ∧ (((0 : Int) ≤ z11 ∧ z11 < ((24 : Nat) : Int)) ∧ (wpN G (d - 1) M_X5_isPlainInteger 0 (zar 0 [vR ((gR h12 211 1) + 2 + z11.toNat)]) [] h12 (qI (fun z20 h21 => zSh h21 ∧ ((z20 ≠ 0 → ((-2147483648 ≤ (gI h21 211 2) + 1 ∧ (gI h21 211 2) + 1 ≤ 2147483647) ∧ (wpN G (d - 1) M_X9_moveTo 0 (zar 0 [vR 211, vI ((gI h21 211 2) + 1)]) [] h21 (qV (fun h26 => zSh h26 ∧ Q (some (vI z11)) h26))))) ∧ (z20 = 0 → (wpN G (d - 1) M_X9_refuse 0 (zar 0 [vR 211, vI (gI h21 211 2)]) [] h21 (qI (fun z29 h30 => zSh h30 ∧ Q (some (vI (-1))) h30)))))))))))))))))))))) : wpN G d M_X9_parseReference 0 [(0, vR 211), (1, vI p1)] [] h Q := by
  refine wq_aload_n 0 rfl rfl dX9_parseReference_0 ?_
  refine wq_getI fk_X9_25 tT_211 (fun _ _ _ => rfl) dX9_parseReference_1 ?_
  refine wN_S (As := [vI (gI h 211 3)]) md_X9_isName ms_X9_isName lk_X9_112 rfl rfl (Nat.le_of_ble_eq_true rfl) (Nat.le_of_ble_eq_true rfl) (d' := d - 1) (by omega) dX9_parseReference_4 hv (fun v9 h2 q3 => ?_)
  obtain ⟨z1, rfl, hS4, q3⟩ := q3
  refine wq_st (st' := [vI z1]) rfl ?_
  refine wq_if_eq 25 rfl dX9_parseReference_7 (fun c5 => ?_) (fun c5 => ?_)
  · refine wq_iconst (z := -1) (zlit rfl) dX9_parseReference_25 ?_
    refine wq_istore_n (ls' := [(0, vR 211), (1, vI p1), (2, vI (-1))]) rfl (by decide) rfl dX9_parseReference_26 ?_
    refine wq_iload_n 2 rfl rfl dX9_parseReference_27 ?_
    refine wq_iconst (z := -1) (zlit rfl) dX9_parseReference_28 ?_
    refine wq_icmp_eq 47 rfl dX9_parseReference_29 (fun _ => ?_) (fun c6 => absurd c6 (by decide))
    refine wq_aload_n 0 rfl rfl dX9_parseReference_47 ?_
    refine wq_aload_n 0 rfl rfl dX9_parseReference_48 ?_
    refine wq_getI fk_X9_19 tT_211 (fun _ _ _ => rfl) dX9_parseReference_49 ?_
    refine wN_V (As := [vI (gI h2 211 2)]) vm_X9_refuse lk_X9_59 tT_211 rfl rfl (Nat.le_of_ble_eq_true rfl) (Nat.le_of_ble_eq_true rfl) (d' := d - 1) (by omega) dX9_parseReference_52 (q3.1 c5) (fun v9 h8 q9 => ?_)
    obtain ⟨z7, rfl, hS10, q9⟩ := q9
    refine wq_st (st' := [vI z7]) rfl ?_
    refine wq_pop rfl dX9_parseReference_55 ?_
    refine wq_iconst (z := -1) (zlit rfl) dX9_parseReference_56 ?_
    exact wp_iret rfl dX9_parseReference_57 q9
  · refine wq_aload_n 0 rfl rfl dX9_parseReference_10 ?_
    refine wq_getR fk_X9_15 tT_211 (fun _ _ _ => rfl) rfl (zT_nz (q3.2 c5).1 (by decide)) dX9_parseReference_11 ?_
    refine wq_iload_n 1 rfl rfl dX9_parseReference_14 ?_
    refine wq_aload_n 0 rfl rfl dX9_parseReference_15 ?_
    refine wq_getI fk_X9_25 tT_211 (fun _ _ _ => rfl) dX9_parseReference_16 ?_
    refine wN_V (As := [vI p1, vI (gI h2 211 3)]) vm_X8_lookUp lk_X9_154 (q3.2 c5).1 rfl rfl (Nat.le_of_ble_eq_true rfl) (Nat.le_of_ble_eq_true rfl) (d' := d - 1) (by omega) dX9_parseReference_19 (q3.2 c5).2 (fun v9 h12 q13 => ?_)
    obtain ⟨z11, rfl, hS14, q13⟩ := q13
    refine wq_st (st' := [vI z11]) rfl ?_
    refine wq_goto 26 rfl dX9_parseReference_22 ?_
    refine wq_istore_n (ls' := [(0, vR 211), (1, vI p1), (2, vI z11)]) rfl (by decide) rfl dX9_parseReference_26 ?_
    refine wq_iload_n 2 rfl rfl dX9_parseReference_27 ?_
    refine wq_iconst (z := -1) (zlit rfl) dX9_parseReference_28 ?_
    refine wq_icmp_eq 47 rfl dX9_parseReference_29 (fun c15 => ?_) (fun c15 => ?_)
    · refine wq_aload_n 0 rfl rfl dX9_parseReference_47 ?_
      refine wq_aload_n 0 rfl rfl dX9_parseReference_48 ?_
      refine wq_getI fk_X9_19 tT_211 (fun _ _ _ => rfl) dX9_parseReference_49 ?_
      refine wN_V (As := [vI (gI h12 211 2)]) vm_X9_refuse lk_X9_59 tT_211 rfl rfl (Nat.le_of_ble_eq_true rfl) (Nat.le_of_ble_eq_true rfl) (d' := d - 1) (by omega) dX9_parseReference_52 (q13.1 c15) (fun v9 h17 q18 => ?_)
      obtain ⟨z16, rfl, hS19, q18⟩ := q18
      refine wq_st (st' := [vI z16]) rfl ?_
      refine wq_pop rfl dX9_parseReference_55 ?_
      refine wq_iconst (z := -1) (zlit rfl) dX9_parseReference_56 ?_
      exact wp_iret rfl dX9_parseReference_57 q18
    · refine wq_aload_n 0 rfl rfl dX9_parseReference_32 ?_
      refine wq_getR fk_X9_15 tT_211 (fun _ _ _ => rfl) rfl (zT_nz (q13.2 c15).1 (by decide)) dX9_parseReference_33 ?_
      refine wq_getR (r := ((gR h12 211 1) + 1)) fk_X9_73 (q13.2 c15).1 (fun _ _ _ => rfl) (sh_8_0 hS14 (q13.2 c15).1) (by omega) dX9_parseReference_36 ?_
      refine wq_iload_n 2 rfl rfl dX9_parseReference_39 ?_
      refine wq_aald (r := ((gR h12 211 1) + 2 + z11.toNat)) (ztm0 (q13.2 c15).1) (by decide) (by decide) rfl (q13.2 c15).2.1.1 (q13.2 c15).2.1.2 (sh_itm hS14 (q13.2 c15).1 (zlt_n (q13.2 c15).2.1.1 (q13.2 c15).2.1.2)) (by omega) dX9_parseReference_40 ?_
      refine wN_V (As := []) vm_X5_isPlainInteger lk_X9_157 (zitm (q13.2 c15).1 (zlt_n (q13.2 c15).2.1.1 (q13.2 c15).2.1.2)) rfl rfl (Nat.le_of_ble_eq_true rfl) (Nat.le_of_ble_eq_true rfl) (d' := d - 1) (by omega) dX9_parseReference_41 (q13.2 c15).2.2 (fun v9 h21 q22 => ?_)
      obtain ⟨z20, rfl, hS23, q22⟩ := q22
      refine wq_st (st' := [vI z20]) rfl ?_
      refine wq_if_ne 58 rfl dX9_parseReference_44 (fun c24 => ?_) (fun c24 => ?_)
      · refine wq_aload_n 0 rfl rfl dX9_parseReference_58 ?_
        refine wq_aload_n 0 rfl rfl dX9_parseReference_59 ?_
        refine wq_getI fk_X9_19 tT_211 (fun _ _ _ => rfl) dX9_parseReference_60 ?_
        refine wq_iconst (z := 1) (zlit rfl) dX9_parseReference_63 ?_
        refine wq_iadd (q22.1 c24).1 dX9_parseReference_64 ?_
        refine wN_V (As := [vI ((gI h21 211 2) + 1)]) vm_X9_moveTo lk_X9_36 tT_211 rfl rfl (Nat.le_of_ble_eq_true rfl) (Nat.le_of_ble_eq_true rfl) (d' := d - 1) (by omega) dX9_parseReference_65 (q22.1 c24).2 (fun v9 h26 q27 => ?_)
        obtain ⟨rfl, hS28, q27⟩ := q27
        refine wq_st (st' := []) rfl ?_
        refine wq_iload_n 2 rfl rfl dX9_parseReference_68 ?_
        exact wp_iret rfl dX9_parseReference_69 q27
      · refine wq_aload_n 0 rfl rfl dX9_parseReference_47 ?_
        refine wq_aload_n 0 rfl rfl dX9_parseReference_48 ?_
        refine wq_getI fk_X9_19 tT_211 (fun _ _ _ => rfl) dX9_parseReference_49 ?_
        refine wN_V (As := [vI (gI h21 211 2)]) vm_X9_refuse lk_X9_59 tT_211 rfl rfl (Nat.le_of_ble_eq_true rfl) (Nat.le_of_ble_eq_true rfl) (d' := d - 1) (by omega) dX9_parseReference_52 (q22.2 c24) (fun v9 h30 q31 => ?_)
        obtain ⟨z29, rfl, hS32, q31⟩ := q31
        refine wq_st (st' := [vI z29]) rfl ?_
        refine wq_pop rfl dX9_parseReference_55 ?_
        refine wq_iconst (z := -1) (zlit rfl) dX9_parseReference_56 ?_
        exact wp_iret rfl dX9_parseReference_57 q31
theorem dX9_parseNumber_0 : decode cX9_parseNumber 0 = .ok (.aload_n 0, 1) := by decide +kernel
theorem dX9_parseNumber_1 : decode cX9_parseNumber 1 = .ok (.getfield 25, 3) := by decide +kernel
theorem dX9_parseNumber_4 : decode cX9_parseNumber 4 = .ok (.invokestatic 161, 3) := by decide +kernel
theorem dX9_parseNumber_7 : decode cX9_parseNumber 7 = .ok (.ifCond .ne 14, 3) := by decide +kernel
theorem dX9_parseNumber_10 : decode cX9_parseNumber 10 = .ok (.aload_n 0, 1) := by decide +kernel
theorem dX9_parseNumber_11 : decode cX9_parseNumber 11 = .ok (.aload_n 0, 1) := by decide +kernel
theorem dX9_parseNumber_12 : decode cX9_parseNumber 12 = .ok (.getfield 19, 3) := by decide +kernel
theorem dX9_parseNumber_15 : decode cX9_parseNumber 15 = .ok (.invokevirtual 59, 3) := by decide +kernel
theorem dX9_parseNumber_18 : decode cX9_parseNumber 18 = .ok (.pop, 1) := by decide +kernel
theorem dX9_parseNumber_19 : decode cX9_parseNumber 19 = .ok (.iconst (-1), 1) := by decide +kernel
theorem dX9_parseNumber_20 : decode cX9_parseNumber 20 = .ok (.ireturn, 1) := by decide +kernel
theorem dX9_parseNumber_21 : decode cX9_parseNumber 21 = .ok (.iconst 0, 1) := by decide +kernel
theorem dX9_parseNumber_22 : decode cX9_parseNumber 22 = .ok (.istore_n 1, 1) := by decide +kernel
theorem dX9_parseNumber_23 : decode cX9_parseNumber 23 = .ok (.aload_n 0, 1) := by decide +kernel
theorem dX9_parseNumber_24 : decode cX9_parseNumber 24 = .ok (.getfield 19, 3) := by decide +kernel
theorem dX9_parseNumber_27 : decode cX9_parseNumber 27 = .ok (.istore_n 2, 1) := by decide +kernel
theorem dX9_parseNumber_28 : decode cX9_parseNumber 28 = .ok (.iconst 0, 1) := by decide +kernel
theorem dX9_parseNumber_29 : decode cX9_parseNumber 29 = .ok (.istore_n 3, 1) := by decide +kernel
theorem dX9_parseNumber_30 : decode cX9_parseNumber 30 = .ok (.iload_n 3, 1) := by decide +kernel
theorem dX9_parseNumber_31 : decode cX9_parseNumber 31 = .ok (.iconst 3, 1) := by decide +kernel
theorem dX9_parseNumber_32 : decode cX9_parseNumber 32 = .ok (.if_icmp .ge 43, 3) := by decide +kernel
theorem dX9_parseNumber_35 : decode cX9_parseNumber 35 = .ok (.aload_n 0, 1) := by decide +kernel
theorem dX9_parseNumber_36 : decode cX9_parseNumber 36 = .ok (.getfield 9, 3) := by decide +kernel
theorem dX9_parseNumber_39 : decode cX9_parseNumber 39 = .ok (.iload_n 2, 1) := by decide +kernel
theorem dX9_parseNumber_40 : decode cX9_parseNumber 40 = .ok (.invokevirtual 164, 3) := by decide +kernel
theorem dX9_parseNumber_43 : decode cX9_parseNumber 43 = .ok (.invokestatic 161, 3) := by decide +kernel
theorem dX9_parseNumber_46 : decode cX9_parseNumber 46 = .ok (.ifCond .eq 29, 3) := by decide +kernel
theorem dX9_parseNumber_49 : decode cX9_parseNumber 49 = .ok (.bipush 10, 2) := by decide +kernel
theorem dX9_parseNumber_51 : decode cX9_parseNumber 51 = .ok (.iload_n 1, 1) := by decide +kernel
theorem dX9_parseNumber_52 : decode cX9_parseNumber 52 = .ok (.imul, 1) := by decide +kernel
theorem dX9_parseNumber_53 : decode cX9_parseNumber 53 = .ok (.aload_n 0, 1) := by decide +kernel
theorem dX9_parseNumber_54 : decode cX9_parseNumber 54 = .ok (.getfield 9, 3) := by decide +kernel
theorem dX9_parseNumber_57 : decode cX9_parseNumber 57 = .ok (.iload_n 2, 1) := by decide +kernel
theorem dX9_parseNumber_58 : decode cX9_parseNumber 58 = .ok (.invokevirtual 164, 3) := by decide +kernel
theorem dX9_parseNumber_61 : decode cX9_parseNumber 61 = .ok (.iadd, 1) := by decide +kernel
theorem dX9_parseNumber_62 : decode cX9_parseNumber 62 = .ok (.bipush 48, 2) := by decide +kernel
theorem dX9_parseNumber_64 : decode cX9_parseNumber 64 = .ok (.isub, 1) := by decide +kernel
theorem dX9_parseNumber_65 : decode cX9_parseNumber 65 = .ok (.istore_n 1, 1) := by decide +kernel
theorem dX9_parseNumber_66 : decode cX9_parseNumber 66 = .ok (.iinc 2 1, 3) := by decide +kernel
theorem dX9_parseNumber_69 : decode cX9_parseNumber 69 = .ok (.iinc 3 1, 3) := by decide +kernel
theorem dX9_parseNumber_72 : decode cX9_parseNumber 72 = .ok (.goto (-42), 3) := by decide +kernel
theorem dX9_parseNumber_75 : decode cX9_parseNumber 75 = .ok (.aload_n 0, 1) := by decide +kernel
theorem dX9_parseNumber_76 : decode cX9_parseNumber 76 = .ok (.iload_n 2, 1) := by decide +kernel
theorem dX9_parseNumber_77 : decode cX9_parseNumber 77 = .ok (.invokevirtual 36, 3) := by decide +kernel
theorem dX9_parseNumber_80 : decode cX9_parseNumber 80 = .ok (.iload_n 1, 1) := by decide +kernel
theorem dX9_parseNumber_81 : decode cX9_parseNumber 81 = .ok (.ireturn, 1) := by decide +kernel
theorem vc_X9_parseNumber_0 {G : zG} {d : Nat} {Q : Option zV → zHp → Prop}  (h : zHp) (hS : zSh h) (hd : 2 ≤ d) (I_30 : Int → Int → Int → zHp → Prop) (hI_30 : ∀ (y1 : Int) (y2 : Int) (y3 : Int) (h' : zHp), I_30 y1 y2 y3 h' → wpN G d M_X9_parseNumber 30 [(0, vR 211), (1, vI y1), (2, vI y2), (3, vI y3)] [] h' Q) 
    (hv : (wpN G (d - 1) M_X9_isDigit 0 (zar 0 [vI (gI h 211 3)]) [] h (qI (fun z1 h2 => zSh h2 ∧ ((z1 ≠ 0 → (∀ x6 : Int, x6 = (gI h2 211 2) → (zSh h2 → I_30 0 x6 0 h2))) ∧ (z1 = 0 → (wpN G (d - 1) M_X9_refuse 0 (zar 0 [vR 211, vI (gI h2 211 2)]) [] h2 (qI (fun z8 h9 => zSh h9 ∧ Q (some (vI (-1))) h9))))))))) : wpN G d M_X9_parseNumber 0 [(0, vR 211)] [] h Q := by
  refine wq_aload_n 0 rfl rfl dX9_parseNumber_0 ?_
  refine wq_getI fk_X9_25 tT_211 (fun _ _ _ => rfl) dX9_parseNumber_1 ?_
  refine wN_S (As := [vI (gI h 211 3)]) md_X9_isDigit ms_X9_isDigit lk_X9_161 rfl rfl (Nat.le_of_ble_eq_true rfl) (Nat.le_of_ble_eq_true rfl) (d' := d - 1) (by omega) dX9_parseNumber_4 hv (fun v9 h2 q3 => ?_)
  obtain ⟨z1, rfl, hS4, q3⟩ := q3
  refine wq_st (st' := [vI z1]) rfl ?_
  refine wq_if_ne 21 rfl dX9_parseNumber_7 (fun c5 => ?_) (fun c5 => ?_)
  · refine wq_iconst (z := 0) (zlit rfl) dX9_parseNumber_21 ?_
    refine wq_istore_n (ls' := [(0, vR 211), (1, vI 0)]) rfl (by decide) rfl dX9_parseNumber_22 ?_
    refine wq_aload_n 0 rfl rfl dX9_parseNumber_23 ?_
    refine wq_getI fk_X9_19 tT_211 (fun _ _ _ => rfl) dX9_parseNumber_24 ?_
    refine wq_topI (fun x6 e7 => ?_)
    refine wq_istore_n (ls' := [(0, vR 211), (1, vI 0), (2, vI x6)]) rfl (by decide) rfl dX9_parseNumber_27 ?_
    refine wq_iconst (z := 0) (zlit rfl) dX9_parseNumber_28 ?_
    refine wq_istore_n (ls' := [(0, vR 211), (1, vI 0), (2, vI x6), (3, vI 0)]) rfl (by decide) rfl dX9_parseNumber_29 ?_
    exact wq_pick [0, 1, 2, 3] rfl (hI_30 0 x6 0 h2 (((q3.1 c5) x6 e7) hS4))
  · refine wq_aload_n 0 rfl rfl dX9_parseNumber_10 ?_
    refine wq_aload_n 0 rfl rfl dX9_parseNumber_11 ?_
    refine wq_getI fk_X9_19 tT_211 (fun _ _ _ => rfl) dX9_parseNumber_12 ?_
    refine wN_V (As := [vI (gI h2 211 2)]) vm_X9_refuse lk_X9_59 tT_211 rfl rfl (Nat.le_of_ble_eq_true rfl) (Nat.le_of_ble_eq_true rfl) (d' := d - 1) (by omega) dX9_parseNumber_15 (q3.2 c5) (fun v9 h9 q10 => ?_)
    obtain ⟨z8, rfl, hS11, q10⟩ := q10
    refine wq_st (st' := [vI z8]) rfl ?_
    refine wq_pop rfl dX9_parseNumber_18 ?_
    refine wq_iconst (z := -1) (zlit rfl) dX9_parseNumber_19 ?_
    exact wp_iret rfl dX9_parseNumber_20 q10
theorem vc_X9_parseNumber_30 {G : zG} {d : Nat} {Q : Option zV → zHp → Prop} (y1 : Int) (y2 : Int) (y3 : Int) (h : zHp) (hS : zSh h) (hd : 2 ≤ d) (I_30 : Int → Int → Int → zHp → Prop) (hI_30 : ∀ (y1 : Int) (y2 : Int) (y3 : Int) (h' : zHp), I_30 y1 y2 y3 h' → wpN G d M_X9_parseNumber 30 [(0, vR 211), (1, vI y1), (2, vI y2), (3, vI y3)] [] h' Q) 
    (hv : ((3 ≤ y3 → (wpN G (d - 1) M_X9_moveTo 0 (zar 0 [vR 211, vI y2]) [] h (qV (fun h3 => zSh h3 ∧ Q (some (vI y1)) h3)))) ∧ (y3 < 3 → (wpN G (d - 1) M_X0_get 0 (zar 0 [vR 2, vI y2]) [] h (qI (fun z6 h7 => zSh h7 ∧ (wpN G (d - 1) M_X9_isDigit 0 (zar 0 [vI z6]) [] h7 (qI (fun z10 h11 => zSh h11 ∧ ((z10 = 0 → (wpN G (d - 1) M_X9_moveTo 0 (zar 0 [vR 211, vI y2]) [] h11 (qV (fun h16 => zSh h16 ∧ Q (some (vI y1)) h16)))) ∧ (z10 ≠ 0 → ((-2147483648 ≤ 10 * y1 ∧ 10 * y1 ≤ 2147483647) ∧ (wpN G (d - 1) M_X0_get 0 (zar 0 [vR 2, vI y2]) [] h11 (qI (fun z19 h20 => zSh h20 ∧ ((-2147483648 ≤ (10 * y1) + z19 ∧ (10 * y1) + z19 ≤ 2147483647) ∧ ((-2147483648 ≤ ((10 * y1) + z19) - 48 ∧ ((10 * y1) + z19) - 48 ≤ 2147483647) ∧ (∀ x23 : Int, x23 = (((10 * y1) + z19) - 48) → ((-2147483648 ≤ y2 + 1 ∧ y2 + 1 ≤ 2147483647) ∧ ∀ x25 : Int, x25 = y2 + 1 → ((-2147483648 ≤ y3 + 1 ∧ y3 + 1 ≤ 2147483647) ∧ ∀ x27 : Int, x27 = y3 + 1 → (zSh h20 → I_30 x23 x25 x27 h20))))))))))))))))))))) : wpN G d M_X9_parseNumber 30 [(0, vR 211), (1, vI y1), (2, vI y2), (3, vI y3)] [] h Q := by
  refine wq_iload_n 3 rfl rfl dX9_parseNumber_30 ?_
  refine wq_iconst (z := 3) (zlit rfl) dX9_parseNumber_31 ?_
  refine wq_icmp_ge 75 rfl dX9_parseNumber_32 (fun c1 => ?_) (fun c1 => ?_)
  · refine wq_aload_n 0 rfl rfl dX9_parseNumber_75 ?_
    refine wq_iload_n 2 rfl rfl dX9_parseNumber_76 ?_
    refine wN_V (As := [vI y2]) vm_X9_moveTo lk_X9_36 tT_211 rfl rfl (Nat.le_of_ble_eq_true rfl) (Nat.le_of_ble_eq_true rfl) (d' := d - 1) (by omega) dX9_parseNumber_77 (hv.1 c1) (fun v9 h3 q4 => ?_)
    obtain ⟨rfl, hS5, q4⟩ := q4
    refine wq_st (st' := []) rfl ?_
    refine wq_iload_n 1 rfl rfl dX9_parseNumber_80 ?_
    exact wp_iret rfl dX9_parseNumber_81 q4
  · refine wq_aload_n 0 rfl rfl dX9_parseNumber_35 ?_
    refine wq_getR fk_X9_9 tT_211 (fun _ _ _ => rfl) (sh_9_0 hS) (by decide) dX9_parseNumber_36 ?_
    refine wq_iload_n 2 rfl rfl dX9_parseNumber_39 ?_
    refine wN_V (As := [vI y2]) vm_X0_get lk_X9_164 tT_2 rfl rfl (Nat.le_of_ble_eq_true rfl) (Nat.le_of_ble_eq_true rfl) (d' := d - 1) (by omega) dX9_parseNumber_40 (hv.2 c1) (fun v9 h7 q8 => ?_)
    obtain ⟨z6, rfl, hS9, q8⟩ := q8
    refine wq_st (st' := [vI z6]) rfl ?_
    refine wN_S (As := [vI z6]) md_X9_isDigit ms_X9_isDigit lk_X9_161 rfl rfl (Nat.le_of_ble_eq_true rfl) (Nat.le_of_ble_eq_true rfl) (d' := d - 1) (by omega) dX9_parseNumber_43 q8 (fun v9 h11 q12 => ?_)
    obtain ⟨z10, rfl, hS13, q12⟩ := q12
    refine wq_st (st' := [vI z10]) rfl ?_
    refine wq_if_eq 75 rfl dX9_parseNumber_46 (fun c14 => ?_) (fun c14 => ?_)
    · refine wq_aload_n 0 rfl rfl dX9_parseNumber_75 ?_
      refine wq_iload_n 2 rfl rfl dX9_parseNumber_76 ?_
      refine wN_V (As := [vI y2]) vm_X9_moveTo lk_X9_36 tT_211 rfl rfl (Nat.le_of_ble_eq_true rfl) (Nat.le_of_ble_eq_true rfl) (d' := d - 1) (by omega) dX9_parseNumber_77 (q12.1 c14) (fun v9 h16 q17 => ?_)
      obtain ⟨rfl, hS18, q17⟩ := q17
      refine wq_st (st' := []) rfl ?_
      refine wq_iload_n 1 rfl rfl dX9_parseNumber_80 ?_
      exact wp_iret rfl dX9_parseNumber_81 q17
    · refine wq_bipush (z := 10) (zlit rfl) rfl dX9_parseNumber_49 ?_
      refine wq_iload_n 1 rfl rfl dX9_parseNumber_51 ?_
      refine wq_imul (q12.2 c14).1 dX9_parseNumber_52 ?_
      refine wq_aload_n 0 rfl rfl dX9_parseNumber_53 ?_
      refine wq_getR fk_X9_9 tT_211 (fun _ _ _ => rfl) (sh_9_0 hS13) (by decide) dX9_parseNumber_54 ?_
      refine wq_iload_n 2 rfl rfl dX9_parseNumber_57 ?_
      refine wN_V (As := [vI y2]) vm_X0_get lk_X9_164 tT_2 rfl rfl (Nat.le_of_ble_eq_true rfl) (Nat.le_of_ble_eq_true rfl) (d' := d - 1) (by omega) dX9_parseNumber_58 (q12.2 c14).2 (fun v9 h20 q21 => ?_)
      obtain ⟨z19, rfl, hS22, q21⟩ := q21
      refine wq_st (st' := [vI z19, vI (10 * y1)]) rfl ?_
      refine wq_iadd q21.1 dX9_parseNumber_61 ?_
      refine wq_bipush (z := 48) (zlit rfl) rfl dX9_parseNumber_62 ?_
      refine wq_isub q21.2.1 dX9_parseNumber_64 ?_
      refine wq_topI (fun x23 e24 => ?_)
      refine wq_istore_n (ls' := [(0, vR 211), (1, vI x23), (2, vI y2), (3, vI y3)]) rfl (by decide) rfl dX9_parseNumber_65 ?_
      refine z_nm (y2 + 1) (fun x25 e26 => ?_)
      refine wq_iinc (y := x25) (ls' := [(0, vR 211), (1, vI x23), (2, vI x25), (3, vI y3)]) 2 rfl e26.symm (by rw [e26]; exact (q21.2.2 x23 e24).1) (by decide) rfl dX9_parseNumber_66 ?_
      refine z_nm (y3 + 1) (fun x27 e28 => ?_)
      refine wq_iinc (y := x27) (ls' := [(0, vR 211), (1, vI x23), (2, vI x25), (3, vI x27)]) 3 rfl e28.symm (by rw [e28]; exact ((q21.2.2 x23 e24).2 x25 e26).1) (by decide) rfl dX9_parseNumber_69 ?_
      refine wq_goto 30 rfl dX9_parseNumber_72 ?_
      exact wq_pick [0, 1, 2, 3] rfl (hI_30 x23 x25 x27 h20 ((((q21.2.2 x23 e24).2 x25 e26).2 x27 e28) hS22))
theorem dX9_isName_0 : decode cX9_isName 0 = .ok (.iload_n 0, 1) := by decide +kernel
theorem dX9_isName_1 : decode cX9_isName 1 = .ok (.bipush 97, 2) := by decide +kernel
theorem dX9_isName_3 : decode cX9_isName 3 = .ok (.if_icmp .lt 13, 3) := by decide +kernel
theorem dX9_isName_6 : decode cX9_isName 6 = .ok (.iload_n 0, 1) := by decide +kernel
theorem dX9_isName_7 : decode cX9_isName 7 = .ok (.bipush 122, 2) := by decide +kernel
theorem dX9_isName_9 : decode cX9_isName 9 = .ok (.if_icmp .gt 7, 3) := by decide +kernel
theorem dX9_isName_12 : decode cX9_isName 12 = .ok (.iconst 1, 1) := by decide +kernel
theorem dX9_isName_13 : decode cX9_isName 13 = .ok (.goto 4, 3) := by decide +kernel
theorem dX9_isName_16 : decode cX9_isName 16 = .ok (.iconst 0, 1) := by decide +kernel
theorem dX9_isName_17 : decode cX9_isName 17 = .ok (.ireturn, 1) := by decide +kernel
theorem vc_X9_isName_0 {G : zG} {d : Nat} {Q : Option zV → zHp → Prop} (p1 : Int) (h : zHp) (hS : zSh h) (hd : 0 ≤ d)  
    (hv : ((p1 < 97 → Q (some (vI 0)) h) ∧ (97 ≤ p1 → ((122 < p1 → Q (some (vI 0)) h) ∧ (p1 ≤ 122 → Q (some (vI 1)) h))))) : wpN G d M_X9_isName 0 [(0, vI p1)] [] h Q := by
  refine wq_iload_n 0 rfl rfl dX9_isName_0 ?_
  refine wq_bipush (z := 97) (zlit rfl) rfl dX9_isName_1 ?_
  refine wq_icmp_lt 16 rfl dX9_isName_3 (fun c1 => ?_) (fun c1 => ?_)
  · refine wq_iconst (z := 0) (zlit rfl) dX9_isName_16 ?_
    exact wp_zret (Or.inl rfl) rfl dX9_isName_17 (hv.1 c1)
  · refine wq_iload_n 0 rfl rfl dX9_isName_6 ?_
    refine wq_bipush (z := 122) (zlit rfl) rfl dX9_isName_7 ?_
    refine wq_icmp_gt 16 rfl dX9_isName_9 (fun c2 => ?_) (fun c2 => ?_)
    · refine wq_iconst (z := 0) (zlit rfl) dX9_isName_16 ?_
      exact wp_zret (Or.inl rfl) rfl dX9_isName_17 ((hv.2 c1).1 c2)
    · refine wq_iconst (z := 1) (zlit rfl) dX9_isName_12 ?_
      refine wq_goto 17 rfl dX9_isName_13 ?_
      exact wp_zret (Or.inr rfl) rfl dX9_isName_17 ((hv.2 c1).2 c2)
theorem dX9_isDigit_0 : decode cX9_isDigit 0 = .ok (.iload_n 0, 1) := by decide +kernel
theorem dX9_isDigit_1 : decode cX9_isDigit 1 = .ok (.bipush 48, 2) := by decide +kernel
theorem dX9_isDigit_3 : decode cX9_isDigit 3 = .ok (.if_icmp .lt 13, 3) := by decide +kernel
theorem dX9_isDigit_6 : decode cX9_isDigit 6 = .ok (.iload_n 0, 1) := by decide +kernel
theorem dX9_isDigit_7 : decode cX9_isDigit 7 = .ok (.bipush 57, 2) := by decide +kernel
theorem dX9_isDigit_9 : decode cX9_isDigit 9 = .ok (.if_icmp .gt 7, 3) := by decide +kernel
theorem dX9_isDigit_12 : decode cX9_isDigit 12 = .ok (.iconst 1, 1) := by decide +kernel
theorem dX9_isDigit_13 : decode cX9_isDigit 13 = .ok (.goto 4, 3) := by decide +kernel
theorem dX9_isDigit_16 : decode cX9_isDigit 16 = .ok (.iconst 0, 1) := by decide +kernel
theorem dX9_isDigit_17 : decode cX9_isDigit 17 = .ok (.ireturn, 1) := by decide +kernel
theorem vc_X9_isDigit_0 {G : zG} {d : Nat} {Q : Option zV → zHp → Prop} (p1 : Int) (h : zHp) (hS : zSh h) (hd : 0 ≤ d)  
    (hv : ((p1 < 48 → Q (some (vI 0)) h) ∧ (48 ≤ p1 → ((57 < p1 → Q (some (vI 0)) h) ∧ (p1 ≤ 57 → Q (some (vI 1)) h))))) : wpN G d M_X9_isDigit 0 [(0, vI p1)] [] h Q := by
  refine wq_iload_n 0 rfl rfl dX9_isDigit_0 ?_
  refine wq_bipush (z := 48) (zlit rfl) rfl dX9_isDigit_1 ?_
  refine wq_icmp_lt 16 rfl dX9_isDigit_3 (fun c1 => ?_) (fun c1 => ?_)
  · refine wq_iconst (z := 0) (zlit rfl) dX9_isDigit_16 ?_
    exact wp_zret (Or.inl rfl) rfl dX9_isDigit_17 (hv.1 c1)
  · refine wq_iload_n 0 rfl rfl dX9_isDigit_6 ?_
    refine wq_bipush (z := 57) (zlit rfl) rfl dX9_isDigit_7 ?_
    refine wq_icmp_gt 16 rfl dX9_isDigit_9 (fun c2 => ?_) (fun c2 => ?_)
    · refine wq_iconst (z := 0) (zlit rfl) dX9_isDigit_16 ?_
      exact wp_zret (Or.inl rfl) rfl dX9_isDigit_17 ((hv.2 c1).1 c2)
    · refine wq_iconst (z := 1) (zlit rfl) dX9_isDigit_12 ?_
      refine wq_goto 17 rfl dX9_isDigit_13 ?_
      exact wp_zret (Or.inr rfl) rfl dX9_isDigit_17 ((hv.2 c1).2 c2)
